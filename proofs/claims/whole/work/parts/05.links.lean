def k_nest : List Jvm.Cond := [(Jvm.Cond.methodLinkNest "StandUpBook" (21 : Nat) ({ cls := "StandUpBook$Text", name := "<init>", desc := "()V" } : Jvm.MethodName) "StandUpBook"), (Jvm.Cond.methodLinkNest "StandUpBook" (28 : Nat) ({ cls := "StandUpBook$Walk", name := "<init>", desc := "()V" } : Jvm.MethodName) "StandUpBook"), (Jvm.Cond.methodLinkNest "StandUpBook" (59 : Nat) ({ cls := "StandUpBook$Vee", name := "<init>", desc := "()V" } : Jvm.MethodName) "StandUpBook"), (Jvm.Cond.methodLinkNest "StandUpBook" (62 : Nat) ({ cls := "StandUpBook$Tent", name := "<init>", desc := "()V" } : Jvm.MethodName) "StandUpBook"), (Jvm.Cond.methodLinkNest "StandUpBook$Tent" (3 : Nat) ({ cls := "StandUpBook$Vee", name := "<init>", desc := "()V" } : Jvm.MethodName) "StandUpBook"), (Jvm.Cond.methodLinkNest "StandUpBook" (65 : Nat) ({ cls := "StandUpBook$Box", name := "<init>", desc := "()V" } : Jvm.MethodName) "StandUpBook"), (Jvm.Cond.methodLinkNest "StandUpBook$Box" (3 : Nat) ({ cls := "StandUpBook$Vee", name := "<init>", desc := "()V" } : Jvm.MethodName) "StandUpBook"), (Jvm.Cond.methodLinkNest "StandUpBook" (68 : Nat) ({ cls := "StandUpBook$Flap", name := "<init>", desc := "()V" } : Jvm.MethodName) "StandUpBook"), (Jvm.Cond.methodLinkNest "StandUpBook$Flap" (1 : Nat) ({ cls := "StandUpBook$Vee", name := "<init>", desc := "()V" } : Jvm.MethodName) "StandUpBook"), (Jvm.Cond.methodLinkNest "StandUpBook" (71 : Nat) ({ cls := "StandUpBook$Stage", name := "<init>", desc := "()V" } : Jvm.MethodName) "StandUpBook"), (Jvm.Cond.methodLinkNest "StandUpBook$Stage" (1 : Nat) ({ cls := "StandUpBook$Box", name := "<init>", desc := "()V" } : Jvm.MethodName) "StandUpBook"), (Jvm.Cond.methodLinkNest "StandUpBook" (74 : Nat) ({ cls := "StandUpBook$Wheel", name := "<init>", desc := "()V" } : Jvm.MethodName) "StandUpBook"), (Jvm.Cond.methodLinkNest "StandUpBook$Wheel" (1 : Nat) ({ cls := "StandUpBook$Flap", name := "<init>", desc := "()V" } : Jvm.MethodName) "StandUpBook"), (Jvm.Cond.methodLinkNest "StandUpBook$Page" (35 : Nat) ({ cls := "StandUpBook$Piece", name := "<init>", desc := "()V" } : Jvm.MethodName) "StandUpBook"), (Jvm.Cond.methodLinkNest "StandUpBook$Page" (87 : Nat) ({ cls := "StandUpBook", name := "has", desc := "(II)Z" } : Jvm.MethodName) "StandUpBook"), (Jvm.Cond.methodLinkNest "StandUpBook$Piece" (34 : Nat) ({ cls := "StandUpBook", name := "mixed", desc := "(JJ)J" } : Jvm.MethodName) "StandUpBook")]
theorem k_nest_in : ∀ w ∈ k_nest, w ∈ lw_tbl := by
  intro w h
  simp only [k_nest, List.mem_cons, List.not_mem_nil, or_false] at h
  rcases h with rfl | rfl | rfl | rfl | rfl | rfl | rfl | rfl | rfl | rfl | rfl | rfl | rfl | rfl | rfl | rfl
  · exact List.mem_append_right _ (List.mem_of_getElem? (i := 33) (by decide +kernel))
  · exact List.mem_append_right _ (List.mem_of_getElem? (i := 64) (by decide +kernel))
  · exact List.mem_append_right _ (List.mem_of_getElem? (i := 81) (by decide +kernel))
  · exact List.mem_append_right _ (List.mem_of_getElem? (i := 88) (by decide +kernel))
  · exact List.mem_append_right _ (List.mem_of_getElem? (i := 91) (by decide +kernel))
  · exact List.mem_append_right _ (List.mem_of_getElem? (i := 95) (by decide +kernel))
  · exact List.mem_append_right _ (List.mem_of_getElem? (i := 98) (by decide +kernel))
  · exact List.mem_append_right _ (List.mem_of_getElem? (i := 102) (by decide +kernel))
  · exact List.mem_append_right _ (List.mem_of_getElem? (i := 105) (by decide +kernel))
  · exact List.mem_append_right _ (List.mem_of_getElem? (i := 109) (by decide +kernel))
  · exact List.mem_append_right _ (List.mem_of_getElem? (i := 112) (by decide +kernel))
  · exact List.mem_append_right _ (List.mem_of_getElem? (i := 116) (by decide +kernel))
  · exact List.mem_append_right _ (List.mem_of_getElem? (i := 119) (by decide +kernel))
  · exact List.mem_append_right _ (List.mem_of_getElem? (i := 138) (by decide +kernel))
  · exact List.mem_append_right _ (List.mem_of_getElem? (i := 509) (by decide +kernel))
  · exact List.mem_append_right _ (List.mem_of_getElem? (i := 849) (by decide +kernel))
def k_cs : List (Nat × Nat × Nat × Nat × Nat × Nat) := [(0, 3, 6, 8, 58, 0), (0, 3, 6, 0, 58, 0), (0, 3, 6, 5, 58, 0), (0, 3, 6, 1, 58, 0), (0, 3, 6, 10, 58, 0), (0, 3, 6, 6, 58, 0), (0, 9, 7, 0, 59, 3), (0, 9, 7, 5, 59, 3), (0, 13, 7, 0, 60, 2), (0, 13, 7, 5, 60, 2), (0, 17, 7, 0, 61, 0), (0, 17, 7, 5, 61, 0), (1, 1, 6, 8, 58, 0), (1, 1, 6, 0, 58, 0), (1, 1, 6, 5, 58, 0), (1, 1, 6, 1, 58, 0), (1, 1, 6, 10, 58, 0), (1, 1, 6, 6, 58, 0), (1, 7, 7, 1, 59, 3), (1, 7, 7, 10, 59, 3), (1, 11, 7, 1, 60, 2), (1, 11, 7, 10, 60, 2), (2, 35, 6, 3, 29, 0), (2, 36, 2, 3, 31, 1), (2, 40, 2, 2, 10, 0), (2, 65, 3, 8, 61, 0), (2, 65, 3, 0, 3, 0), (2, 65, 3, 5, 41, 0), (2, 65, 3, 1, 61, 0), (2, 65, 3, 10, 69, 0), (2, 65, 3, 6, 61, 0), (2, 80, 2, 3, 30, 0), (2, 87, 1, 0, 114, 2), (2, 91, 0, 0, 14, 2), (2, 94, 0, 0, 227, 1), (2, 99, 3, 8, 59, 3), (2, 99, 3, 0, 1, 3), (2, 99, 3, 5, 40, 3), (2, 99, 3, 1, 5, 3), (2, 99, 3, 10, 67, 3), (2, 99, 3, 6, 43, 3), (2, 103, 3, 8, 60, 2), (2, 103, 3, 0, 2, 2), (2, 103, 3, 5, 2, 2), (2, 103, 3, 1, 6, 2), (2, 103, 3, 10, 68, 2), (2, 103, 3, 6, 60, 2), (2, 106, 2, 2, 20, 2), (2, 110, 2, 2, 22, 1), (2, 114, 2, 2, 21, 2), (2, 120, 2, 2, 16, 1), (2, 123, 2, 2, 25, 1), (2, 126, 2, 3, 32, 1), (3, 34, 1, 0, 128, 2), (4, 35, 5, 2, 7, 1), (4, 42, 2, 2, 8, 1), (4, 46, 2, 4, 36, 0), (4, 49, 2, 2, 9, 1), (5, 1, 6, 0, 0, 0), (5, 1, 6, 5, 0, 0), (5, 7, 7, 5, 1, 3), (5, 11, 7, 5, 3, 0), (6, 3, 6, 8, 58, 0), (6, 3, 6, 0, 58, 0), (6, 3, 6, 5, 58, 0), (6, 3, 6, 1, 58, 0), (6, 3, 6, 10, 58, 0), (6, 3, 6, 6, 58, 0), (6, 9, 7, 6, 59, 3), (7, 34, 2, 7, 54, 0), (7, 37, 2, 7, 47, 1), (7, 43, 2, 7, 53, 1), (7, 47, 2, 2, 10, 0), (7, 53, 2, 7, 48, 2), (7, 61, 2, 7, 49, 1), (7, 66, 2, 7, 50, 1), (7, 71, 2, 7, 51, 2), (7, 75, 2, 7, 52, 0), (7, 78, 2, 2, 8, 1), (7, 85, 2, 2, 11, 5), (7, 89, 2, 2, 12, 1), (7, 110, 2, 7, 56, 1), (7, 114, 2, 7, 57, 1), (7, 117, 2, 7, 55, 0), (9, 25, 2, 9, 63, 2), (9, 32, 2, 9, 64, 3), (10, 1, 6, 1, 4, 0), (10, 1, 6, 10, 4, 0), (10, 7, 7, 10, 5, 3), (10, 11, 7, 10, 6, 2), (10, 15, 4, 10, 61, 0), (11, 21, 6, 7, 44, 0), (11, 28, 6, 9, 62, 0), (11, 59, 6, 8, 58, 0), (11, 59, 6, 0, 58, 0), (11, 59, 6, 5, 58, 0), (11, 59, 6, 1, 58, 0), (11, 59, 6, 10, 58, 0), (11, 59, 6, 6, 58, 0), (11, 62, 6, 6, 42, 0), (11, 65, 6, 0, 0, 0), (11, 65, 6, 5, 0, 0), (11, 68, 6, 1, 4, 0), (11, 68, 6, 10, 4, 0), (11, 71, 6, 5, 39, 0), (11, 74, 6, 10, 66, 0), (11, 75, 5, 4, 33, 1), (11, 84, 5, 2, 7, 1), (11, 89, 0, 0, 113, 3), (11, 93, 2, 11, 106, 0), (11, 103, 2, 4, 34, 1), (11, 107, 2, 2, 10, 0), (11, 111, 2, 11, 109, 0), (11, 117, 2, 2, 11, 5), (11, 124, 2, 7, 45, 1), (11, 127, 2, 7, 46, 1), (11, 134, 2, 2, 9, 1), (11, 138, 0, 0, 112, 1), (11, 145, 2, 11, 108, 0), (11, 148, 2, 4, 35, 0), (11, 151, 2, 2, 12, 1), (11, 154, 2, 2, 21, 2), (11, 158, 2, 11, 110, 1), (11, 176, 2, 2, 13, 1), (11, 180, 2, 4, 37, 0), (11, 201, 2, 3, 30, 0), (11, 204, 2, 2, 15, 2), (11, 207, 2, 2, 16, 1), (11, 213, 2, 2, 20, 2), (11, 220, 2, 11, 115, 1), (11, 223, 0, 0, 114, 2), (11, 227, 2, 2, 23, 1), (11, 230, 2, 2, 26, 0), (11, 233, 2, 2, 27, 0), (11, 236, 2, 11, 111, 1), (11, 239, 2, 11, 107, 0), (11, 248, 2, 9, 63, 2), (11, 251, 2, 9, 64, 3), (11, 255, 2, 9, 65, 2), (11, 258, 2, 2, 18, 1), (11, 261, 0, 0, 116, 4), (11, 272, 2, 11, 117, 1), (11, 275, 2, 11, 119, 4), (11, 278, 2, 11, 121, 0), (11, 281, 2, 2, 24, 1), (11, 284, 2, 11, 122, 2), (11, 287, 2, 2, 17, 0), (11, 290, 0, 0, 227, 1), (11, 295, 0, 0, 125, 2), (11, 299, 2, 11, 126, 2), (11, 314, 2, 4, 38, 1), (11, 317, 2, 2, 19, 0), (11, 322, 2, 11, 104, 1), (11, 325, 0, 0, 128, 2), (11, 329, 2, 2, 28, 1), (11, 333, 0, 0, 129, 3), (11, 345, 2, 11, 118, 2), (11, 352, 3, 8, 59, 3), (11, 352, 3, 0, 1, 3), (11, 352, 3, 5, 40, 3), (11, 352, 3, 1, 5, 3), (11, 352, 3, 10, 67, 3), (11, 352, 3, 6, 43, 3), (11, 355, 2, 11, 120, 5), (11, 358, 2, 11, 123, 2), (11, 361, 2, 11, 124, 2), (11, 364, 0, 0, 127, 2), (12, 92, 2, 12, 140, 1), (12, 115, 0, 0, 134, 3), (12, 119, 2, 12, 130, 0), (12, 123, 2, 12, 133, 0), (12, 126, 2, 12, 145, 5), (12, 136, 2, 12, 149, 0), (12, 139, 0, 0, 151, 1), (12, 143, 2, 12, 153, 0), (12, 146, 2, 12, 154, 1), (12, 150, 2, 12, 150, 0), (12, 153, 0, 0, 152, 1), (12, 159, 2, 12, 156, 2), (12, 163, 2, 12, 157, 0), (12, 167, 2, 12, 175, 1), (12, 170, 2, 12, 155, 0), (12, 173, 2, 12, 159, 0), (12, 176, 2, 12, 160, 0), (12, 179, 2, 12, 158, 1), (12, 183, 2, 12, 162, 0), (12, 186, 2, 12, 161, 0), (12, 189, 2, 12, 216, 2), (12, 193, 2, 12, 163, 0), (12, 196, 2, 12, 217, 2), (12, 199, 0, 0, 167, 1), (12, 202, 2, 12, 168, 1), (12, 208, 0, 0, 135, 2), (12, 211, 0, 0, 165, 4), (12, 215, 2, 12, 169, 2), (12, 219, 2, 12, 170, 2), (12, 222, 2, 12, 172, 2), (12, 225, 0, 0, 136, 2), (12, 228, 0, 0, 142, 1), (12, 231, 2, 12, 132, 0), (12, 234, 2, 12, 174, 0), (12, 237, 2, 12, 171, 1), (12, 240, 2, 12, 141, 1), (12, 243, 2, 12, 173, 2), (12, 246, 2, 12, 166, 1), (12, 249, 0, 0, 138, 1), (12, 252, 0, 0, 137, 2), (12, 255, 2, 12, 186, 1), (12, 261, 2, 12, 190, 1), (12, 264, 2, 12, 143, 1), (12, 267, 2, 12, 131, 0), (12, 270, 2, 12, 188, 0), (12, 274, 2, 12, 189, 3), (12, 277, 2, 12, 191, 2), (12, 281, 2, 12, 192, 1), (12, 284, 2, 12, 195, 1), (12, 287, 2, 12, 197, 3), (12, 291, 2, 12, 202, 1), (12, 294, 0, 0, 204, 4), (12, 297, 2, 12, 206, 0), (12, 300, 2, 12, 208, 2), (12, 303, 2, 12, 209, 2), (12, 306, 2, 12, 210, 2), (12, 314, 2, 12, 212, 2), (12, 329, 2, 12, 222, 0), (12, 332, 2, 12, 221, 0), (12, 335, 2, 12, 223, 1), (12, 345, 2, 12, 225, 1), (13, 9, 5, 11, 70, 0), (13, 12, 5, 12, 139, 0), (13, 13, 2, 11, 71, 1), (13, 17, 2, 12, 144, 1), (13, 18, 2, 11, 72, 5), (13, 22, 2, 12, 146, 5), (13, 23, 2, 11, 73, 1), (13, 26, 2, 12, 147, 1), (13, 27, 2, 11, 74, 0), (13, 31, 2, 12, 148, 0), (13, 32, 2, 11, 75, 0), (13, 35, 2, 12, 164, 0), (13, 36, 2, 11, 76, 1), (13, 39, 2, 12, 176, 1), (13, 40, 2, 11, 77, 2), (13, 44, 2, 12, 177, 2), (13, 45, 2, 11, 78, 1), (13, 48, 2, 12, 178, 1), (13, 49, 2, 11, 79, 0), (13, 52, 2, 12, 179, 0), (13, 53, 2, 11, 80, 2), (13, 56, 2, 12, 180, 2), (13, 57, 2, 11, 81, 3), (13, 61, 2, 12, 181, 3), (13, 62, 2, 11, 82, 2), (13, 65, 2, 12, 182, 2), (13, 66, 2, 11, 83, 1), (13, 69, 2, 12, 183, 1), (13, 70, 2, 11, 84, 1), (13, 73, 2, 12, 184, 1), (13, 74, 2, 11, 85, 1), (13, 77, 2, 12, 185, 1), (13, 78, 2, 11, 86, 1), (13, 81, 2, 12, 187, 1), (13, 82, 2, 11, 87, 2), (13, 85, 2, 12, 193, 2), (13, 86, 2, 11, 88, 3), (13, 89, 2, 12, 194, 3), (13, 90, 2, 11, 89, 0), (13, 93, 2, 12, 196, 0), (13, 94, 2, 11, 90, 2), (13, 97, 2, 12, 198, 2), (13, 98, 2, 11, 91, 5), (13, 101, 2, 12, 199, 5), (13, 102, 2, 11, 92, 2), (13, 105, 2, 12, 200, 2), (13, 106, 2, 11, 93, 1), (13, 109, 2, 12, 201, 1), (13, 110, 2, 11, 94, 1), (13, 113, 2, 12, 203, 1), (13, 114, 2, 11, 95, 1), (13, 117, 2, 12, 205, 1), (13, 118, 2, 11, 96, 2), (13, 121, 2, 12, 207, 2), (13, 122, 2, 11, 97, 1), (13, 125, 2, 12, 211, 1), (13, 126, 2, 11, 98, 2), (13, 129, 2, 12, 213, 2), (13, 130, 2, 11, 99, 2), (13, 133, 2, 12, 214, 2), (13, 134, 2, 11, 100, 1), (13, 138, 2, 12, 215, 1), (13, 139, 2, 11, 101, 1), (13, 142, 2, 12, 218, 1), (13, 143, 2, 11, 102, 1), (13, 146, 2, 12, 219, 1), (13, 147, 2, 11, 103, 1), (13, 150, 2, 12, 220, 1), (13, 151, 2, 11, 104, 1), (13, 154, 2, 12, 224, 1), (13, 155, 2, 11, 105, 0), (13, 159, 2, 12, 226, 0), (4, 53, 8, 0, 0, 5), (2, 3, 9, 0, 0, 0), (3, 1, 9, 0, 0, 0), (4, 3, 9, 0, 0, 0), (7, 3, 9, 0, 0, 0), (8, 3, 9, 0, 0, 0), (9, 3, 9, 0, 0, 0), (11, 1, 9, 0, 0, 0), (12, 7, 9, 0, 0, 0), (2, 74, 12, 0, 0, 0), (2, 83, 11, 0, 0, 0), (2, 117, 10, 0, 0, 0), (9, 19, 10, 0, 0, 0), (9, 29, 11, 0, 0, 0), (11, 337, 11, 0, 0, 0), (11, 342, 10, 0, 0, 0)]
def k_fd : List (Nat × Nat × Nat × Nat) := [(7, 9, 7, 0), (7, 15, 7, 1), (11, 121, 7, 1), (7, 19, 7, 2), (7, 22, 7, 3), (7, 25, 7, 4), (7, 28, 7, 5), (7, 31, 7, 6), (9, 9, 9, 0), (11, 242, 9, 0), (9, 15, 9, 1), (11, 245, 9, 1), (3, 16, 3, 0), (2, 44, 3, 0), (11, 183, 3, 0), (3, 19, 3, 1), (2, 47, 3, 1), (11, 186, 3, 1), (3, 22, 3, 2), (2, 50, 3, 2), (11, 189, 3, 2), (3, 25, 3, 3), (2, 53, 3, 3), (11, 192, 3, 3), (3, 28, 3, 4), (2, 56, 3, 4), (11, 195, 3, 4), (3, 31, 3, 5), (2, 59, 3, 5), (7, 96, 3, 5), (11, 165, 3, 5), (3, 7, 3, 6), (2, 62, 3, 6), (11, 198, 3, 6), (3, 13, 3, 7), (2, 71, 3, 7), (11, 210, 3, 7), (2, 31, 2, 0), (11, 348, 2, 0), (2, 11, 2, 1), (7, 92, 2, 1), (11, 161, 2, 1), (2, 17, 2, 2), (11, 217, 2, 2), (2, 21, 2, 3), (11, 131, 2, 3), (2, 25, 2, 4), (11, 142, 2, 4), (2, 28, 2, 5), (11, 100, 2, 5), (7, 82, 2, 5), (4, 38, 4, 0), (11, 97, 4, 0), (4, 11, 4, 1), (4, 19, 4, 2), (11, 265, 4, 2), (4, 22, 4, 3), (11, 269, 4, 3), (4, 25, 4, 4), (11, 114, 4, 4), (4, 29, 4, 5), (11, 170, 4, 5), (4, 32, 4, 6), (11, 173, 4, 6), (11, 78, 11, 0), (11, 11, 11, 1), (11, 15, 11, 2), (11, 22, 11, 3), (11, 85, 11, 4), (11, 29, 11, 5), (11, 33, 11, 6), (11, 37, 11, 7), (11, 40, 11, 8), (11, 44, 11, 9), (11, 47, 11, 10), (11, 51, 11, 11), (11, 54, 11, 12), (12, 1, 12, 0), (12, 96, 12, 1), (12, 100, 12, 2), (12, 103, 12, 3), (12, 106, 12, 4), (12, 109, 12, 5), (12, 13, 12, 6), (12, 16, 12, 7), (12, 19, 12, 8), (12, 22, 12, 9), (12, 25, 12, 10), (12, 28, 12, 11), (12, 31, 12, 12), (12, 34, 12, 13), (12, 37, 12, 14), (12, 40, 12, 15), (12, 43, 12, 16), (12, 130, 12, 17), (12, 133, 12, 18), (12, 156, 12, 19), (12, 46, 12, 20), (12, 49, 12, 21), (12, 205, 12, 22), (12, 52, 12, 23), (12, 55, 12, 24), (12, 112, 12, 25), (12, 58, 12, 26), (12, 61, 12, 27), (12, 64, 12, 28), (12, 67, 12, 29), (12, 70, 12, 30), (12, 258, 12, 31), (12, 73, 12, 32), (12, 76, 12, 33), (12, 79, 12, 34), (12, 309, 12, 35), (12, 82, 12, 36), (12, 86, 12, 37), (12, 89, 12, 38), (12, 340, 12, 39)]
def k_nw : List (Nat × Nat × Nat) := [(2, 9, 25), (2, 9, 3), (4, 9, 24), (4, 17, 27), (4, 9, 2), (11, 9, 23), (11, 19, 7), (11, 26, 9), (11, 57, 26), (11, 57, 8), (11, 60, 6), (11, 63, 0), (11, 66, 1), (11, 69, 5), (11, 72, 10), (11, 9, 4), (11, 82, 2), (13, 7, 11), (13, 10, 12)]
def k_ci : List (Nat × Nat × Int32) := [(14, 265, 1431655765), (14, 266, 858993459), (14, 267, 252645135), (11, 303, 999999), (12, 273, 1048576), (12, 318, 999999)]
def k_c2 : List (Nat × Nat × Int64) := [(11, 304, 1103515245), (11, 306, 12345), (11, 308, 2147483648), (11, 310, 65536), (11, 312, 13), (11, 320, 1511), (11, 367, 31), (12, 312, 10), (12, 319, 1103515245), (12, 321, 12345), (12, 323, 2147483648), (12, 325, 65536), (12, 327, 13), (12, 343, 1511), (12, 338, 31)]
def k_sx : List (Nat × Nat × Nat) := [(7, 69, 0), (7, 41, 1), (7, 57, 2), (7, 59, 3), (7, 64, 4)]
def k_wd : List String := ["book", "piece", "on", "open", "pull"]
def k_nf : Nat → Nat := fun c => match c with
  | 0 => 0
  | 1 => 0
  | 2 => 6
  | 3 => 8
  | 4 => 7
  | 5 => 0
  | 6 => 0
  | 7 => 7
  | 8 => 0
  | 9 => 2
  | 10 => 0
  | 11 => 13
  | _ => 40
def k_fin : Nat → Nat → Bool := fun c j => match c with
  | 0 => (k_T0 j).2.2.2
  | 1 => (k_T1 j).2.2.2
  | 2 => (k_T2 j).2.2.2
  | 3 => (k_T3 j).2.2.2
  | 4 => (k_T4 j).2.2.2
  | 5 => (k_T5 j).2.2.2
  | 6 => (k_T6 j).2.2.2
  | 7 => (k_T7 j).2.2.2
  | 8 => (k_T8 j).2.2.2
  | 9 => (k_T9 j).2.2.2
  | 10 => (k_T10 j).2.2.2
  | 11 => (k_T11 j).2.2.2
  | _ => (k_T12 j).2.2.2
def k_hd (y : MethodName) (n : Nat) : Prop := plainName y.cls = true ∧ y.cls ≠ "java/lang/invoke/MethodHandle" ∧ y.cls ≠ "java/lang/invoke/VarHandle" ∧ (parseMethodDescriptor y.desc).map (fun d => d.parameters.length) = some n
/-- what the tables say of a call's link -/
def k_ck (own idx kd tg : Nat) (y : MethodName) : Prop := match kd with
  | 0 => Jvm.Cond.methodLink (k_cn own) idx y ∈ pm_tbl ∧ Jvm.Cond.static y ∈ pm_tbl
  | 1 => Jvm.Cond.methodLinkNest (k_cn own) idx y "StandUpBook" ∈ k_nest ∧ Jvm.Cond.static y ∈ pm_tbl
  | 2 => Jvm.Cond.methodLink (k_cn own) idx y ∈ pm_tbl ∧ Jvm.Cond.instanceMethod y ∈ pm_tbl ∧ Jvm.Cond.selects (k_cn tg) y y ∈ pm_tbl ∧ y.cls = k_cn tg
  | 3 => ∃ x : MethodName, Jvm.Cond.methodLink (k_cn own) idx x ∈ pm_tbl ∧ Jvm.Cond.sameMethod x.cls x.cls x.name x.desc ∈ pm_tbl ∧ Jvm.Cond.instanceMethod x ∈ pm_tbl ∧ Jvm.Cond.selects (k_cn tg) x y ∈ pm_tbl ∧ Jvm.Cond.instanceMethod y ∈ pm_tbl ∧ y.name = x.name ∧ y.desc = x.desc ∧ x.cls ≠ "java/lang/invoke/MethodHandle" ∧ x.cls ≠ "java/lang/invoke/VarHandle" ∧ ∃ b0 m0 r0, Jvm.Cond.code x b0 m0 r0 ∈ pm_tbl
  | 4 => ∃ x : MethodName, Jvm.Cond.methodLink (k_cn own) idx x ∈ pm_tbl ∧ Jvm.Cond.sameMethod x.cls y.cls x.name x.desc ∈ pm_tbl ∧ Jvm.Cond.superclass (k_cn own) x.cls ∈ pm_tbl ∧ Jvm.Cond.superclass x.cls y.cls ∈ pm_tbl ∧ Jvm.Cond.instanceMethod y ∈ pm_tbl ∧ y.name = x.name ∧ y.desc = x.desc ∧ y.name ≠ "<init>"
  | 5 => Jvm.Cond.methodLink (k_cn own) idx y ∈ pm_tbl ∧ Jvm.Cond.instanceMethod y ∈ pm_tbl ∧ y.name = "<init>"
  | 6 => Jvm.Cond.methodLinkNest (k_cn own) idx y "StandUpBook" ∈ k_nest ∧ Jvm.Cond.instanceMethod y ∈ pm_tbl ∧ y.name = "<init>"
  | 7 => Jvm.Cond.methodLink (k_cn own) idx y ∈ pm_tbl ∧ Jvm.Cond.sameMethod y.cls y.cls y.name y.desc ∈ pm_tbl ∧ Jvm.Cond.superclass (k_cn own) y.cls ∈ pm_tbl ∧ Jvm.Cond.instanceMethod y ∈ pm_tbl ∧ y.name ≠ "<init>"
  | 8 => Jvm.Cond.methodLink (k_cn own) idx arraycopyName ∈ pm_tbl
  | 9 => Jvm.Cond.methodLink (k_cn own) idx Lib.objectInit ∈ pm_tbl
  | 10 => Jvm.Cond.methodLink (k_cn own) idx Lib.Math.max.name ∈ pm_tbl
  | 11 => Jvm.Cond.methodLink (k_cn own) idx Lib.Math.min.name ∈ pm_tbl
  | 12 => Jvm.Cond.methodLink (k_cn own) idx Lib.Math.abs.name ∈ pm_tbl
  | _ => False
def k_cok (r : Nat × Nat × Nat × Nat × Nat × Nat) : Prop := ∃ q, pm_all[r.2.2.2.2.1]? = some q ∧ (r.2.2.1 < 8 → k_hd q.1 r.2.2.2.2.2) ∧ k_ck r.1 r.2.1 r.2.2.1 r.2.2.2.1 q.1

theorem kh_58 : k_hd q_58.1 0 := ⟨by decide, by decide, by decide, by decide +kernel⟩
theorem kr_0 : k_cok (0, 3, 6, 8, 58, 0) := ⟨q_58, rfl, fun _ => kh_58, ⟨List.mem_of_getElem? (i := 6) rfl, kw_82, rfl⟩⟩
theorem kr_1 : k_cok (0, 3, 6, 0, 58, 0) := ⟨q_58, rfl, fun _ => kh_58, ⟨List.mem_of_getElem? (i := 6) rfl, kw_82, rfl⟩⟩
theorem kr_2 : k_cok (0, 3, 6, 5, 58, 0) := ⟨q_58, rfl, fun _ => kh_58, ⟨List.mem_of_getElem? (i := 6) rfl, kw_82, rfl⟩⟩
theorem kr_3 : k_cok (0, 3, 6, 1, 58, 0) := ⟨q_58, rfl, fun _ => kh_58, ⟨List.mem_of_getElem? (i := 6) rfl, kw_82, rfl⟩⟩
theorem kr_4 : k_cok (0, 3, 6, 10, 58, 0) := ⟨q_58, rfl, fun _ => kh_58, ⟨List.mem_of_getElem? (i := 6) rfl, kw_82, rfl⟩⟩
theorem kr_5 : k_cok (0, 3, 6, 6, 58, 0) := ⟨q_58, rfl, fun _ => kh_58, ⟨List.mem_of_getElem? (i := 6) rfl, kw_82, rfl⟩⟩
theorem kh_59 : k_hd q_59.1 3 := ⟨by decide, by decide, by decide, by decide +kernel⟩
theorem kr_6 : k_cok (0, 9, 7, 0, 59, 3) := ⟨q_59, rfl, fun _ => kh_59, ⟨kw_519, kw_515, kw_99, kw_513, by decide⟩⟩
theorem kr_7 : k_cok (0, 9, 7, 5, 59, 3) := ⟨q_59, rfl, fun _ => kh_59, ⟨kw_519, kw_515, kw_99, kw_513, by decide⟩⟩
theorem kh_60 : k_hd q_60.1 2 := ⟨by decide, by decide, by decide, by decide +kernel⟩
theorem kr_8 : k_cok (0, 13, 7, 0, 60, 2) := ⟨q_60, rfl, fun _ => kh_60, ⟨kw_598, kw_594, kw_99, kw_592, by decide⟩⟩
theorem kr_9 : k_cok (0, 13, 7, 5, 60, 2) := ⟨q_60, rfl, fun _ => kh_60, ⟨kw_598, kw_594, kw_99, kw_592, by decide⟩⟩
theorem kh_61 : k_hd q_61.1 0 := ⟨by decide, by decide, by decide, by decide +kernel⟩
theorem kr_10 : k_cok (0, 17, 7, 0, 61, 0) := ⟨q_61, rfl, fun _ => kh_61, ⟨kw_324, kw_320, kw_99, kw_318, by decide⟩⟩
theorem kr_11 : k_cok (0, 17, 7, 5, 61, 0) := ⟨q_61, rfl, fun _ => kh_61, ⟨kw_324, kw_320, kw_99, kw_318, by decide⟩⟩
theorem kr_12 : k_cok (1, 1, 6, 8, 58, 0) := ⟨q_58, rfl, fun _ => kh_58, ⟨List.mem_of_getElem? (i := 8) rfl, kw_82, rfl⟩⟩
theorem kr_13 : k_cok (1, 1, 6, 0, 58, 0) := ⟨q_58, rfl, fun _ => kh_58, ⟨List.mem_of_getElem? (i := 8) rfl, kw_82, rfl⟩⟩
theorem kr_14 : k_cok (1, 1, 6, 5, 58, 0) := ⟨q_58, rfl, fun _ => kh_58, ⟨List.mem_of_getElem? (i := 8) rfl, kw_82, rfl⟩⟩
theorem kr_15 : k_cok (1, 1, 6, 1, 58, 0) := ⟨q_58, rfl, fun _ => kh_58, ⟨List.mem_of_getElem? (i := 8) rfl, kw_82, rfl⟩⟩
theorem kr_16 : k_cok (1, 1, 6, 10, 58, 0) := ⟨q_58, rfl, fun _ => kh_58, ⟨List.mem_of_getElem? (i := 8) rfl, kw_82, rfl⟩⟩
theorem kr_17 : k_cok (1, 1, 6, 6, 58, 0) := ⟨q_58, rfl, fun _ => kh_58, ⟨List.mem_of_getElem? (i := 8) rfl, kw_82, rfl⟩⟩
theorem kr_18 : k_cok (1, 7, 7, 1, 59, 3) := ⟨q_59, rfl, fun _ => kh_59, ⟨kw_523, kw_515, kw_106, kw_513, by decide⟩⟩
theorem kr_19 : k_cok (1, 7, 7, 10, 59, 3) := ⟨q_59, rfl, fun _ => kh_59, ⟨kw_523, kw_515, kw_106, kw_513, by decide⟩⟩
theorem kr_20 : k_cok (1, 11, 7, 1, 60, 2) := ⟨q_60, rfl, fun _ => kh_60, ⟨kw_602, kw_594, kw_106, kw_592, by decide⟩⟩
theorem kr_21 : k_cok (1, 11, 7, 10, 60, 2) := ⟨q_60, rfl, fun _ => kh_60, ⟨kw_602, kw_594, kw_106, kw_592, by decide⟩⟩
theorem kh_29 : k_hd q_29.1 0 := ⟨by decide, by decide, by decide, by decide +kernel⟩
theorem kr_22 : k_cok (2, 35, 6, 3, 29, 0) := ⟨q_29, rfl, fun _ => kh_29, ⟨List.mem_of_getElem? (i := 13) rfl, kw_139, rfl⟩⟩
theorem kh_31 : k_hd q_31.1 1 := ⟨by decide, by decide, by decide, by decide +kernel⟩
theorem kr_23 : k_cok (2, 36, 2, 3, 31, 1) := ⟨q_31, rfl, fun _ => kh_31, ⟨kw_476, kw_477, kw_478, rfl⟩⟩
theorem kh_10 : k_hd q_10.1 0 := ⟨by decide, by decide, by decide, by decide +kernel⟩
theorem kr_24 : k_cok (2, 40, 2, 2, 10, 0) := ⟨q_10, rfl, fun _ => kh_10, ⟨kw_316, kw_305, kw_306, rfl⟩⟩
theorem kr_25 : k_cok (2, 65, 3, 8, 61, 0) := ⟨q_61, rfl, fun _ => kh_61, ⟨⟨"StandUpBook$Vee", "bearing", "()I"⟩, kw_317, kw_320, kw_318, kw_319, kw_318, rfl, rfl, by decide, by decide, _, _, _, kw_337⟩⟩
theorem kh_3 : k_hd q_3.1 0 := ⟨by decide, by decide, by decide, by decide +kernel⟩
theorem kr_26 : k_cok (2, 65, 3, 0, 3, 0) := ⟨q_3, rfl, fun _ => kh_3, ⟨⟨"StandUpBook$Vee", "bearing", "()I"⟩, kw_317, kw_320, kw_318, kw_321, kw_322, rfl, rfl, by decide, by decide, _, _, _, kw_337⟩⟩
theorem kh_41 : k_hd q_41.1 0 := ⟨by decide, by decide, by decide, by decide +kernel⟩
theorem kr_27 : k_cok (2, 65, 3, 5, 41, 0) := ⟨q_41, rfl, fun _ => kh_41, ⟨⟨"StandUpBook$Vee", "bearing", "()I"⟩, kw_317, kw_320, kw_318, kw_326, kw_327, rfl, rfl, by decide, by decide, _, _, _, kw_337⟩⟩
theorem kr_28 : k_cok (2, 65, 3, 1, 61, 0) := ⟨q_61, rfl, fun _ => kh_61, ⟨⟨"StandUpBook$Vee", "bearing", "()I"⟩, kw_317, kw_320, kw_318, kw_325, kw_318, rfl, rfl, by decide, by decide, _, _, _, kw_337⟩⟩
theorem kh_69 : k_hd q_69.1 0 := ⟨by decide, by decide, by decide, by decide +kernel⟩
theorem kr_29 : k_cok (2, 65, 3, 10, 69, 0) := ⟨q_69, rfl, fun _ => kh_69, ⟨⟨"StandUpBook$Vee", "bearing", "()I"⟩, kw_317, kw_320, kw_318, kw_331, kw_332, rfl, rfl, by decide, by decide, _, _, _, kw_337⟩⟩
theorem kr_30 : k_cok (2, 65, 3, 6, 61, 0) := ⟨q_61, rfl, fun _ => kh_61, ⟨⟨"StandUpBook$Vee", "bearing", "()I"⟩, kw_317, kw_320, kw_318, kw_330, kw_318, rfl, rfl, by decide, by decide, _, _, _, kw_337⟩⟩
theorem kh_30 : k_hd q_30.1 0 := ⟨by decide, by decide, by decide, by decide +kernel⟩
theorem kr_31 : k_cok (2, 80, 2, 3, 30, 0) := ⟨q_30, rfl, fun _ => kh_30, ⟨kw_460, kw_461, kw_462, rfl⟩⟩
theorem kh_114 : k_hd q_114.1 2 := ⟨by decide, by decide, by decide, by decide +kernel⟩
theorem kr_32 : k_cok (2, 87, 1, 0, 114, 2) := ⟨q_114, rfl, fun _ => kh_114, ⟨List.mem_of_getElem? (i := 14) rfl, kw_510⟩⟩
theorem kh_14 : k_hd q_14.1 2 := ⟨by decide, by decide, by decide, by decide +kernel⟩
theorem kr_33 : k_cok (2, 91, 0, 0, 14, 2) := ⟨q_14, rfl, fun _ => kh_14, ⟨kw_557, kw_558⟩⟩
theorem kh_227 : k_hd q_227.1 1 := ⟨by decide, by decide, by decide, by decide +kernel⟩
theorem kr_34 : k_cok (2, 94, 0, 0, 227, 1) := ⟨q_227, rfl, fun _ => kh_227, ⟨kw_560, kw_561⟩⟩
theorem kr_35 : k_cok (2, 99, 3, 8, 59, 3) := ⟨q_59, rfl, fun _ => kh_59, ⟨⟨"StandUpBook$Vee", "riseOf", "(III)I"⟩, kw_512, kw_515, kw_513, kw_514, kw_513, rfl, rfl, by decide, by decide, _, _, _, kw_536⟩⟩
theorem kh_1 : k_hd q_1.1 3 := ⟨by decide, by decide, by decide, by decide +kernel⟩
theorem kr_36 : k_cok (2, 99, 3, 0, 1, 3) := ⟨q_1, rfl, fun _ => kh_1, ⟨⟨"StandUpBook$Vee", "riseOf", "(III)I"⟩, kw_512, kw_515, kw_513, kw_516, kw_517, rfl, rfl, by decide, by decide, _, _, _, kw_536⟩⟩
theorem kh_40 : k_hd q_40.1 3 := ⟨by decide, by decide, by decide, by decide +kernel⟩
theorem kr_37 : k_cok (2, 99, 3, 5, 40, 3) := ⟨q_40, rfl, fun _ => kh_40, ⟨⟨"StandUpBook$Vee", "riseOf", "(III)I"⟩, kw_512, kw_515, kw_513, kw_524, kw_525, rfl, rfl, by decide, by decide, _, _, _, kw_536⟩⟩
theorem kh_5 : k_hd q_5.1 3 := ⟨by decide, by decide, by decide, by decide +kernel⟩
theorem kr_38 : k_cok (2, 99, 3, 1, 5, 3) := ⟨q_5, rfl, fun _ => kh_5, ⟨⟨"StandUpBook$Vee", "riseOf", "(III)I"⟩, kw_512, kw_515, kw_513, kw_520, kw_521, rfl, rfl, by decide, by decide, _, _, _, kw_536⟩⟩
theorem kh_67 : k_hd q_67.1 3 := ⟨by decide, by decide, by decide, by decide +kernel⟩
theorem kr_39 : k_cok (2, 99, 3, 10, 67, 3) := ⟨q_67, rfl, fun _ => kh_67, ⟨⟨"StandUpBook$Vee", "riseOf", "(III)I"⟩, kw_512, kw_515, kw_513, kw_532, kw_533, rfl, rfl, by decide, by decide, _, _, _, kw_536⟩⟩
theorem kh_43 : k_hd q_43.1 3 := ⟨by decide, by decide, by decide, by decide +kernel⟩
theorem kr_40 : k_cok (2, 99, 3, 6, 43, 3) := ⟨q_43, rfl, fun _ => kh_43, ⟨⟨"StandUpBook$Vee", "riseOf", "(III)I"⟩, kw_512, kw_515, kw_513, kw_528, kw_529, rfl, rfl, by decide, by decide, _, _, _, kw_536⟩⟩
theorem kr_41 : k_cok (2, 103, 3, 8, 60, 2) := ⟨q_60, rfl, fun _ => kh_60, ⟨⟨"StandUpBook$Vee", "reachOf", "(II)I"⟩, kw_591, kw_594, kw_592, kw_593, kw_592, rfl, rfl, by decide, by decide, _, _, _, kw_609⟩⟩
theorem kh_2 : k_hd q_2.1 2 := ⟨by decide, by decide, by decide, by decide +kernel⟩
theorem kr_42 : k_cok (2, 103, 3, 0, 2, 2) := ⟨q_2, rfl, fun _ => kh_2, ⟨⟨"StandUpBook$Vee", "reachOf", "(II)I"⟩, kw_591, kw_594, kw_592, kw_595, kw_596, rfl, rfl, by decide, by decide, _, _, _, kw_609⟩⟩
theorem kr_43 : k_cok (2, 103, 3, 5, 2, 2) := ⟨q_2, rfl, fun _ => kh_2, ⟨⟨"StandUpBook$Vee", "reachOf", "(II)I"⟩, kw_591, kw_594, kw_592, kw_603, kw_596, rfl, rfl, by decide, by decide, _, _, _, kw_609⟩⟩
theorem kh_6 : k_hd q_6.1 2 := ⟨by decide, by decide, by decide, by decide +kernel⟩
theorem kr_44 : k_cok (2, 103, 3, 1, 6, 2) := ⟨q_6, rfl, fun _ => kh_6, ⟨⟨"StandUpBook$Vee", "reachOf", "(II)I"⟩, kw_591, kw_594, kw_592, kw_599, kw_600, rfl, rfl, by decide, by decide, _, _, _, kw_609⟩⟩
theorem kh_68 : k_hd q_68.1 2 := ⟨by decide, by decide, by decide, by decide +kernel⟩
theorem kr_45 : k_cok (2, 103, 3, 10, 68, 2) := ⟨q_68, rfl, fun _ => kh_68, ⟨⟨"StandUpBook$Vee", "reachOf", "(II)I"⟩, kw_591, kw_594, kw_592, kw_605, kw_606, rfl, rfl, by decide, by decide, _, _, _, kw_609⟩⟩
theorem kr_46 : k_cok (2, 103, 3, 6, 60, 2) := ⟨q_60, rfl, fun _ => kh_60, ⟨⟨"StandUpBook$Vee", "reachOf", "(II)I"⟩, kw_591, kw_594, kw_592, kw_604, kw_592, rfl, rfl, by decide, by decide, _, _, _, kw_609⟩⟩
theorem kh_20 : k_hd q_20.1 2 := ⟨by decide, by decide, by decide, by decide +kernel⟩
theorem kr_47 : k_cok (2, 106, 2, 2, 20, 2) := ⟨q_20, rfl, fun _ => kh_20, ⟨kw_505, kw_506, kw_507, rfl⟩⟩
theorem kh_22 : k_hd q_22.1 1 := ⟨by decide, by decide, by decide, by decide +kernel⟩
theorem kr_48 : k_cok (2, 110, 2, 2, 22, 1) := ⟨q_22, rfl, fun _ => kh_22, ⟨kw_537, kw_539, kv_15, rfl⟩⟩
theorem kh_21 : k_hd q_21.1 2 := ⟨by decide, by decide, by decide, by decide +kernel⟩
theorem kr_49 : k_cok (2, 114, 2, 2, 21, 2) := ⟨q_21, rfl, fun _ => kh_21, ⟨kw_636, kw_502, kw_503, rfl⟩⟩
theorem kh_16 : k_hd q_16.1 1 := ⟨by decide, by decide, by decide, by decide +kernel⟩
theorem kr_50 : k_cok (2, 120, 2, 2, 16, 1) := ⟨q_16, rfl, fun _ => kh_16, ⟨kw_649, kw_588, kw_589, rfl⟩⟩
theorem kh_25 : k_hd q_25.1 1 := ⟨by decide, by decide, by decide, by decide +kernel⟩
theorem kr_51 : k_cok (2, 123, 2, 2, 25, 1) := ⟨q_25, rfl, fun _ => kh_25, ⟨kw_645, kw_647, kv_18, rfl⟩⟩
theorem kh_32 : k_hd q_32.1 1 := ⟨by decide, by decide, by decide, by decide +kernel⟩
theorem kr_52 : k_cok (2, 126, 2, 3, 32, 1) := ⟨q_32, rfl, fun _ => kh_32, ⟨kw_845, kw_846, kw_847, rfl⟩⟩
theorem kh_128 : k_hd q_128.1 2 := ⟨by decide, by decide, by decide, by decide +kernel⟩
theorem kr_53 : k_cok (3, 34, 1, 0, 128, 2) := ⟨q_128, rfl, fun _ => kh_128, ⟨List.mem_of_getElem? (i := 15) rfl, kw_838⟩⟩
theorem kh_7 : k_hd q_7.1 1 := ⟨by decide, by decide, by decide, by decide +kernel⟩
theorem kr_54 : k_cok (4, 35, 5, 2, 7, 1) := ⟨q_7, rfl, fun _ => kh_7, ⟨kw_131, kw_132, rfl⟩⟩
theorem kh_8 : k_hd q_8.1 1 := ⟨by decide, by decide, by decide, by decide +kernel⟩
theorem kr_55 : k_cok (4, 42, 2, 2, 8, 1) := ⟨q_8, rfl, fun _ => kh_8, ⟨kw_296, kw_297, kw_298, rfl⟩⟩
theorem kh_36 : k_hd q_36.1 0 := ⟨by decide, by decide, by decide, by decide +kernel⟩
theorem kr_56 : k_cok (4, 46, 2, 4, 36, 0) := ⟨q_36, rfl, fun _ => kh_36, ⟨kw_495, kw_497, kv_14, rfl⟩⟩
theorem kh_9 : k_hd q_9.1 1 := ⟨by decide, by decide, by decide, by decide +kernel⟩
theorem kr_57 : k_cok (4, 49, 2, 2, 9, 1) := ⟨q_9, rfl, fun _ => kh_9, ⟨kw_499, kw_473, kw_474, rfl⟩⟩
theorem kh_0 : k_hd q_0.1 0 := ⟨by decide, by decide, by decide, by decide +kernel⟩
theorem kr_58 : k_cok (5, 1, 6, 0, 0, 0) := ⟨q_0, rfl, fun _ => kh_0, ⟨List.mem_of_getElem? (i := 10) rfl, kw_96, rfl⟩⟩
theorem kr_59 : k_cok (5, 1, 6, 5, 0, 0) := ⟨q_0, rfl, fun _ => kh_0, ⟨List.mem_of_getElem? (i := 10) rfl, kw_96, rfl⟩⟩
theorem kr_60 : k_cok (5, 7, 7, 5, 1, 3) := ⟨q_1, rfl, fun _ => kh_1, ⟨kw_527, kw_1364, kw_113, kw_517, by decide⟩⟩
theorem kr_61 : k_cok (5, 11, 7, 5, 3, 0) := ⟨q_3, rfl, fun _ => kh_3, ⟨kw_329, kw_1363, kw_113, kw_322, by decide⟩⟩
theorem kr_62 : k_cok (6, 3, 6, 8, 58, 0) := ⟨q_58, rfl, fun _ => kh_58, ⟨List.mem_of_getElem? (i := 4) rfl, kw_82, rfl⟩⟩
theorem kr_63 : k_cok (6, 3, 6, 0, 58, 0) := ⟨q_58, rfl, fun _ => kh_58, ⟨List.mem_of_getElem? (i := 4) rfl, kw_82, rfl⟩⟩
theorem kr_64 : k_cok (6, 3, 6, 5, 58, 0) := ⟨q_58, rfl, fun _ => kh_58, ⟨List.mem_of_getElem? (i := 4) rfl, kw_82, rfl⟩⟩
theorem kr_65 : k_cok (6, 3, 6, 1, 58, 0) := ⟨q_58, rfl, fun _ => kh_58, ⟨List.mem_of_getElem? (i := 4) rfl, kw_82, rfl⟩⟩
theorem kr_66 : k_cok (6, 3, 6, 10, 58, 0) := ⟨q_58, rfl, fun _ => kh_58, ⟨List.mem_of_getElem? (i := 4) rfl, kw_82, rfl⟩⟩
theorem kr_67 : k_cok (6, 3, 6, 6, 58, 0) := ⟨q_58, rfl, fun _ => kh_58, ⟨List.mem_of_getElem? (i := 4) rfl, kw_82, rfl⟩⟩
theorem kr_68 : k_cok (6, 9, 7, 6, 59, 3) := ⟨q_59, rfl, fun _ => kh_59, ⟨kw_531, kw_515, kw_92, kw_513, by decide⟩⟩
theorem kh_54 : k_hd q_54.1 0 := ⟨by decide, by decide, by decide, by decide +kernel⟩
theorem kr_69 : k_cok (7, 34, 2, 7, 54, 0) := ⟨q_54, rfl, fun _ => kh_54, ⟨kw_358, kw_360, kv_2, rfl⟩⟩
theorem kh_47 : k_hd q_47.1 1 := ⟨by decide, by decide, by decide, by decide +kernel⟩
theorem kr_70 : k_cok (7, 37, 2, 7, 47, 1) := ⟨q_47, rfl, fun _ => kh_47, ⟨kw_374, kw_376, kv_6, rfl⟩⟩
theorem kh_53 : k_hd q_53.1 1 := ⟨by decide, by decide, by decide, by decide +kernel⟩
theorem kr_71 : k_cok (7, 43, 2, 7, 53, 1) := ⟨q_53, rfl, fun _ => kh_53, ⟨kw_379, kw_381, kv_7, rfl⟩⟩
theorem kr_72 : k_cok (7, 47, 2, 2, 10, 0) := ⟨q_10, rfl, fun _ => kh_10, ⟨kw_441, kw_305, kw_306, rfl⟩⟩
theorem kh_48 : k_hd q_48.1 2 := ⟨by decide, by decide, by decide, by decide +kernel⟩
theorem kr_73 : k_cok (7, 53, 2, 7, 48, 2) := ⟨q_48, rfl, fun _ => kh_48, ⟨kw_442, kw_444, kv_10, rfl⟩⟩
theorem kh_49 : k_hd q_49.1 1 := ⟨by decide, by decide, by decide, by decide +kernel⟩
theorem kr_74 : k_cok (7, 61, 2, 7, 49, 1) := ⟨q_49, rfl, fun _ => kh_49, ⟨kw_449, kw_451, kv_11, rfl⟩⟩
theorem kh_50 : k_hd q_50.1 1 := ⟨by decide, by decide, by decide, by decide +kernel⟩
theorem kr_75 : k_cok (7, 66, 2, 7, 50, 1) := ⟨q_50, rfl, fun _ => kh_50, ⟨kw_468, kw_470, kv_12, rfl⟩⟩
theorem kh_51 : k_hd q_51.1 2 := ⟨by decide, by decide, by decide, by decide +kernel⟩
theorem kr_76 : k_cok (7, 71, 2, 7, 51, 2) := ⟨q_51, rfl, fun _ => kh_51, ⟨kw_431, kw_433, kv_8, rfl⟩⟩
theorem kh_52 : k_hd q_52.1 0 := ⟨by decide, by decide, by decide, by decide +kernel⟩
theorem kr_77 : k_cok (7, 75, 2, 7, 52, 0) := ⟨q_52, rfl, fun _ => kh_52, ⟨kw_435, kw_437, kv_9, rfl⟩⟩
theorem kr_78 : k_cok (7, 78, 2, 2, 8, 1) := ⟨q_8, rfl, fun _ => kh_8, ⟨kw_439, kw_297, kw_298, rfl⟩⟩
theorem kh_11 : k_hd q_11.1 5 := ⟨by decide, by decide, by decide, by decide +kernel⟩
theorem kr_79 : k_cok (7, 85, 2, 2, 11, 5) := ⟨q_11, rfl, fun _ => kh_11, ⟨kw_446, kw_313, kw_314, rfl⟩⟩
theorem kh_12 : k_hd q_12.1 1 := ⟨by decide, by decide, by decide, by decide +kernel⟩
theorem kr_80 : k_cok (7, 89, 2, 2, 12, 1) := ⟨q_12, rfl, fun _ => kh_12, ⟨kw_453, kw_454, kw_455, rfl⟩⟩
theorem kh_56 : k_hd q_56.1 1 := ⟨by decide, by decide, by decide, by decide +kernel⟩
theorem kr_81 : k_cok (7, 110, 2, 7, 56, 1) := ⟨q_56, rfl, fun _ => kh_56, ⟨kw_362, kw_364, kv_3, rfl⟩⟩
theorem kh_57 : k_hd q_57.1 1 := ⟨by decide, by decide, by decide, by decide +kernel⟩
theorem kr_82 : k_cok (7, 114, 2, 7, 57, 1) := ⟨q_57, rfl, fun _ => kh_57, ⟨kw_366, kw_368, kv_4, rfl⟩⟩
theorem kh_55 : k_hd q_55.1 0 := ⟨by decide, by decide, by decide, by decide +kernel⟩
theorem kr_83 : k_cok (7, 117, 2, 7, 55, 0) := ⟨q_55, rfl, fun _ => kh_55, ⟨kw_370, kw_372, kv_5, rfl⟩⟩
theorem kh_63 : k_hd q_63.1 2 := ⟨by decide, by decide, by decide, by decide +kernel⟩
theorem kr_84 : k_cok (9, 25, 2, 9, 63, 2) := ⟨q_63, rfl, fun _ => kh_63, ⟨kw_678, kw_670, kw_671, rfl⟩⟩
theorem kh_64 : k_hd q_64.1 3 := ⟨by decide, by decide, by decide, by decide +kernel⟩
theorem kr_85 : k_cok (9, 32, 2, 9, 64, 3) := ⟨q_64, rfl, fun _ => kh_64, ⟨kw_684, kw_675, kw_676, rfl⟩⟩
theorem kh_4 : k_hd q_4.1 0 := ⟨by decide, by decide, by decide, by decide +kernel⟩
theorem kr_86 : k_cok (10, 1, 6, 1, 4, 0) := ⟨q_4, rfl, fun _ => kh_4, ⟨List.mem_of_getElem? (i := 12) rfl, kw_103, rfl⟩⟩
theorem kr_87 : k_cok (10, 1, 6, 10, 4, 0) := ⟨q_4, rfl, fun _ => kh_4, ⟨List.mem_of_getElem? (i := 12) rfl, kw_103, rfl⟩⟩
theorem kr_88 : k_cok (10, 7, 7, 10, 5, 3) := ⟨q_5, rfl, fun _ => kh_5, ⟨kw_535, kw_1365, kw_120, kw_521, by decide⟩⟩
theorem kr_89 : k_cok (10, 11, 7, 10, 6, 2) := ⟨q_6, rfl, fun _ => kh_6, ⟨kw_608, kw_1366, kw_120, kw_600, by decide⟩⟩
theorem kr_90 : k_cok (10, 15, 4, 10, 61, 0) := ⟨q_61, rfl, fun _ => kh_61, ⟨⟨"StandUpBook$Flap", "bearing", "()I"⟩, kw_334, kw_335, kw_120, kw_106, kw_318, rfl, rfl, by decide⟩⟩
theorem kh_44 : k_hd q_44.1 0 := ⟨by decide, by decide, by decide, by decide +kernel⟩
theorem kr_91 : k_cok (11, 21, 6, 7, 44, 0) := ⟨q_44, rfl, fun _ => kh_44, ⟨List.mem_of_getElem? (i := 0) rfl, kw_34, rfl⟩⟩
theorem kh_62 : k_hd q_62.1 0 := ⟨by decide, by decide, by decide, by decide +kernel⟩
theorem kr_92 : k_cok (11, 28, 6, 9, 62, 0) := ⟨q_62, rfl, fun _ => kh_62, ⟨List.mem_of_getElem? (i := 1) rfl, kw_65, rfl⟩⟩
theorem kr_93 : k_cok (11, 59, 6, 8, 58, 0) := ⟨q_58, rfl, fun _ => kh_58, ⟨List.mem_of_getElem? (i := 2) rfl, kw_82, rfl⟩⟩
theorem kr_94 : k_cok (11, 59, 6, 0, 58, 0) := ⟨q_58, rfl, fun _ => kh_58, ⟨List.mem_of_getElem? (i := 2) rfl, kw_82, rfl⟩⟩
theorem kr_95 : k_cok (11, 59, 6, 5, 58, 0) := ⟨q_58, rfl, fun _ => kh_58, ⟨List.mem_of_getElem? (i := 2) rfl, kw_82, rfl⟩⟩
theorem kr_96 : k_cok (11, 59, 6, 1, 58, 0) := ⟨q_58, rfl, fun _ => kh_58, ⟨List.mem_of_getElem? (i := 2) rfl, kw_82, rfl⟩⟩
theorem kr_97 : k_cok (11, 59, 6, 10, 58, 0) := ⟨q_58, rfl, fun _ => kh_58, ⟨List.mem_of_getElem? (i := 2) rfl, kw_82, rfl⟩⟩
theorem kr_98 : k_cok (11, 59, 6, 6, 58, 0) := ⟨q_58, rfl, fun _ => kh_58, ⟨List.mem_of_getElem? (i := 2) rfl, kw_82, rfl⟩⟩
theorem kh_42 : k_hd q_42.1 0 := ⟨by decide, by decide, by decide, by decide +kernel⟩
theorem kr_99 : k_cok (11, 62, 6, 6, 42, 0) := ⟨q_42, rfl, fun _ => kh_42, ⟨List.mem_of_getElem? (i := 3) rfl, kw_89, rfl⟩⟩
theorem kr_100 : k_cok (11, 65, 6, 0, 0, 0) := ⟨q_0, rfl, fun _ => kh_0, ⟨List.mem_of_getElem? (i := 5) rfl, kw_96, rfl⟩⟩
theorem kr_101 : k_cok (11, 65, 6, 5, 0, 0) := ⟨q_0, rfl, fun _ => kh_0, ⟨List.mem_of_getElem? (i := 5) rfl, kw_96, rfl⟩⟩
theorem kr_102 : k_cok (11, 68, 6, 1, 4, 0) := ⟨q_4, rfl, fun _ => kh_4, ⟨List.mem_of_getElem? (i := 7) rfl, kw_103, rfl⟩⟩
theorem kr_103 : k_cok (11, 68, 6, 10, 4, 0) := ⟨q_4, rfl, fun _ => kh_4, ⟨List.mem_of_getElem? (i := 7) rfl, kw_103, rfl⟩⟩
theorem kh_39 : k_hd q_39.1 0 := ⟨by decide, by decide, by decide, by decide +kernel⟩
theorem kr_104 : k_cok (11, 71, 6, 5, 39, 0) := ⟨q_39, rfl, fun _ => kh_39, ⟨List.mem_of_getElem? (i := 9) rfl, kw_110, rfl⟩⟩
theorem kh_66 : k_hd q_66.1 0 := ⟨by decide, by decide, by decide, by decide +kernel⟩
theorem kr_105 : k_cok (11, 74, 6, 10, 66, 0) := ⟨q_66, rfl, fun _ => kh_66, ⟨List.mem_of_getElem? (i := 11) rfl, kw_117, rfl⟩⟩
theorem kh_33 : k_hd q_33.1 1 := ⟨by decide, by decide, by decide, by decide +kernel⟩
theorem kr_106 : k_cok (11, 75, 5, 4, 33, 1) := ⟨q_33, rfl, fun _ => kh_33, ⟨kw_122, kw_123, rfl⟩⟩
theorem kr_107 : k_cok (11, 84, 5, 2, 7, 1) := ⟨q_7, rfl, fun _ => kh_7, ⟨kw_240, kw_132, rfl⟩⟩
theorem kh_113 : k_hd q_113.1 3 := ⟨by decide, by decide, by decide, by decide +kernel⟩
theorem kr_108 : k_cok (11, 89, 0, 0, 113, 3) := ⟨q_113, rfl, fun _ => kh_113, ⟨kw_285, kw_286⟩⟩
theorem kh_106 : k_hd q_106.1 0 := ⟨by decide, by decide, by decide, by decide +kernel⟩
theorem kr_109 : k_cok (11, 93, 2, 11, 106, 0) := ⟨q_106, rfl, fun _ => kh_106, ⟨kw_288, kw_290, kv_0, rfl⟩⟩
theorem kh_34 : k_hd q_34.1 1 := ⟨by decide, by decide, by decide, by decide +kernel⟩
theorem kr_110 : k_cok (11, 103, 2, 4, 34, 1) := ⟨q_34, rfl, fun _ => kh_34, ⟨kw_292, kw_293, kw_294, rfl⟩⟩
theorem kr_111 : k_cok (11, 107, 2, 2, 10, 0) := ⟨q_10, rfl, fun _ => kh_10, ⟨kw_304, kw_305, kw_306, rfl⟩⟩
theorem kh_109 : k_hd q_109.1 0 := ⟨by decide, by decide, by decide, by decide +kernel⟩
theorem kr_112 : k_cok (11, 111, 2, 11, 109, 0) := ⟨q_109, rfl, fun _ => kh_109, ⟨kw_308, kw_310, kv_1, rfl⟩⟩
theorem kr_113 : k_cok (11, 117, 2, 2, 11, 5) := ⟨q_11, rfl, fun _ => kh_11, ⟨kw_312, kw_313, kw_314, rfl⟩⟩
theorem kh_45 : k_hd q_45.1 1 := ⟨by decide, by decide, by decide, by decide +kernel⟩
theorem kr_114 : k_cok (11, 124, 2, 7, 45, 1) := ⟨q_45, rfl, fun _ => kh_45, ⟨kw_342, kw_343, kw_344, rfl⟩⟩
theorem kh_46 : k_hd q_46.1 1 := ⟨by decide, by decide, by decide, by decide +kernel⟩
theorem kr_115 : k_cok (11, 127, 2, 7, 46, 1) := ⟨q_46, rfl, fun _ => kh_46, ⟨kw_354, kw_355, kw_356, rfl⟩⟩
theorem kr_116 : k_cok (11, 134, 2, 2, 9, 1) := ⟨q_9, rfl, fun _ => kh_9, ⟨kw_472, kw_473, kw_474, rfl⟩⟩
theorem kh_112 : k_hd q_112.1 1 := ⟨by decide, by decide, by decide, by decide +kernel⟩
theorem kr_117 : k_cok (11, 138, 0, 0, 112, 1) := ⟨q_112, rfl, fun _ => kh_112, ⟨kw_484, kw_485⟩⟩
theorem kh_108 : k_hd q_108.1 0 := ⟨by decide, by decide, by decide, by decide +kernel⟩
theorem kr_118 : k_cok (11, 145, 2, 11, 108, 0) := ⟨q_108, rfl, fun _ => kh_108, ⟨kw_487, kw_489, kv_13, rfl⟩⟩
theorem kh_35 : k_hd q_35.1 0 := ⟨by decide, by decide, by decide, by decide +kernel⟩
theorem kr_119 : k_cok (11, 148, 2, 4, 35, 0) := ⟨q_35, rfl, fun _ => kh_35, ⟨kw_491, kw_492, kw_493, rfl⟩⟩
theorem kr_120 : k_cok (11, 151, 2, 2, 12, 1) := ⟨q_12, rfl, fun _ => kh_12, ⟨kw_500, kw_454, kw_455, rfl⟩⟩
theorem kr_121 : k_cok (11, 154, 2, 2, 21, 2) := ⟨q_21, rfl, fun _ => kh_21, ⟨kw_501, kw_502, kw_503, rfl⟩⟩
theorem kh_110 : k_hd q_110.1 1 := ⟨by decide, by decide, by decide, by decide +kernel⟩
theorem kr_122 : k_cok (11, 158, 2, 11, 110, 1) := ⟨q_110, rfl, fun _ => kh_110, ⟨kw_545, kw_547, kv_16, rfl⟩⟩
theorem kh_13 : k_hd q_13.1 1 := ⟨by decide, by decide, by decide, by decide +kernel⟩
theorem kr_123 : k_cok (11, 176, 2, 2, 13, 1) := ⟨q_13, rfl, fun _ => kh_13, ⟨kw_553, kw_554, kw_555, rfl⟩⟩
theorem kh_37 : k_hd q_37.1 0 := ⟨by decide, by decide, by decide, by decide +kernel⟩
theorem kr_124 : k_cok (11, 180, 2, 4, 37, 0) := ⟨q_37, rfl, fun _ => kh_37, ⟨kw_570, kw_571, kw_572, rfl⟩⟩
theorem kr_125 : k_cok (11, 201, 2, 3, 30, 0) := ⟨q_30, rfl, fun _ => kh_30, ⟨kw_578, kw_461, kw_462, rfl⟩⟩
theorem kh_15 : k_hd q_15.1 2 := ⟨by decide, by decide, by decide, by decide +kernel⟩
theorem kr_126 : k_cok (11, 204, 2, 2, 15, 2) := ⟨q_15, rfl, fun _ => kh_15, ⟨kw_583, kw_584, kw_585, rfl⟩⟩
theorem kr_127 : k_cok (11, 207, 2, 2, 16, 1) := ⟨q_16, rfl, fun _ => kh_16, ⟨kw_587, kw_588, kw_589, rfl⟩⟩
theorem kr_128 : k_cok (11, 213, 2, 2, 20, 2) := ⟨q_20, rfl, fun _ => kh_20, ⟨kw_614, kw_506, kw_507, rfl⟩⟩
theorem kh_115 : k_hd q_115.1 1 := ⟨by decide, by decide, by decide, by decide +kernel⟩
theorem kr_129 : k_cok (11, 220, 2, 11, 115, 1) := ⟨q_115, rfl, fun _ => kh_115, ⟨kw_623, kw_625, kv_17, rfl⟩⟩
theorem kr_130 : k_cok (11, 223, 0, 0, 114, 2) := ⟨q_114, rfl, fun _ => kh_114, ⟨kw_627, kw_510⟩⟩
theorem kh_23 : k_hd q_23.1 1 := ⟨by decide, by decide, by decide, by decide +kernel⟩
theorem kr_131 : k_cok (11, 227, 2, 2, 23, 1) := ⟨q_23, rfl, fun _ => kh_23, ⟨kw_632, kw_633, kw_634, rfl⟩⟩
theorem kh_26 : k_hd q_26.1 0 := ⟨by decide, by decide, by decide, by decide +kernel⟩
theorem kr_132 : k_cok (11, 230, 2, 2, 26, 0) := ⟨q_26, rfl, fun _ => kh_26, ⟨kw_641, kw_642, kw_643, rfl⟩⟩
theorem kh_27 : k_hd q_27.1 0 := ⟨by decide, by decide, by decide, by decide +kernel⟩
theorem kr_133 : k_cok (11, 233, 2, 2, 27, 0) := ⟨q_27, rfl, fun _ => kh_27, ⟨kw_650, kw_651, kw_652, rfl⟩⟩
theorem kh_111 : k_hd q_111.1 1 := ⟨by decide, by decide, by decide, by decide +kernel⟩
theorem kr_134 : k_cok (11, 236, 2, 11, 111, 1) := ⟨q_111, rfl, fun _ => kh_111, ⟨kw_661, kw_663, kv_19, rfl⟩⟩
theorem kh_107 : k_hd q_107.1 0 := ⟨by decide, by decide, by decide, by decide +kernel⟩
theorem kr_135 : k_cok (11, 239, 2, 11, 107, 0) := ⟨q_107, rfl, fun _ => kh_107, ⟨kw_665, kw_667, kv_20, rfl⟩⟩
theorem kr_136 : k_cok (11, 248, 2, 9, 63, 2) := ⟨q_63, rfl, fun _ => kh_63, ⟨kw_669, kw_670, kw_671, rfl⟩⟩
theorem kr_137 : k_cok (11, 251, 2, 9, 64, 3) := ⟨q_64, rfl, fun _ => kh_64, ⟨kw_674, kw_675, kw_676, rfl⟩⟩
theorem kh_65 : k_hd q_65.1 2 := ⟨by decide, by decide, by decide, by decide +kernel⟩
theorem kr_138 : k_cok (11, 255, 2, 9, 65, 2) := ⟨q_65, rfl, fun _ => kh_65, ⟨kw_680, kw_681, kw_682, rfl⟩⟩
theorem kh_18 : k_hd q_18.1 1 := ⟨by decide, by decide, by decide, by decide +kernel⟩
theorem kr_139 : k_cok (11, 258, 2, 2, 18, 1) := ⟨q_18, rfl, fun _ => kh_18, ⟨kw_693, kw_694, kw_695, rfl⟩⟩
theorem kh_116 : k_hd q_116.1 4 := ⟨by decide, by decide, by decide, by decide +kernel⟩
theorem kr_140 : k_cok (11, 261, 0, 0, 116, 4) := ⟨q_116, rfl, fun _ => kh_116, ⟨kw_701, kw_702⟩⟩
theorem kh_117 : k_hd q_117.1 1 := ⟨by decide, by decide, by decide, by decide +kernel⟩
theorem kr_141 : k_cok (11, 272, 2, 11, 117, 1) := ⟨q_117, rfl, fun _ => kh_117, ⟨kw_722, kw_724, kv_21, rfl⟩⟩
theorem kh_119 : k_hd q_119.1 4 := ⟨by decide, by decide, by decide, by decide +kernel⟩
theorem kr_142 : k_cok (11, 275, 2, 11, 119, 4) := ⟨q_119, rfl, fun _ => kh_119, ⟨kw_735, kw_737, kv_23, rfl⟩⟩
theorem kh_121 : k_hd q_121.1 0 := ⟨by decide, by decide, by decide, by decide +kernel⟩
theorem kr_143 : k_cok (11, 278, 2, 11, 121, 0) := ⟨q_121, rfl, fun _ => kh_121, ⟨kw_747, kw_749, kv_25, rfl⟩⟩
theorem kh_24 : k_hd q_24.1 1 := ⟨by decide, by decide, by decide, by decide +kernel⟩
theorem kr_144 : k_cok (11, 281, 2, 2, 24, 1) := ⟨q_24, rfl, fun _ => kh_24, ⟨kw_755, kw_756, kw_757, rfl⟩⟩
theorem kh_122 : k_hd q_122.1 2 := ⟨by decide, by decide, by decide, by decide +kernel⟩
theorem kr_145 : k_cok (11, 284, 2, 11, 122, 2) := ⟨q_122, rfl, fun _ => kh_122, ⟨kw_759, kw_761, kv_26, rfl⟩⟩
theorem kh_17 : k_hd q_17.1 0 := ⟨by decide, by decide, by decide, by decide +kernel⟩
theorem kr_146 : k_cok (11, 287, 2, 2, 17, 0) := ⟨q_17, rfl, fun _ => kh_17, ⟨kw_775, kw_776, kw_777, rfl⟩⟩
theorem kr_147 : k_cok (11, 290, 0, 0, 227, 1) := ⟨q_227, rfl, fun _ => kh_227, ⟨kw_779, kw_561⟩⟩
theorem kh_125 : k_hd q_125.1 2 := ⟨by decide, by decide, by decide, by decide +kernel⟩
theorem kr_148 : k_cok (11, 295, 0, 0, 125, 2) := ⟨q_125, rfl, fun _ => kh_125, ⟨kw_780, kw_781⟩⟩
theorem kh_126 : k_hd q_126.1 2 := ⟨by decide, by decide, by decide, by decide +kernel⟩
theorem kr_149 : k_cok (11, 299, 2, 11, 126, 2) := ⟨q_126, rfl, fun _ => kh_126, ⟨kw_783, kw_785, kv_29, rfl⟩⟩
theorem kh_38 : k_hd q_38.1 1 := ⟨by decide, by decide, by decide, by decide +kernel⟩
theorem kr_150 : k_cok (11, 314, 2, 4, 38, 1) := ⟨q_38, rfl, fun _ => kh_38, ⟨kw_808, kw_809, kw_810, rfl⟩⟩
theorem kh_19 : k_hd q_19.1 0 := ⟨by decide, by decide, by decide, by decide +kernel⟩
theorem kr_151 : k_cok (11, 317, 2, 2, 19, 0) := ⟨q_19, rfl, fun _ => kh_19, ⟨kw_827, kw_828, kw_829, rfl⟩⟩
theorem kh_104 : k_hd q_104.1 1 := ⟨by decide, by decide, by decide, by decide +kernel⟩
theorem kr_152 : k_cok (11, 322, 2, 11, 104, 1) := ⟨q_104, rfl, fun _ => kh_104, ⟨kw_836, kw_824, kw_825, rfl⟩⟩
theorem kr_153 : k_cok (11, 325, 0, 0, 128, 2) := ⟨q_128, rfl, fun _ => kh_128, ⟨kw_837, kw_838⟩⟩
theorem kh_28 : k_hd q_28.1 1 := ⟨by decide, by decide, by decide, by decide +kernel⟩
theorem kr_154 : k_cok (11, 329, 2, 2, 28, 1) := ⟨q_28, rfl, fun _ => kh_28, ⟨kw_841, kw_842, kw_843, rfl⟩⟩
theorem kh_129 : k_hd q_129.1 3 := ⟨by decide, by decide, by decide, by decide +kernel⟩
theorem kr_155 : k_cok (11, 333, 0, 0, 129, 3) := ⟨q_129, rfl, fun _ => kh_129, ⟨kw_850, kw_851⟩⟩
theorem kh_118 : k_hd q_118.1 2 := ⟨by decide, by decide, by decide, by decide +kernel⟩
theorem kr_156 : k_cok (11, 345, 2, 11, 118, 2) := ⟨q_118, rfl, fun _ => kh_118, ⟨kw_726, kw_728, kv_22, rfl⟩⟩
theorem kr_157 : k_cok (11, 352, 3, 8, 59, 3) := ⟨q_59, rfl, fun _ => kh_59, ⟨⟨"StandUpBook$Vee", "riseOf", "(III)I"⟩, kw_730, kw_515, kw_513, kw_514, kw_513, rfl, rfl, by decide, by decide, _, _, _, kw_536⟩⟩
theorem kr_158 : k_cok (11, 352, 3, 0, 1, 3) := ⟨q_1, rfl, fun _ => kh_1, ⟨⟨"StandUpBook$Vee", "riseOf", "(III)I"⟩, kw_730, kw_515, kw_513, kw_516, kw_517, rfl, rfl, by decide, by decide, _, _, _, kw_536⟩⟩
theorem kr_159 : k_cok (11, 352, 3, 5, 40, 3) := ⟨q_40, rfl, fun _ => kh_40, ⟨⟨"StandUpBook$Vee", "riseOf", "(III)I"⟩, kw_730, kw_515, kw_513, kw_524, kw_525, rfl, rfl, by decide, by decide, _, _, _, kw_536⟩⟩
theorem kr_160 : k_cok (11, 352, 3, 1, 5, 3) := ⟨q_5, rfl, fun _ => kh_5, ⟨⟨"StandUpBook$Vee", "riseOf", "(III)I"⟩, kw_730, kw_515, kw_513, kw_520, kw_521, rfl, rfl, by decide, by decide, _, _, _, kw_536⟩⟩
theorem kr_161 : k_cok (11, 352, 3, 10, 67, 3) := ⟨q_67, rfl, fun _ => kh_67, ⟨⟨"StandUpBook$Vee", "riseOf", "(III)I"⟩, kw_730, kw_515, kw_513, kw_532, kw_533, rfl, rfl, by decide, by decide, _, _, _, kw_536⟩⟩
theorem kr_162 : k_cok (11, 352, 3, 6, 43, 3) := ⟨q_43, rfl, fun _ => kh_43, ⟨⟨"StandUpBook$Vee", "riseOf", "(III)I"⟩, kw_730, kw_515, kw_513, kw_528, kw_529, rfl, rfl, by decide, by decide, _, _, _, kw_536⟩⟩
theorem kh_120 : k_hd q_120.1 5 := ⟨by decide, by decide, by decide, by decide +kernel⟩
theorem kr_163 : k_cok (11, 355, 2, 11, 120, 5) := ⟨q_120, rfl, fun _ => kh_120, ⟨kw_739, kw_741, kv_24, rfl⟩⟩
theorem kh_123 : k_hd q_123.1 2 := ⟨by decide, by decide, by decide, by decide +kernel⟩
theorem kr_164 : k_cok (11, 358, 2, 11, 123, 2) := ⟨q_123, rfl, fun _ => kh_123, ⟨kw_763, kw_765, kv_27, rfl⟩⟩
theorem kh_124 : k_hd q_124.1 2 := ⟨by decide, by decide, by decide, by decide +kernel⟩
theorem kr_165 : k_cok (11, 361, 2, 11, 124, 2) := ⟨q_124, rfl, fun _ => kh_124, ⟨kw_767, kw_769, kv_28, rfl⟩⟩
theorem kh_127 : k_hd q_127.1 2 := ⟨by decide, by decide, by decide, by decide +kernel⟩
theorem kr_166 : k_cok (11, 364, 0, 0, 127, 2) := ⟨q_127, rfl, fun _ => kh_127, ⟨kw_787, kw_788⟩⟩
theorem kh_140 : k_hd q_140.1 1 := ⟨by decide, by decide, by decide, by decide +kernel⟩
theorem kr_167 : k_cok (12, 92, 2, 12, 140, 1) := ⟨q_140, rfl, fun _ => kh_140, ⟨kw_859, kw_861, kv_30, rfl⟩⟩
theorem kh_134 : k_hd q_134.1 3 := ⟨by decide, by decide, by decide, by decide +kernel⟩
theorem kr_168 : k_cok (12, 115, 0, 0, 134, 3) := ⟨q_134, rfl, fun _ => kh_134, ⟨kw_988, kw_989⟩⟩
theorem kh_130 : k_hd q_130.1 0 := ⟨by decide, by decide, by decide, by decide +kernel⟩
theorem kr_169 : k_cok (12, 119, 2, 12, 130, 0) := ⟨q_130, rfl, fun _ => kh_130, ⟨kw_991, kw_993, kv_31, rfl⟩⟩
theorem kh_133 : k_hd q_133.1 0 := ⟨by decide, by decide, by decide, by decide +kernel⟩
theorem kr_170 : k_cok (12, 123, 2, 12, 133, 0) := ⟨q_133, rfl, fun _ => kh_133, ⟨kw_999, kw_1001, kv_32, rfl⟩⟩
theorem kh_145 : k_hd q_145.1 5 := ⟨by decide, by decide, by decide, by decide +kernel⟩
theorem kr_171 : k_cok (12, 126, 2, 12, 145, 5) := ⟨q_145, rfl, fun _ => kh_145, ⟨kw_1003, kw_1005, kv_33, rfl⟩⟩
theorem kh_149 : k_hd q_149.1 0 := ⟨by decide, by decide, by decide, by decide +kernel⟩
theorem kr_172 : k_cok (12, 136, 2, 12, 149, 0) := ⟨q_149, rfl, fun _ => kh_149, ⟨kw_1039, kw_1041, kv_39, rfl⟩⟩
theorem kh_151 : k_hd q_151.1 1 := ⟨by decide, by decide, by decide, by decide +kernel⟩
theorem kr_173 : k_cok (12, 139, 0, 0, 151, 1) := ⟨q_151, rfl, fun _ => kh_151, ⟨kw_1051, kw_1052⟩⟩
theorem kh_153 : k_hd q_153.1 0 := ⟨by decide, by decide, by decide, by decide +kernel⟩
theorem kr_174 : k_cok (12, 143, 2, 12, 153, 0) := ⟨q_153, rfl, fun _ => kh_153, ⟨kw_1047, kw_1049, kv_41, rfl⟩⟩
theorem kh_154 : k_hd q_154.1 1 := ⟨by decide, by decide, by decide, by decide +kernel⟩
theorem kr_175 : k_cok (12, 146, 2, 12, 154, 1) := ⟨q_154, rfl, fun _ => kh_154, ⟨kw_1054, kw_1056, kv_42, rfl⟩⟩
theorem kh_150 : k_hd q_150.1 0 := ⟨by decide, by decide, by decide, by decide +kernel⟩
theorem kr_176 : k_cok (12, 150, 2, 12, 150, 0) := ⟨q_150, rfl, fun _ => kh_150, ⟨kw_1035, kw_1037, kv_38, rfl⟩⟩
theorem kh_152 : k_hd q_152.1 1 := ⟨by decide, by decide, by decide, by decide +kernel⟩
theorem kr_177 : k_cok (12, 153, 0, 0, 152, 1) := ⟨q_152, rfl, fun _ => kh_152, ⟨kw_1062, kw_1063⟩⟩
theorem kh_156 : k_hd q_156.1 2 := ⟨by decide, by decide, by decide, by decide +kernel⟩
theorem kr_178 : k_cok (12, 159, 2, 12, 156, 2) := ⟨q_156, rfl, fun _ => kh_156, ⟨kw_1058, kw_1060, kv_43, rfl⟩⟩
theorem kh_157 : k_hd q_157.1 0 := ⟨by decide, by decide, by decide, by decide +kernel⟩
theorem kr_179 : k_cok (12, 163, 2, 12, 157, 0) := ⟨q_157, rfl, fun _ => kh_157, ⟨kw_1065, kw_1067, kv_44, rfl⟩⟩
theorem kh_175 : k_hd q_175.1 1 := ⟨by decide, by decide, by decide, by decide +kernel⟩
theorem kr_180 : k_cok (12, 167, 2, 12, 175, 1) := ⟨q_175, rfl, fun _ => kh_175, ⟨kw_1077, kw_1079, kv_47, rfl⟩⟩
theorem kh_155 : k_hd q_155.1 0 := ⟨by decide, by decide, by decide, by decide +kernel⟩
theorem kr_181 : k_cok (12, 170, 2, 12, 155, 0) := ⟨q_155, rfl, fun _ => kh_155, ⟨kw_1043, kw_1045, kv_40, rfl⟩⟩
theorem kh_159 : k_hd q_159.1 0 := ⟨by decide, by decide, by decide, by decide +kernel⟩
theorem kr_182 : k_cok (12, 173, 2, 12, 159, 0) := ⟨q_159, rfl, fun _ => kh_159, ⟨kw_1073, kw_1075, kv_46, rfl⟩⟩
theorem kh_160 : k_hd q_160.1 0 := ⟨by decide, by decide, by decide, by decide +kernel⟩
theorem kr_183 : k_cok (12, 176, 2, 12, 160, 0) := ⟨q_160, rfl, fun _ => kh_160, ⟨kw_1091, kw_1093, kv_49, rfl⟩⟩
theorem kh_158 : k_hd q_158.1 1 := ⟨by decide, by decide, by decide, by decide +kernel⟩
theorem kr_184 : k_cok (12, 179, 2, 12, 158, 1) := ⟨q_158, rfl, fun _ => kh_158, ⟨kw_1095, kw_1097, kv_50, rfl⟩⟩
theorem kh_162 : k_hd q_162.1 0 := ⟨by decide, by decide, by decide, by decide +kernel⟩
theorem kr_185 : k_cok (12, 183, 2, 12, 162, 0) := ⟨q_162, rfl, fun _ => kh_162, ⟨kw_1031, kw_1033, kv_37, rfl⟩⟩
theorem kh_161 : k_hd q_161.1 0 := ⟨by decide, by decide, by decide, by decide +kernel⟩
theorem kr_186 : k_cok (12, 186, 2, 12, 161, 0) := ⟨q_161, rfl, fun _ => kh_161, ⟨kw_1069, kw_1071, kv_45, rfl⟩⟩
theorem kh_216 : k_hd q_216.1 2 := ⟨by decide, by decide, by decide, by decide +kernel⟩
theorem kr_187 : k_cok (12, 189, 2, 12, 216, 2) := ⟨q_216, rfl, fun _ => kh_216, ⟨kw_1019, kw_1021, kv_34, rfl⟩⟩
theorem kh_163 : k_hd q_163.1 0 := ⟨by decide, by decide, by decide, by decide +kernel⟩
theorem kr_188 : k_cok (12, 193, 2, 12, 163, 0) := ⟨q_163, rfl, fun _ => kh_163, ⟨kw_1027, kw_1029, kv_36, rfl⟩⟩
theorem kh_217 : k_hd q_217.1 2 := ⟨by decide, by decide, by decide, by decide +kernel⟩
theorem kr_189 : k_cok (12, 196, 2, 12, 217, 2) := ⟨q_217, rfl, fun _ => kh_217, ⟨kw_1099, kw_1101, kv_51, rfl⟩⟩
theorem kh_167 : k_hd q_167.1 1 := ⟨by decide, by decide, by decide, by decide +kernel⟩
theorem kr_190 : k_cok (12, 199, 0, 0, 167, 1) := ⟨q_167, rfl, fun _ => kh_167, ⟨kw_1085, kw_1086⟩⟩
theorem kh_168 : k_hd q_168.1 1 := ⟨by decide, by decide, by decide, by decide +kernel⟩
theorem kr_191 : k_cok (12, 202, 2, 12, 168, 1) := ⟨q_168, rfl, fun _ => kh_168, ⟨kw_1081, kw_1083, kv_48, rfl⟩⟩
theorem kh_135 : k_hd q_135.1 2 := ⟨by decide, by decide, by decide, by decide +kernel⟩
theorem kr_192 : k_cok (12, 208, 0, 0, 135, 2) := ⟨q_135, rfl, fun _ => kh_135, ⟨kw_1134, kw_1135⟩⟩
theorem kh_165 : k_hd q_165.1 4 := ⟨by decide, by decide, by decide, by decide +kernel⟩
theorem kr_193 : k_cok (12, 211, 0, 0, 165, 4) := ⟨q_165, rfl, fun _ => kh_165, ⟨kw_1137, kw_1138⟩⟩
theorem kh_169 : k_hd q_169.1 2 := ⟨by decide, by decide, by decide, by decide +kernel⟩
theorem kr_194 : k_cok (12, 215, 2, 12, 169, 2) := ⟨q_169, rfl, fun _ => kh_169, ⟨kw_1130, kw_1132, kv_57, rfl⟩⟩
theorem kh_170 : k_hd q_170.1 2 := ⟨by decide, by decide, by decide, by decide +kernel⟩
theorem kr_195 : k_cok (12, 219, 2, 12, 170, 2) := ⟨q_170, rfl, fun _ => kh_170, ⟨kw_1126, kw_1128, kv_56, rfl⟩⟩
theorem kh_172 : k_hd q_172.1 2 := ⟨by decide, by decide, by decide, by decide +kernel⟩
theorem kr_196 : k_cok (12, 222, 2, 12, 172, 2) := ⟨q_172, rfl, fun _ => kh_172, ⟨kw_1023, kw_1025, kv_35, rfl⟩⟩
theorem kh_136 : k_hd q_136.1 2 := ⟨by decide, by decide, by decide, by decide +kernel⟩
theorem kr_197 : k_cok (12, 225, 0, 0, 136, 2) := ⟨q_136, rfl, fun _ => kh_136, ⟨kw_1088, kw_1089⟩⟩
theorem kh_142 : k_hd q_142.1 1 := ⟨by decide, by decide, by decide, by decide +kernel⟩
theorem kr_198 : k_cok (12, 228, 0, 0, 142, 1) := ⟨q_142, rfl, fun _ => kh_142, ⟨kw_1111, kw_1112⟩⟩
theorem kh_132 : k_hd q_132.1 0 := ⟨by decide, by decide, by decide, by decide +kernel⟩
theorem kr_199 : k_cok (12, 231, 2, 12, 132, 0) := ⟨q_132, rfl, fun _ => kh_132, ⟨kw_1114, kw_1116, kv_53, rfl⟩⟩
theorem kh_174 : k_hd q_174.1 0 := ⟨by decide, by decide, by decide, by decide +kernel⟩
theorem kr_200 : k_cok (12, 234, 2, 12, 174, 0) := ⟨q_174, rfl, fun _ => kh_174, ⟨kw_1118, kw_1120, kv_54, rfl⟩⟩
theorem kh_171 : k_hd q_171.1 1 := ⟨by decide, by decide, by decide, by decide +kernel⟩
theorem kr_201 : k_cok (12, 237, 2, 12, 171, 1) := ⟨q_171, rfl, fun _ => kh_171, ⟨kw_1122, kw_1124, kv_55, rfl⟩⟩
theorem kh_141 : k_hd q_141.1 1 := ⟨by decide, by decide, by decide, by decide +kernel⟩
theorem kr_202 : k_cok (12, 240, 2, 12, 141, 1) := ⟨q_141, rfl, fun _ => kh_141, ⟨kw_1144, kw_1146, kv_58, rfl⟩⟩
theorem kh_173 : k_hd q_173.1 2 := ⟨by decide, by decide, by decide, by decide +kernel⟩
theorem kr_203 : k_cok (12, 243, 2, 12, 173, 2) := ⟨q_173, rfl, fun _ => kh_173, ⟨kw_1103, kw_1105, kv_52, rfl⟩⟩
theorem kh_166 : k_hd q_166.1 1 := ⟨by decide, by decide, by decide, by decide +kernel⟩
theorem kr_204 : k_cok (12, 246, 2, 12, 166, 1) := ⟨q_166, rfl, fun _ => kh_166, ⟨kw_1164, kw_1166, kv_59, rfl⟩⟩
theorem kh_138 : k_hd q_138.1 1 := ⟨by decide, by decide, by decide, by decide +kernel⟩
theorem kr_205 : k_cok (12, 249, 0, 0, 138, 1) := ⟨q_138, rfl, fun _ => kh_138, ⟨kw_1184, kw_1185⟩⟩
theorem kh_137 : k_hd q_137.1 2 := ⟨by decide, by decide, by decide, by decide +kernel⟩
theorem kr_206 : k_cok (12, 252, 0, 0, 137, 2) := ⟨q_137, rfl, fun _ => kh_137, ⟨kw_1187, kw_1188⟩⟩
theorem kh_186 : k_hd q_186.1 1 := ⟨by decide, by decide, by decide, by decide +kernel⟩
theorem kr_207 : k_cok (12, 255, 2, 12, 186, 1) := ⟨q_186, rfl, fun _ => kh_186, ⟨kw_1194, kw_1196, kv_60, rfl⟩⟩
theorem kh_190 : k_hd q_190.1 1 := ⟨by decide, by decide, by decide, by decide +kernel⟩
theorem kr_208 : k_cok (12, 261, 2, 12, 190, 1) := ⟨q_190, rfl, fun _ => kh_190, ⟨kw_1223, kw_1225, kv_66, rfl⟩⟩
theorem kh_143 : k_hd q_143.1 1 := ⟨by decide, by decide, by decide, by decide +kernel⟩
theorem kr_209 : k_cok (12, 264, 2, 12, 143, 1) := ⟨q_143, rfl, fun _ => kh_143, ⟨kw_1202, kw_1204, kv_61, rfl⟩⟩
theorem kh_131 : k_hd q_131.1 0 := ⟨by decide, by decide, by decide, by decide +kernel⟩
theorem kr_210 : k_cok (12, 267, 2, 12, 131, 0) := ⟨q_131, rfl, fun _ => kh_131, ⟨kw_1206, kw_1208, kv_62, rfl⟩⟩
theorem kh_188 : k_hd q_188.1 0 := ⟨by decide, by decide, by decide, by decide +kernel⟩
theorem kr_211 : k_cok (12, 270, 2, 12, 188, 0) := ⟨q_188, rfl, fun _ => kh_188, ⟨kw_1210, kw_1212, kv_63, rfl⟩⟩
theorem kh_189 : k_hd q_189.1 3 := ⟨by decide, by decide, by decide, by decide +kernel⟩
theorem kr_212 : k_cok (12, 274, 2, 12, 189, 3) := ⟨q_189, rfl, fun _ => kh_189, ⟨kw_1215, kw_1217, kv_64, rfl⟩⟩
theorem kh_191 : k_hd q_191.1 2 := ⟨by decide, by decide, by decide, by decide +kernel⟩
theorem kr_213 : k_cok (12, 277, 2, 12, 191, 2) := ⟨q_191, rfl, fun _ => kh_191, ⟨kw_1219, kw_1221, kv_65, rfl⟩⟩
theorem kh_192 : k_hd q_192.1 1 := ⟨by decide, by decide, by decide, by decide +kernel⟩
theorem kr_214 : k_cok (12, 281, 2, 12, 192, 1) := ⟨q_192, rfl, fun _ => kh_192, ⟨kw_1227, kw_1229, kv_67, rfl⟩⟩
theorem kh_195 : k_hd q_195.1 1 := ⟨by decide, by decide, by decide, by decide +kernel⟩
theorem kr_215 : k_cok (12, 284, 2, 12, 195, 1) := ⟨q_195, rfl, fun _ => kh_195, ⟨kw_1239, kw_1241, kv_68, rfl⟩⟩
theorem kh_197 : k_hd q_197.1 3 := ⟨by decide, by decide, by decide, by decide +kernel⟩
theorem kr_216 : k_cok (12, 287, 2, 12, 197, 3) := ⟨q_197, rfl, fun _ => kh_197, ⟨kw_1247, kw_1249, kv_69, rfl⟩⟩
theorem kh_202 : k_hd q_202.1 1 := ⟨by decide, by decide, by decide, by decide +kernel⟩
theorem kr_217 : k_cok (12, 291, 2, 12, 202, 1) := ⟨q_202, rfl, fun _ => kh_202, ⟨kw_1267, kw_1269, kv_70, rfl⟩⟩
theorem kh_204 : k_hd q_204.1 4 := ⟨by decide, by decide, by decide, by decide +kernel⟩
theorem kr_218 : k_cok (12, 294, 0, 0, 204, 4) := ⟨q_204, rfl, fun _ => kh_204, ⟨kw_1275, kw_1276⟩⟩
theorem kh_206 : k_hd q_206.1 0 := ⟨by decide, by decide, by decide, by decide +kernel⟩
theorem kr_219 : k_cok (12, 297, 2, 12, 206, 0) := ⟨q_206, rfl, fun _ => kh_206, ⟨kw_1282, kw_1284, kv_71, rfl⟩⟩
theorem kh_208 : k_hd q_208.1 2 := ⟨by decide, by decide, by decide, by decide +kernel⟩
theorem kr_220 : k_cok (12, 300, 2, 12, 208, 2) := ⟨q_208, rfl, fun _ => kh_208, ⟨kw_1294, kw_1296, kv_73, rfl⟩⟩
theorem kh_209 : k_hd q_209.1 2 := ⟨by decide, by decide, by decide, by decide +kernel⟩
theorem kr_221 : k_cok (12, 303, 2, 12, 209, 2) := ⟨q_209, rfl, fun _ => kh_209, ⟨kw_1298, kw_1300, kv_74, rfl⟩⟩
theorem kh_210 : k_hd q_210.1 2 := ⟨by decide, by decide, by decide, by decide +kernel⟩
theorem kr_222 : k_cok (12, 306, 2, 12, 210, 2) := ⟨q_210, rfl, fun _ => kh_210, ⟨kw_1290, kw_1292, kv_72, rfl⟩⟩
theorem kh_212 : k_hd q_212.1 2 := ⟨by decide, by decide, by decide, by decide +kernel⟩
theorem kr_223 : k_cok (12, 314, 2, 12, 212, 2) := ⟨q_212, rfl, fun _ => kh_212, ⟨kw_1307, kw_1309, kv_75, rfl⟩⟩
theorem kh_222 : k_hd q_222.1 0 := ⟨by decide, by decide, by decide, by decide +kernel⟩
theorem kr_224 : k_cok (12, 329, 2, 12, 222, 0) := ⟨q_222, rfl, fun _ => kh_222, ⟨kw_1345, kw_1347, kv_77, rfl⟩⟩
theorem kh_221 : k_hd q_221.1 0 := ⟨by decide, by decide, by decide, by decide +kernel⟩
theorem kr_225 : k_cok (12, 332, 2, 12, 221, 0) := ⟨q_221, rfl, fun _ => kh_221, ⟨kw_1349, kw_1351, kv_78, rfl⟩⟩
theorem kh_223 : k_hd q_223.1 1 := ⟨by decide, by decide, by decide, by decide +kernel⟩
theorem kr_226 : k_cok (12, 335, 2, 12, 223, 1) := ⟨q_223, rfl, fun _ => kh_223, ⟨kw_1341, kw_1343, kv_76, rfl⟩⟩
theorem kh_225 : k_hd q_225.1 1 := ⟨by decide, by decide, by decide, by decide +kernel⟩
theorem kr_227 : k_cok (12, 345, 2, 12, 225, 1) := ⟨q_225, rfl, fun _ => kh_225, ⟨kw_1358, kw_1360, kv_79, rfl⟩⟩
theorem kh_70 : k_hd q_70.1 0 := ⟨by decide, by decide, by decide, by decide +kernel⟩
theorem kr_228 : k_cok (13, 9, 5, 11, 70, 0) := ⟨q_70, rfl, fun _ => kh_70, ⟨kw_23, kw_24, rfl⟩⟩
theorem kh_139 : k_hd q_139.1 0 := ⟨by decide, by decide, by decide, by decide +kernel⟩
theorem kr_229 : k_cok (13, 12, 5, 12, 139, 0) := ⟨q_139, rfl, fun _ => kh_139, ⟨kw_855, kw_856, rfl⟩⟩
theorem kh_71 : k_hd q_71.1 1 := ⟨by decide, by decide, by decide, by decide +kernel⟩
theorem kr_230 : k_cok (13, 13, 2, 11, 71, 1) := ⟨q_71, rfl, fun _ => kh_71, ⟨kw_281, kw_282, kw_283, rfl⟩⟩
theorem kh_144 : k_hd q_144.1 1 := ⟨by decide, by decide, by decide, by decide +kernel⟩
theorem kr_231 : k_cok (13, 17, 2, 12, 144, 1) := ⟨q_144, rfl, fun _ => kh_144, ⟨kw_984, kw_985, kw_986, rfl⟩⟩
theorem kh_72 : k_hd q_72.1 5 := ⟨by decide, by decide, by decide, by decide +kernel⟩
theorem kr_232 : k_cok (13, 18, 2, 11, 72, 5) := ⟨q_72, rfl, fun _ => kh_72, ⟨kw_300, kw_301, kw_302, rfl⟩⟩
theorem kh_146 : k_hd q_146.1 5 := ⟨by decide, by decide, by decide, by decide +kernel⟩
theorem kr_233 : k_cok (13, 22, 2, 12, 146, 5) := ⟨q_146, rfl, fun _ => kh_146, ⟨kw_995, kw_996, kw_997, rfl⟩⟩
theorem kh_73 : k_hd q_73.1 1 := ⟨by decide, by decide, by decide, by decide +kernel⟩
theorem kr_234 : k_cok (13, 23, 2, 11, 73, 1) := ⟨q_73, rfl, fun _ => kh_73, ⟨kw_338, kw_339, kw_340, rfl⟩⟩
theorem kh_147 : k_hd q_147.1 1 := ⟨by decide, by decide, by decide, by decide +kernel⟩
theorem kr_235 : k_cok (13, 26, 2, 12, 147, 1) := ⟨q_147, rfl, fun _ => kh_147, ⟨kw_1007, kw_1008, kw_1009, rfl⟩⟩
theorem kh_74 : k_hd q_74.1 0 := ⟨by decide, by decide, by decide, by decide +kernel⟩
theorem kr_236 : k_cok (13, 27, 2, 11, 74, 0) := ⟨q_74, rfl, fun _ => kh_74, ⟨kw_346, kw_347, kw_348, rfl⟩⟩
theorem kh_148 : k_hd q_148.1 0 := ⟨by decide, by decide, by decide, by decide +kernel⟩
theorem kr_237 : k_cok (13, 31, 2, 12, 148, 0) := ⟨q_148, rfl, fun _ => kh_148, ⟨kw_1011, kw_1012, kw_1013, rfl⟩⟩
theorem kh_75 : k_hd q_75.1 0 := ⟨by decide, by decide, by decide, by decide +kernel⟩
theorem kr_238 : k_cok (13, 32, 2, 11, 75, 0) := ⟨q_75, rfl, fun _ => kh_75, ⟨kw_350, kw_351, kw_352, rfl⟩⟩
theorem kh_164 : k_hd q_164.1 0 := ⟨by decide, by decide, by decide, by decide +kernel⟩
theorem kr_239 : k_cok (13, 35, 2, 12, 164, 0) := ⟨q_164, rfl, fun _ => kh_164, ⟨kw_1015, kw_1016, kw_1017, rfl⟩⟩
theorem kh_76 : k_hd q_76.1 1 := ⟨by decide, by decide, by decide, by decide +kernel⟩
theorem kr_240 : k_cok (13, 36, 2, 11, 76, 1) := ⟨q_76, rfl, fun _ => kh_76, ⟨kw_480, kw_481, kw_482, rfl⟩⟩
theorem kh_176 : k_hd q_176.1 1 := ⟨by decide, by decide, by decide, by decide +kernel⟩
theorem kr_241 : k_cok (13, 39, 2, 12, 176, 1) := ⟨q_176, rfl, fun _ => kh_176, ⟨kw_1107, kw_1108, kw_1109, rfl⟩⟩
theorem kh_77 : k_hd q_77.1 2 := ⟨by decide, by decide, by decide, by decide +kernel⟩
theorem kr_242 : k_cok (13, 40, 2, 11, 77, 2) := ⟨q_77, rfl, fun _ => kh_77, ⟨kw_541, kw_542, kw_543, rfl⟩⟩
theorem kh_177 : k_hd q_177.1 2 := ⟨by decide, by decide, by decide, by decide +kernel⟩
theorem kr_243 : k_cok (13, 44, 2, 12, 177, 2) := ⟨q_177, rfl, fun _ => kh_177, ⟨kw_1140, kw_1141, kw_1142, rfl⟩⟩
theorem kh_78 : k_hd q_78.1 1 := ⟨by decide, by decide, by decide, by decide +kernel⟩
theorem kr_244 : k_cok (13, 45, 2, 11, 78, 1) := ⟨q_78, rfl, fun _ => kh_78, ⟨kw_549, kw_550, kw_551, rfl⟩⟩
theorem kh_178 : k_hd q_178.1 1 := ⟨by decide, by decide, by decide, by decide +kernel⟩
theorem kr_245 : k_cok (13, 48, 2, 12, 178, 1) := ⟨q_178, rfl, fun _ => kh_178, ⟨kw_1148, kw_1149, kw_1150, rfl⟩⟩
theorem kh_79 : k_hd q_79.1 0 := ⟨by decide, by decide, by decide, by decide +kernel⟩
theorem kr_246 : k_cok (13, 49, 2, 11, 79, 0) := ⟨q_79, rfl, fun _ => kh_79, ⟨kw_566, kw_567, kw_568, rfl⟩⟩
theorem kh_179 : k_hd q_179.1 0 := ⟨by decide, by decide, by decide, by decide +kernel⟩
theorem kr_247 : k_cok (13, 52, 2, 12, 179, 0) := ⟨q_179, rfl, fun _ => kh_179, ⟨kw_1152, kw_1153, kw_1154, rfl⟩⟩
theorem kh_80 : k_hd q_80.1 2 := ⟨by decide, by decide, by decide, by decide +kernel⟩
theorem kr_248 : k_cok (13, 53, 2, 11, 80, 2) := ⟨q_80, rfl, fun _ => kh_80, ⟨kw_574, kw_575, kw_576, rfl⟩⟩
theorem kh_180 : k_hd q_180.1 2 := ⟨by decide, by decide, by decide, by decide +kernel⟩
theorem kr_249 : k_cok (13, 56, 2, 12, 180, 2) := ⟨q_180, rfl, fun _ => kh_180, ⟨kw_1156, kw_1157, kw_1158, rfl⟩⟩
theorem kh_81 : k_hd q_81.1 3 := ⟨by decide, by decide, by decide, by decide +kernel⟩
theorem kr_250 : k_cok (13, 57, 2, 11, 81, 3) := ⟨q_81, rfl, fun _ => kh_81, ⟨kw_579, kw_580, kw_581, rfl⟩⟩
theorem kh_181 : k_hd q_181.1 3 := ⟨by decide, by decide, by decide, by decide +kernel⟩
theorem kr_251 : k_cok (13, 61, 2, 12, 181, 3) := ⟨q_181, rfl, fun _ => kh_181, ⟨kw_1160, kw_1161, kw_1162, rfl⟩⟩
theorem kh_82 : k_hd q_82.1 2 := ⟨by decide, by decide, by decide, by decide +kernel⟩
theorem kr_252 : k_cok (13, 62, 2, 11, 82, 2) := ⟨q_82, rfl, fun _ => kh_82, ⟨kw_610, kw_611, kw_612, rfl⟩⟩
theorem kh_182 : k_hd q_182.1 2 := ⟨by decide, by decide, by decide, by decide +kernel⟩
theorem kr_253 : k_cok (13, 65, 2, 12, 182, 2) := ⟨q_182, rfl, fun _ => kh_182, ⟨kw_1168, kw_1169, kw_1170, rfl⟩⟩
theorem kh_83 : k_hd q_83.1 1 := ⟨by decide, by decide, by decide, by decide +kernel⟩
theorem kr_254 : k_cok (13, 66, 2, 11, 83, 1) := ⟨q_83, rfl, fun _ => kh_83, ⟨kw_615, kw_616, kw_617, rfl⟩⟩
theorem kh_183 : k_hd q_183.1 1 := ⟨by decide, by decide, by decide, by decide +kernel⟩
theorem kr_255 : k_cok (13, 69, 2, 12, 183, 1) := ⟨q_183, rfl, fun _ => kh_183, ⟨kw_1172, kw_1173, kw_1174, rfl⟩⟩
theorem kh_84 : k_hd q_84.1 1 := ⟨by decide, by decide, by decide, by decide +kernel⟩
theorem kr_256 : k_cok (13, 70, 2, 11, 84, 1) := ⟨q_84, rfl, fun _ => kh_84, ⟨kw_619, kw_620, kw_621, rfl⟩⟩
theorem kh_184 : k_hd q_184.1 1 := ⟨by decide, by decide, by decide, by decide +kernel⟩
theorem kr_257 : k_cok (13, 73, 2, 12, 184, 1) := ⟨q_184, rfl, fun _ => kh_184, ⟨kw_1176, kw_1177, kw_1178, rfl⟩⟩
theorem kh_85 : k_hd q_85.1 1 := ⟨by decide, by decide, by decide, by decide +kernel⟩
theorem kr_258 : k_cok (13, 74, 2, 11, 85, 1) := ⟨q_85, rfl, fun _ => kh_85, ⟨kw_628, kw_629, kw_630, rfl⟩⟩
theorem kh_185 : k_hd q_185.1 1 := ⟨by decide, by decide, by decide, by decide +kernel⟩
theorem kr_259 : k_cok (13, 77, 2, 12, 185, 1) := ⟨q_185, rfl, fun _ => kh_185, ⟨kw_1180, kw_1181, kw_1182, rfl⟩⟩
theorem kh_86 : k_hd q_86.1 1 := ⟨by decide, by decide, by decide, by decide +kernel⟩
theorem kr_260 : k_cok (13, 78, 2, 11, 86, 1) := ⟨q_86, rfl, fun _ => kh_86, ⟨kw_637, kw_638, kw_639, rfl⟩⟩
theorem kh_187 : k_hd q_187.1 1 := ⟨by decide, by decide, by decide, by decide +kernel⟩
theorem kr_261 : k_cok (13, 81, 2, 12, 187, 1) := ⟨q_187, rfl, fun _ => kh_187, ⟨kw_1190, kw_1191, kw_1192, rfl⟩⟩
theorem kh_87 : k_hd q_87.1 2 := ⟨by decide, by decide, by decide, by decide +kernel⟩
theorem kr_262 : k_cok (13, 82, 2, 11, 87, 2) := ⟨q_87, rfl, fun _ => kh_87, ⟨kw_657, kw_658, kw_659, rfl⟩⟩
theorem kh_193 : k_hd q_193.1 2 := ⟨by decide, by decide, by decide, by decide +kernel⟩
theorem kr_263 : k_cok (13, 85, 2, 12, 193, 2) := ⟨q_193, rfl, fun _ => kh_193, ⟨kw_1198, kw_1199, kw_1200, rfl⟩⟩
theorem kh_88 : k_hd q_88.1 3 := ⟨by decide, by decide, by decide, by decide +kernel⟩
theorem kr_264 : k_cok (13, 86, 2, 11, 88, 3) := ⟨q_88, rfl, fun _ => kh_88, ⟨kw_685, kw_686, kw_687, rfl⟩⟩
theorem kh_194 : k_hd q_194.1 3 := ⟨by decide, by decide, by decide, by decide +kernel⟩
theorem kr_265 : k_cok (13, 89, 2, 12, 194, 3) := ⟨q_194, rfl, fun _ => kh_194, ⟨kw_1231, kw_1232, kw_1233, rfl⟩⟩
theorem kh_89 : k_hd q_89.1 0 := ⟨by decide, by decide, by decide, by decide +kernel⟩
theorem kr_266 : k_cok (13, 90, 2, 11, 89, 0) := ⟨q_89, rfl, fun _ => kh_89, ⟨kw_689, kw_690, kw_691, rfl⟩⟩
theorem kh_196 : k_hd q_196.1 0 := ⟨by decide, by decide, by decide, by decide +kernel⟩
theorem kr_267 : k_cok (13, 93, 2, 12, 196, 0) := ⟨q_196, rfl, fun _ => kh_196, ⟨kw_1235, kw_1236, kw_1237, rfl⟩⟩
theorem kh_90 : k_hd q_90.1 2 := ⟨by decide, by decide, by decide, by decide +kernel⟩
theorem kr_268 : k_cok (13, 94, 2, 11, 90, 2) := ⟨q_90, rfl, fun _ => kh_90, ⟨kw_697, kw_698, kw_699, rfl⟩⟩
theorem kh_198 : k_hd q_198.1 2 := ⟨by decide, by decide, by decide, by decide +kernel⟩
theorem kr_269 : k_cok (13, 97, 2, 12, 198, 2) := ⟨q_198, rfl, fun _ => kh_198, ⟨kw_1243, kw_1244, kw_1245, rfl⟩⟩
theorem kh_91 : k_hd q_91.1 5 := ⟨by decide, by decide, by decide, by decide +kernel⟩
theorem kr_270 : k_cok (13, 98, 2, 11, 91, 5) := ⟨q_91, rfl, fun _ => kh_91, ⟨kw_706, kw_707, kw_708, rfl⟩⟩
theorem kh_199 : k_hd q_199.1 5 := ⟨by decide, by decide, by decide, by decide +kernel⟩
theorem kr_271 : k_cok (13, 101, 2, 12, 199, 5) := ⟨q_199, rfl, fun _ => kh_199, ⟨kw_1251, kw_1252, kw_1253, rfl⟩⟩
theorem kh_92 : k_hd q_92.1 2 := ⟨by decide, by decide, by decide, by decide +kernel⟩
theorem kr_272 : k_cok (13, 102, 2, 11, 92, 2) := ⟨q_92, rfl, fun _ => kh_92, ⟨kw_710, kw_711, kw_712, rfl⟩⟩
theorem kh_200 : k_hd q_200.1 2 := ⟨by decide, by decide, by decide, by decide +kernel⟩
theorem kr_273 : k_cok (13, 105, 2, 12, 200, 2) := ⟨q_200, rfl, fun _ => kh_200, ⟨kw_1255, kw_1256, kw_1257, rfl⟩⟩
theorem kh_93 : k_hd q_93.1 1 := ⟨by decide, by decide, by decide, by decide +kernel⟩
theorem kr_274 : k_cok (13, 106, 2, 11, 93, 1) := ⟨q_93, rfl, fun _ => kh_93, ⟨kw_714, kw_715, kw_716, rfl⟩⟩
theorem kh_201 : k_hd q_201.1 1 := ⟨by decide, by decide, by decide, by decide +kernel⟩
theorem kr_275 : k_cok (13, 109, 2, 12, 201, 1) := ⟨q_201, rfl, fun _ => kh_201, ⟨kw_1259, kw_1260, kw_1261, rfl⟩⟩
theorem kh_94 : k_hd q_94.1 1 := ⟨by decide, by decide, by decide, by decide +kernel⟩
theorem kr_276 : k_cok (13, 110, 2, 11, 94, 1) := ⟨q_94, rfl, fun _ => kh_94, ⟨kw_718, kw_719, kw_720, rfl⟩⟩
theorem kh_203 : k_hd q_203.1 1 := ⟨by decide, by decide, by decide, by decide +kernel⟩
theorem kr_277 : k_cok (13, 113, 2, 12, 203, 1) := ⟨q_203, rfl, fun _ => kh_203, ⟨kw_1263, kw_1264, kw_1265, rfl⟩⟩
theorem kh_95 : k_hd q_95.1 1 := ⟨by decide, by decide, by decide, by decide +kernel⟩
theorem kr_278 : k_cok (13, 114, 2, 11, 95, 1) := ⟨q_95, rfl, fun _ => kh_95, ⟨kw_731, kw_732, kw_733, rfl⟩⟩
theorem kh_205 : k_hd q_205.1 1 := ⟨by decide, by decide, by decide, by decide +kernel⟩
theorem kr_279 : k_cok (13, 117, 2, 12, 205, 1) := ⟨q_205, rfl, fun _ => kh_205, ⟨kw_1271, kw_1272, kw_1273, rfl⟩⟩
theorem kh_96 : k_hd q_96.1 2 := ⟨by decide, by decide, by decide, by decide +kernel⟩
theorem kr_280 : k_cok (13, 118, 2, 11, 96, 2) := ⟨q_96, rfl, fun _ => kh_96, ⟨kw_743, kw_744, kw_745, rfl⟩⟩
theorem kh_207 : k_hd q_207.1 2 := ⟨by decide, by decide, by decide, by decide +kernel⟩
theorem kr_281 : k_cok (13, 121, 2, 12, 207, 2) := ⟨q_207, rfl, fun _ => kh_207, ⟨kw_1278, kw_1279, kw_1280, rfl⟩⟩
theorem kh_97 : k_hd q_97.1 1 := ⟨by decide, by decide, by decide, by decide +kernel⟩
theorem kr_282 : k_cok (13, 122, 2, 11, 97, 1) := ⟨q_97, rfl, fun _ => kh_97, ⟨kw_751, kw_752, kw_753, rfl⟩⟩
theorem kh_211 : k_hd q_211.1 1 := ⟨by decide, by decide, by decide, by decide +kernel⟩
theorem kr_283 : k_cok (13, 125, 2, 12, 211, 1) := ⟨q_211, rfl, fun _ => kh_211, ⟨kw_1286, kw_1287, kw_1288, rfl⟩⟩
theorem kh_98 : k_hd q_98.1 2 := ⟨by decide, by decide, by decide, by decide +kernel⟩
theorem kr_284 : k_cok (13, 126, 2, 11, 98, 2) := ⟨q_98, rfl, fun _ => kh_98, ⟨kw_771, kw_772, kw_773, rfl⟩⟩
theorem kh_213 : k_hd q_213.1 2 := ⟨by decide, by decide, by decide, by decide +kernel⟩
theorem kr_285 : k_cok (13, 129, 2, 12, 213, 2) := ⟨q_213, rfl, fun _ => kh_213, ⟨kw_1302, kw_1303, kw_1304, rfl⟩⟩
theorem kh_99 : k_hd q_99.1 2 := ⟨by decide, by decide, by decide, by decide +kernel⟩
theorem kr_286 : k_cok (13, 130, 2, 11, 99, 2) := ⟨q_99, rfl, fun _ => kh_99, ⟨kw_790, kw_791, kw_792, rfl⟩⟩
theorem kh_214 : k_hd q_214.1 2 := ⟨by decide, by decide, by decide, by decide +kernel⟩
theorem kr_287 : k_cok (13, 133, 2, 12, 214, 2) := ⟨q_214, rfl, fun _ => kh_214, ⟨kw_1311, kw_1312, kw_1313, rfl⟩⟩
theorem kh_100 : k_hd q_100.1 1 := ⟨by decide, by decide, by decide, by decide +kernel⟩
theorem kr_288 : k_cok (13, 134, 2, 11, 100, 1) := ⟨q_100, rfl, fun _ => kh_100, ⟨kw_800, kw_801, kw_802, rfl⟩⟩
theorem kh_215 : k_hd q_215.1 1 := ⟨by decide, by decide, by decide, by decide +kernel⟩
theorem kr_289 : k_cok (13, 138, 2, 12, 215, 1) := ⟨q_215, rfl, fun _ => kh_215, ⟨kw_1321, kw_1322, kw_1323, rfl⟩⟩
theorem kh_101 : k_hd q_101.1 1 := ⟨by decide, by decide, by decide, by decide +kernel⟩
theorem kr_290 : k_cok (13, 139, 2, 11, 101, 1) := ⟨q_101, rfl, fun _ => kh_101, ⟨kw_804, kw_805, kw_806, rfl⟩⟩
theorem kh_218 : k_hd q_218.1 1 := ⟨by decide, by decide, by decide, by decide +kernel⟩
theorem kr_291 : k_cok (13, 142, 2, 12, 218, 1) := ⟨q_218, rfl, fun _ => kh_218, ⟨kw_1325, kw_1326, kw_1327, rfl⟩⟩
theorem kh_102 : k_hd q_102.1 1 := ⟨by decide, by decide, by decide, by decide +kernel⟩
theorem kr_292 : k_cok (13, 143, 2, 11, 102, 1) := ⟨q_102, rfl, fun _ => kh_102, ⟨kw_815, kw_816, kw_817, rfl⟩⟩
theorem kh_219 : k_hd q_219.1 1 := ⟨by decide, by decide, by decide, by decide +kernel⟩
theorem kr_293 : k_cok (13, 146, 2, 12, 219, 1) := ⟨q_219, rfl, fun _ => kh_219, ⟨kw_1329, kw_1330, kw_1331, rfl⟩⟩
theorem kh_103 : k_hd q_103.1 1 := ⟨by decide, by decide, by decide, by decide +kernel⟩
theorem kr_294 : k_cok (13, 147, 2, 11, 103, 1) := ⟨q_103, rfl, fun _ => kh_103, ⟨kw_819, kw_820, kw_821, rfl⟩⟩
theorem kh_220 : k_hd q_220.1 1 := ⟨by decide, by decide, by decide, by decide +kernel⟩
theorem kr_295 : k_cok (13, 150, 2, 12, 220, 1) := ⟨q_220, rfl, fun _ => kh_220, ⟨kw_1333, kw_1334, kw_1335, rfl⟩⟩
theorem kr_296 : k_cok (13, 151, 2, 11, 104, 1) := ⟨q_104, rfl, fun _ => kh_104, ⟨kw_823, kw_824, kw_825, rfl⟩⟩
theorem kh_224 : k_hd q_224.1 1 := ⟨by decide, by decide, by decide, by decide +kernel⟩
theorem kr_297 : k_cok (13, 154, 2, 12, 224, 1) := ⟨q_224, rfl, fun _ => kh_224, ⟨kw_1337, kw_1338, kw_1339, rfl⟩⟩
theorem kh_105 : k_hd q_105.1 0 := ⟨by decide, by decide, by decide, by decide +kernel⟩
theorem kr_298 : k_cok (13, 155, 2, 11, 105, 0) := ⟨q_105, rfl, fun _ => kh_105, ⟨kw_831, kw_832, kw_833, rfl⟩⟩
theorem kh_226 : k_hd q_226.1 0 := ⟨by decide, by decide, by decide, by decide +kernel⟩
theorem kr_299 : k_cok (13, 159, 2, 12, 226, 0) := ⟨q_226, rfl, fun _ => kh_226, ⟨kw_1353, kw_1354, kw_1355, rfl⟩⟩
theorem kr_300 : k_cok (4, 53, 8, 0, 0, 5) := ⟨q_0, rfl, fun h => absurd h (by decide), kw_812⟩
theorem kr_301 : k_cok (2, 3, 9, 0, 0, 0) := ⟨q_0, rfl, fun h => absurd h (by decide), kw_134⟩
theorem kr_302 : k_cok (3, 1, 9, 0, 0, 0) := ⟨q_0, rfl, fun h => absurd h (by decide), kw_141⟩
theorem kr_303 : k_cok (4, 3, 9, 0, 0, 0) := ⟨q_0, rfl, fun h => absurd h (by decide), kw_125⟩
theorem kr_304 : k_cok (7, 3, 9, 0, 0, 0) := ⟨q_0, rfl, fun h => absurd h (by decide), kw_36⟩
theorem kr_305 : k_cok (8, 3, 9, 0, 0, 0) := ⟨q_0, rfl, fun h => absurd h (by decide), kw_84⟩
theorem kr_306 : k_cok (9, 3, 9, 0, 0, 0) := ⟨q_0, rfl, fun h => absurd h (by decide), kw_67⟩
theorem kr_307 : k_cok (11, 1, 9, 0, 0, 0) := ⟨q_0, rfl, fun h => absurd h (by decide), kw_26⟩
theorem kr_308 : k_cok (12, 7, 9, 0, 0, 0) := ⟨q_0, rfl, fun h => absurd h (by decide), kw_858⟩
theorem kr_309 : k_cok (2, 74, 12, 0, 0, 0) := ⟨q_0, rfl, fun h => absurd h (by decide), kw_457⟩
theorem kr_310 : k_cok (2, 83, 11, 0, 0, 0) := ⟨q_0, rfl, fun h => absurd h (by decide), kw_464⟩
theorem kr_311 : k_cok (2, 117, 10, 0, 0, 0) := ⟨q_0, rfl, fun h => absurd h (by decide), kw_654⟩
theorem kr_312 : k_cok (9, 19, 10, 0, 0, 0) := ⟨q_0, rfl, fun h => absurd h (by decide), kw_673⟩
theorem kr_313 : k_cok (9, 29, 11, 0, 0, 0) := ⟨q_0, rfl, fun h => absurd h (by decide), kw_679⟩
theorem kr_314 : k_cok (11, 337, 11, 0, 0, 0) := ⟨q_0, rfl, fun h => absurd h (by decide), kw_704⟩
theorem kr_315 : k_cok (11, 342, 10, 0, 0, 0) := ⟨q_0, rfl, fun h => absurd h (by decide), kw_705⟩
theorem k_cs_ok : ∀ r ∈ k_cs, k_cok r := by
  unfold k_cs
  refine List.forall_mem_cons.mpr ⟨kr_0, ?_⟩
  refine List.forall_mem_cons.mpr ⟨kr_1, ?_⟩
  refine List.forall_mem_cons.mpr ⟨kr_2, ?_⟩
  refine List.forall_mem_cons.mpr ⟨kr_3, ?_⟩
  refine List.forall_mem_cons.mpr ⟨kr_4, ?_⟩
  refine List.forall_mem_cons.mpr ⟨kr_5, ?_⟩
  refine List.forall_mem_cons.mpr ⟨kr_6, ?_⟩
  refine List.forall_mem_cons.mpr ⟨kr_7, ?_⟩
  refine List.forall_mem_cons.mpr ⟨kr_8, ?_⟩
  refine List.forall_mem_cons.mpr ⟨kr_9, ?_⟩
  refine List.forall_mem_cons.mpr ⟨kr_10, ?_⟩
  refine List.forall_mem_cons.mpr ⟨kr_11, ?_⟩
  refine List.forall_mem_cons.mpr ⟨kr_12, ?_⟩
  refine List.forall_mem_cons.mpr ⟨kr_13, ?_⟩
  refine List.forall_mem_cons.mpr ⟨kr_14, ?_⟩
  refine List.forall_mem_cons.mpr ⟨kr_15, ?_⟩
  refine List.forall_mem_cons.mpr ⟨kr_16, ?_⟩
  refine List.forall_mem_cons.mpr ⟨kr_17, ?_⟩
  refine List.forall_mem_cons.mpr ⟨kr_18, ?_⟩
  refine List.forall_mem_cons.mpr ⟨kr_19, ?_⟩
  refine List.forall_mem_cons.mpr ⟨kr_20, ?_⟩
  refine List.forall_mem_cons.mpr ⟨kr_21, ?_⟩
  refine List.forall_mem_cons.mpr ⟨kr_22, ?_⟩
  refine List.forall_mem_cons.mpr ⟨kr_23, ?_⟩
  refine List.forall_mem_cons.mpr ⟨kr_24, ?_⟩
  refine List.forall_mem_cons.mpr ⟨kr_25, ?_⟩
  refine List.forall_mem_cons.mpr ⟨kr_26, ?_⟩
  refine List.forall_mem_cons.mpr ⟨kr_27, ?_⟩
  refine List.forall_mem_cons.mpr ⟨kr_28, ?_⟩
  refine List.forall_mem_cons.mpr ⟨kr_29, ?_⟩
  refine List.forall_mem_cons.mpr ⟨kr_30, ?_⟩
  refine List.forall_mem_cons.mpr ⟨kr_31, ?_⟩
  refine List.forall_mem_cons.mpr ⟨kr_32, ?_⟩
  refine List.forall_mem_cons.mpr ⟨kr_33, ?_⟩
  refine List.forall_mem_cons.mpr ⟨kr_34, ?_⟩
  refine List.forall_mem_cons.mpr ⟨kr_35, ?_⟩
  refine List.forall_mem_cons.mpr ⟨kr_36, ?_⟩
  refine List.forall_mem_cons.mpr ⟨kr_37, ?_⟩
  refine List.forall_mem_cons.mpr ⟨kr_38, ?_⟩
  refine List.forall_mem_cons.mpr ⟨kr_39, ?_⟩
  refine List.forall_mem_cons.mpr ⟨kr_40, ?_⟩
  refine List.forall_mem_cons.mpr ⟨kr_41, ?_⟩
  refine List.forall_mem_cons.mpr ⟨kr_42, ?_⟩
  refine List.forall_mem_cons.mpr ⟨kr_43, ?_⟩
  refine List.forall_mem_cons.mpr ⟨kr_44, ?_⟩
  refine List.forall_mem_cons.mpr ⟨kr_45, ?_⟩
  refine List.forall_mem_cons.mpr ⟨kr_46, ?_⟩
  refine List.forall_mem_cons.mpr ⟨kr_47, ?_⟩
  refine List.forall_mem_cons.mpr ⟨kr_48, ?_⟩
  refine List.forall_mem_cons.mpr ⟨kr_49, ?_⟩
  refine List.forall_mem_cons.mpr ⟨kr_50, ?_⟩
  refine List.forall_mem_cons.mpr ⟨kr_51, ?_⟩
  refine List.forall_mem_cons.mpr ⟨kr_52, ?_⟩
  refine List.forall_mem_cons.mpr ⟨kr_53, ?_⟩
  refine List.forall_mem_cons.mpr ⟨kr_54, ?_⟩
  refine List.forall_mem_cons.mpr ⟨kr_55, ?_⟩
  refine List.forall_mem_cons.mpr ⟨kr_56, ?_⟩
  refine List.forall_mem_cons.mpr ⟨kr_57, ?_⟩
  refine List.forall_mem_cons.mpr ⟨kr_58, ?_⟩
  refine List.forall_mem_cons.mpr ⟨kr_59, ?_⟩
  refine List.forall_mem_cons.mpr ⟨kr_60, ?_⟩
  refine List.forall_mem_cons.mpr ⟨kr_61, ?_⟩
  refine List.forall_mem_cons.mpr ⟨kr_62, ?_⟩
  refine List.forall_mem_cons.mpr ⟨kr_63, ?_⟩
  refine List.forall_mem_cons.mpr ⟨kr_64, ?_⟩
  refine List.forall_mem_cons.mpr ⟨kr_65, ?_⟩
  refine List.forall_mem_cons.mpr ⟨kr_66, ?_⟩
  refine List.forall_mem_cons.mpr ⟨kr_67, ?_⟩
  refine List.forall_mem_cons.mpr ⟨kr_68, ?_⟩
  refine List.forall_mem_cons.mpr ⟨kr_69, ?_⟩
  refine List.forall_mem_cons.mpr ⟨kr_70, ?_⟩
  refine List.forall_mem_cons.mpr ⟨kr_71, ?_⟩
  refine List.forall_mem_cons.mpr ⟨kr_72, ?_⟩
  refine List.forall_mem_cons.mpr ⟨kr_73, ?_⟩
  refine List.forall_mem_cons.mpr ⟨kr_74, ?_⟩
  refine List.forall_mem_cons.mpr ⟨kr_75, ?_⟩
  refine List.forall_mem_cons.mpr ⟨kr_76, ?_⟩
  refine List.forall_mem_cons.mpr ⟨kr_77, ?_⟩
  refine List.forall_mem_cons.mpr ⟨kr_78, ?_⟩
  refine List.forall_mem_cons.mpr ⟨kr_79, ?_⟩
  refine List.forall_mem_cons.mpr ⟨kr_80, ?_⟩
  refine List.forall_mem_cons.mpr ⟨kr_81, ?_⟩
  refine List.forall_mem_cons.mpr ⟨kr_82, ?_⟩
  refine List.forall_mem_cons.mpr ⟨kr_83, ?_⟩
  refine List.forall_mem_cons.mpr ⟨kr_84, ?_⟩
  refine List.forall_mem_cons.mpr ⟨kr_85, ?_⟩
  refine List.forall_mem_cons.mpr ⟨kr_86, ?_⟩
  refine List.forall_mem_cons.mpr ⟨kr_87, ?_⟩
  refine List.forall_mem_cons.mpr ⟨kr_88, ?_⟩
  refine List.forall_mem_cons.mpr ⟨kr_89, ?_⟩
  refine List.forall_mem_cons.mpr ⟨kr_90, ?_⟩
  refine List.forall_mem_cons.mpr ⟨kr_91, ?_⟩
  refine List.forall_mem_cons.mpr ⟨kr_92, ?_⟩
  refine List.forall_mem_cons.mpr ⟨kr_93, ?_⟩
  refine List.forall_mem_cons.mpr ⟨kr_94, ?_⟩
  refine List.forall_mem_cons.mpr ⟨kr_95, ?_⟩
  refine List.forall_mem_cons.mpr ⟨kr_96, ?_⟩
  refine List.forall_mem_cons.mpr ⟨kr_97, ?_⟩
  refine List.forall_mem_cons.mpr ⟨kr_98, ?_⟩
  refine List.forall_mem_cons.mpr ⟨kr_99, ?_⟩
  refine List.forall_mem_cons.mpr ⟨kr_100, ?_⟩
  refine List.forall_mem_cons.mpr ⟨kr_101, ?_⟩
  refine List.forall_mem_cons.mpr ⟨kr_102, ?_⟩
  refine List.forall_mem_cons.mpr ⟨kr_103, ?_⟩
  refine List.forall_mem_cons.mpr ⟨kr_104, ?_⟩
  refine List.forall_mem_cons.mpr ⟨kr_105, ?_⟩
  refine List.forall_mem_cons.mpr ⟨kr_106, ?_⟩
  refine List.forall_mem_cons.mpr ⟨kr_107, ?_⟩
  refine List.forall_mem_cons.mpr ⟨kr_108, ?_⟩
  refine List.forall_mem_cons.mpr ⟨kr_109, ?_⟩
  refine List.forall_mem_cons.mpr ⟨kr_110, ?_⟩
  refine List.forall_mem_cons.mpr ⟨kr_111, ?_⟩
  refine List.forall_mem_cons.mpr ⟨kr_112, ?_⟩
  refine List.forall_mem_cons.mpr ⟨kr_113, ?_⟩
  refine List.forall_mem_cons.mpr ⟨kr_114, ?_⟩
  refine List.forall_mem_cons.mpr ⟨kr_115, ?_⟩
  refine List.forall_mem_cons.mpr ⟨kr_116, ?_⟩
  refine List.forall_mem_cons.mpr ⟨kr_117, ?_⟩
  refine List.forall_mem_cons.mpr ⟨kr_118, ?_⟩
  refine List.forall_mem_cons.mpr ⟨kr_119, ?_⟩
  refine List.forall_mem_cons.mpr ⟨kr_120, ?_⟩
  refine List.forall_mem_cons.mpr ⟨kr_121, ?_⟩
  refine List.forall_mem_cons.mpr ⟨kr_122, ?_⟩
  refine List.forall_mem_cons.mpr ⟨kr_123, ?_⟩
  refine List.forall_mem_cons.mpr ⟨kr_124, ?_⟩
  refine List.forall_mem_cons.mpr ⟨kr_125, ?_⟩
  refine List.forall_mem_cons.mpr ⟨kr_126, ?_⟩
  refine List.forall_mem_cons.mpr ⟨kr_127, ?_⟩
  refine List.forall_mem_cons.mpr ⟨kr_128, ?_⟩
  refine List.forall_mem_cons.mpr ⟨kr_129, ?_⟩
  refine List.forall_mem_cons.mpr ⟨kr_130, ?_⟩
  refine List.forall_mem_cons.mpr ⟨kr_131, ?_⟩
  refine List.forall_mem_cons.mpr ⟨kr_132, ?_⟩
  refine List.forall_mem_cons.mpr ⟨kr_133, ?_⟩
  refine List.forall_mem_cons.mpr ⟨kr_134, ?_⟩
  refine List.forall_mem_cons.mpr ⟨kr_135, ?_⟩
  refine List.forall_mem_cons.mpr ⟨kr_136, ?_⟩
  refine List.forall_mem_cons.mpr ⟨kr_137, ?_⟩
  refine List.forall_mem_cons.mpr ⟨kr_138, ?_⟩
  refine List.forall_mem_cons.mpr ⟨kr_139, ?_⟩
  refine List.forall_mem_cons.mpr ⟨kr_140, ?_⟩
  refine List.forall_mem_cons.mpr ⟨kr_141, ?_⟩
  refine List.forall_mem_cons.mpr ⟨kr_142, ?_⟩
  refine List.forall_mem_cons.mpr ⟨kr_143, ?_⟩
  refine List.forall_mem_cons.mpr ⟨kr_144, ?_⟩
  refine List.forall_mem_cons.mpr ⟨kr_145, ?_⟩
  refine List.forall_mem_cons.mpr ⟨kr_146, ?_⟩
  refine List.forall_mem_cons.mpr ⟨kr_147, ?_⟩
  refine List.forall_mem_cons.mpr ⟨kr_148, ?_⟩
  refine List.forall_mem_cons.mpr ⟨kr_149, ?_⟩
  refine List.forall_mem_cons.mpr ⟨kr_150, ?_⟩
  refine List.forall_mem_cons.mpr ⟨kr_151, ?_⟩
  refine List.forall_mem_cons.mpr ⟨kr_152, ?_⟩
  refine List.forall_mem_cons.mpr ⟨kr_153, ?_⟩
  refine List.forall_mem_cons.mpr ⟨kr_154, ?_⟩
  refine List.forall_mem_cons.mpr ⟨kr_155, ?_⟩
  refine List.forall_mem_cons.mpr ⟨kr_156, ?_⟩
  refine List.forall_mem_cons.mpr ⟨kr_157, ?_⟩
  refine List.forall_mem_cons.mpr ⟨kr_158, ?_⟩
  refine List.forall_mem_cons.mpr ⟨kr_159, ?_⟩
  refine List.forall_mem_cons.mpr ⟨kr_160, ?_⟩
  refine List.forall_mem_cons.mpr ⟨kr_161, ?_⟩
  refine List.forall_mem_cons.mpr ⟨kr_162, ?_⟩
  refine List.forall_mem_cons.mpr ⟨kr_163, ?_⟩
  refine List.forall_mem_cons.mpr ⟨kr_164, ?_⟩
  refine List.forall_mem_cons.mpr ⟨kr_165, ?_⟩
  refine List.forall_mem_cons.mpr ⟨kr_166, ?_⟩
  refine List.forall_mem_cons.mpr ⟨kr_167, ?_⟩
  refine List.forall_mem_cons.mpr ⟨kr_168, ?_⟩
  refine List.forall_mem_cons.mpr ⟨kr_169, ?_⟩
  refine List.forall_mem_cons.mpr ⟨kr_170, ?_⟩
  refine List.forall_mem_cons.mpr ⟨kr_171, ?_⟩
  refine List.forall_mem_cons.mpr ⟨kr_172, ?_⟩
  refine List.forall_mem_cons.mpr ⟨kr_173, ?_⟩
  refine List.forall_mem_cons.mpr ⟨kr_174, ?_⟩
  refine List.forall_mem_cons.mpr ⟨kr_175, ?_⟩
  refine List.forall_mem_cons.mpr ⟨kr_176, ?_⟩
  refine List.forall_mem_cons.mpr ⟨kr_177, ?_⟩
  refine List.forall_mem_cons.mpr ⟨kr_178, ?_⟩
  refine List.forall_mem_cons.mpr ⟨kr_179, ?_⟩
  refine List.forall_mem_cons.mpr ⟨kr_180, ?_⟩
  refine List.forall_mem_cons.mpr ⟨kr_181, ?_⟩
  refine List.forall_mem_cons.mpr ⟨kr_182, ?_⟩
  refine List.forall_mem_cons.mpr ⟨kr_183, ?_⟩
  refine List.forall_mem_cons.mpr ⟨kr_184, ?_⟩
  refine List.forall_mem_cons.mpr ⟨kr_185, ?_⟩
  refine List.forall_mem_cons.mpr ⟨kr_186, ?_⟩
  refine List.forall_mem_cons.mpr ⟨kr_187, ?_⟩
  refine List.forall_mem_cons.mpr ⟨kr_188, ?_⟩
  refine List.forall_mem_cons.mpr ⟨kr_189, ?_⟩
  refine List.forall_mem_cons.mpr ⟨kr_190, ?_⟩
  refine List.forall_mem_cons.mpr ⟨kr_191, ?_⟩
  refine List.forall_mem_cons.mpr ⟨kr_192, ?_⟩
  refine List.forall_mem_cons.mpr ⟨kr_193, ?_⟩
  refine List.forall_mem_cons.mpr ⟨kr_194, ?_⟩
  refine List.forall_mem_cons.mpr ⟨kr_195, ?_⟩
  refine List.forall_mem_cons.mpr ⟨kr_196, ?_⟩
  refine List.forall_mem_cons.mpr ⟨kr_197, ?_⟩
  refine List.forall_mem_cons.mpr ⟨kr_198, ?_⟩
  refine List.forall_mem_cons.mpr ⟨kr_199, ?_⟩
  refine List.forall_mem_cons.mpr ⟨kr_200, ?_⟩
  refine List.forall_mem_cons.mpr ⟨kr_201, ?_⟩
  refine List.forall_mem_cons.mpr ⟨kr_202, ?_⟩
  refine List.forall_mem_cons.mpr ⟨kr_203, ?_⟩
  refine List.forall_mem_cons.mpr ⟨kr_204, ?_⟩
  refine List.forall_mem_cons.mpr ⟨kr_205, ?_⟩
  refine List.forall_mem_cons.mpr ⟨kr_206, ?_⟩
  refine List.forall_mem_cons.mpr ⟨kr_207, ?_⟩
  refine List.forall_mem_cons.mpr ⟨kr_208, ?_⟩
  refine List.forall_mem_cons.mpr ⟨kr_209, ?_⟩
  refine List.forall_mem_cons.mpr ⟨kr_210, ?_⟩
  refine List.forall_mem_cons.mpr ⟨kr_211, ?_⟩
  refine List.forall_mem_cons.mpr ⟨kr_212, ?_⟩
  refine List.forall_mem_cons.mpr ⟨kr_213, ?_⟩
  refine List.forall_mem_cons.mpr ⟨kr_214, ?_⟩
  refine List.forall_mem_cons.mpr ⟨kr_215, ?_⟩
  refine List.forall_mem_cons.mpr ⟨kr_216, ?_⟩
  refine List.forall_mem_cons.mpr ⟨kr_217, ?_⟩
  refine List.forall_mem_cons.mpr ⟨kr_218, ?_⟩
  refine List.forall_mem_cons.mpr ⟨kr_219, ?_⟩
  refine List.forall_mem_cons.mpr ⟨kr_220, ?_⟩
  refine List.forall_mem_cons.mpr ⟨kr_221, ?_⟩
  refine List.forall_mem_cons.mpr ⟨kr_222, ?_⟩
  refine List.forall_mem_cons.mpr ⟨kr_223, ?_⟩
  refine List.forall_mem_cons.mpr ⟨kr_224, ?_⟩
  refine List.forall_mem_cons.mpr ⟨kr_225, ?_⟩
  refine List.forall_mem_cons.mpr ⟨kr_226, ?_⟩
  refine List.forall_mem_cons.mpr ⟨kr_227, ?_⟩
  refine List.forall_mem_cons.mpr ⟨kr_228, ?_⟩
  refine List.forall_mem_cons.mpr ⟨kr_229, ?_⟩
  refine List.forall_mem_cons.mpr ⟨kr_230, ?_⟩
  refine List.forall_mem_cons.mpr ⟨kr_231, ?_⟩
  refine List.forall_mem_cons.mpr ⟨kr_232, ?_⟩
  refine List.forall_mem_cons.mpr ⟨kr_233, ?_⟩
  refine List.forall_mem_cons.mpr ⟨kr_234, ?_⟩
  refine List.forall_mem_cons.mpr ⟨kr_235, ?_⟩
  refine List.forall_mem_cons.mpr ⟨kr_236, ?_⟩
  refine List.forall_mem_cons.mpr ⟨kr_237, ?_⟩
  refine List.forall_mem_cons.mpr ⟨kr_238, ?_⟩
  refine List.forall_mem_cons.mpr ⟨kr_239, ?_⟩
  refine List.forall_mem_cons.mpr ⟨kr_240, ?_⟩
  refine List.forall_mem_cons.mpr ⟨kr_241, ?_⟩
  refine List.forall_mem_cons.mpr ⟨kr_242, ?_⟩
  refine List.forall_mem_cons.mpr ⟨kr_243, ?_⟩
  refine List.forall_mem_cons.mpr ⟨kr_244, ?_⟩
  refine List.forall_mem_cons.mpr ⟨kr_245, ?_⟩
  refine List.forall_mem_cons.mpr ⟨kr_246, ?_⟩
  refine List.forall_mem_cons.mpr ⟨kr_247, ?_⟩
  refine List.forall_mem_cons.mpr ⟨kr_248, ?_⟩
  refine List.forall_mem_cons.mpr ⟨kr_249, ?_⟩
  refine List.forall_mem_cons.mpr ⟨kr_250, ?_⟩
  refine List.forall_mem_cons.mpr ⟨kr_251, ?_⟩
  refine List.forall_mem_cons.mpr ⟨kr_252, ?_⟩
  refine List.forall_mem_cons.mpr ⟨kr_253, ?_⟩
  refine List.forall_mem_cons.mpr ⟨kr_254, ?_⟩
  refine List.forall_mem_cons.mpr ⟨kr_255, ?_⟩
  refine List.forall_mem_cons.mpr ⟨kr_256, ?_⟩
  refine List.forall_mem_cons.mpr ⟨kr_257, ?_⟩
  refine List.forall_mem_cons.mpr ⟨kr_258, ?_⟩
  refine List.forall_mem_cons.mpr ⟨kr_259, ?_⟩
  refine List.forall_mem_cons.mpr ⟨kr_260, ?_⟩
  refine List.forall_mem_cons.mpr ⟨kr_261, ?_⟩
  refine List.forall_mem_cons.mpr ⟨kr_262, ?_⟩
  refine List.forall_mem_cons.mpr ⟨kr_263, ?_⟩
  refine List.forall_mem_cons.mpr ⟨kr_264, ?_⟩
  refine List.forall_mem_cons.mpr ⟨kr_265, ?_⟩
  refine List.forall_mem_cons.mpr ⟨kr_266, ?_⟩
  refine List.forall_mem_cons.mpr ⟨kr_267, ?_⟩
  refine List.forall_mem_cons.mpr ⟨kr_268, ?_⟩
  refine List.forall_mem_cons.mpr ⟨kr_269, ?_⟩
  refine List.forall_mem_cons.mpr ⟨kr_270, ?_⟩
  refine List.forall_mem_cons.mpr ⟨kr_271, ?_⟩
  refine List.forall_mem_cons.mpr ⟨kr_272, ?_⟩
  refine List.forall_mem_cons.mpr ⟨kr_273, ?_⟩
  refine List.forall_mem_cons.mpr ⟨kr_274, ?_⟩
  refine List.forall_mem_cons.mpr ⟨kr_275, ?_⟩
  refine List.forall_mem_cons.mpr ⟨kr_276, ?_⟩
  refine List.forall_mem_cons.mpr ⟨kr_277, ?_⟩
  refine List.forall_mem_cons.mpr ⟨kr_278, ?_⟩
  refine List.forall_mem_cons.mpr ⟨kr_279, ?_⟩
  refine List.forall_mem_cons.mpr ⟨kr_280, ?_⟩
  refine List.forall_mem_cons.mpr ⟨kr_281, ?_⟩
  refine List.forall_mem_cons.mpr ⟨kr_282, ?_⟩
  refine List.forall_mem_cons.mpr ⟨kr_283, ?_⟩
  refine List.forall_mem_cons.mpr ⟨kr_284, ?_⟩
  refine List.forall_mem_cons.mpr ⟨kr_285, ?_⟩
  refine List.forall_mem_cons.mpr ⟨kr_286, ?_⟩
  refine List.forall_mem_cons.mpr ⟨kr_287, ?_⟩
  refine List.forall_mem_cons.mpr ⟨kr_288, ?_⟩
  refine List.forall_mem_cons.mpr ⟨kr_289, ?_⟩
  refine List.forall_mem_cons.mpr ⟨kr_290, ?_⟩
  refine List.forall_mem_cons.mpr ⟨kr_291, ?_⟩
  refine List.forall_mem_cons.mpr ⟨kr_292, ?_⟩
  refine List.forall_mem_cons.mpr ⟨kr_293, ?_⟩
  refine List.forall_mem_cons.mpr ⟨kr_294, ?_⟩
  refine List.forall_mem_cons.mpr ⟨kr_295, ?_⟩
  refine List.forall_mem_cons.mpr ⟨kr_296, ?_⟩
  refine List.forall_mem_cons.mpr ⟨kr_297, ?_⟩
  refine List.forall_mem_cons.mpr ⟨kr_298, ?_⟩
  refine List.forall_mem_cons.mpr ⟨kr_299, ?_⟩
  refine List.forall_mem_cons.mpr ⟨kr_300, ?_⟩
  refine List.forall_mem_cons.mpr ⟨kr_301, ?_⟩
  refine List.forall_mem_cons.mpr ⟨kr_302, ?_⟩
  refine List.forall_mem_cons.mpr ⟨kr_303, ?_⟩
  refine List.forall_mem_cons.mpr ⟨kr_304, ?_⟩
  refine List.forall_mem_cons.mpr ⟨kr_305, ?_⟩
  refine List.forall_mem_cons.mpr ⟨kr_306, ?_⟩
  refine List.forall_mem_cons.mpr ⟨kr_307, ?_⟩
  refine List.forall_mem_cons.mpr ⟨kr_308, ?_⟩
  refine List.forall_mem_cons.mpr ⟨kr_309, ?_⟩
  refine List.forall_mem_cons.mpr ⟨kr_310, ?_⟩
  refine List.forall_mem_cons.mpr ⟨kr_311, ?_⟩
  refine List.forall_mem_cons.mpr ⟨kr_312, ?_⟩
  refine List.forall_mem_cons.mpr ⟨kr_313, ?_⟩
  refine List.forall_mem_cons.mpr ⟨kr_314, ?_⟩
  refine List.forall_mem_cons.mpr ⟨kr_315, ?_⟩
  exact fun _ h => absurd h List.not_mem_nil
def k_fok (r : Nat × Nat × Nat × Nat) : Prop := ∃ C T N, k_cl[r.2.2.1]? = some (C, T, N) ∧ r.2.2.2 < N ∧ Jvm.Cond.fieldLink (k_cn r.1) r.2.1 (T r.2.2.2).1 (T r.2.2.2).2.1 (T r.2.2.2).2.2.1 ∈ pm_tbl
theorem kf_0 : k_fok (7, 9, 7, 0) := ⟨_, _, _, rfl, by decide, kw_37⟩
theorem kf_1 : k_fok (7, 15, 7, 1) := ⟨_, _, _, rfl, by decide, kw_38⟩
theorem kf_2 : k_fok (11, 121, 7, 1) := ⟨_, _, _, rfl, by decide, kw_39⟩
theorem kf_3 : k_fok (7, 19, 7, 2) := ⟨_, _, _, rfl, by decide, kw_40⟩
theorem kf_4 : k_fok (7, 22, 7, 3) := ⟨_, _, _, rfl, by decide, kw_41⟩
theorem kf_5 : k_fok (7, 25, 7, 4) := ⟨_, _, _, rfl, by decide, kw_42⟩
theorem kf_6 : k_fok (7, 28, 7, 5) := ⟨_, _, _, rfl, by decide, kw_43⟩
theorem kf_7 : k_fok (7, 31, 7, 6) := ⟨_, _, _, rfl, by decide, kw_44⟩
theorem kf_8 : k_fok (9, 9, 9, 0) := ⟨_, _, _, rfl, by decide, kw_68⟩
theorem kf_9 : k_fok (11, 242, 9, 0) := ⟨_, _, _, rfl, by decide, kw_69⟩
theorem kf_10 : k_fok (9, 15, 9, 1) := ⟨_, _, _, rfl, by decide, kw_70⟩
theorem kf_11 : k_fok (11, 245, 9, 1) := ⟨_, _, _, rfl, by decide, kw_71⟩
theorem kf_12 : k_fok (3, 16, 3, 0) := ⟨_, _, _, rfl, by decide, kw_142⟩
theorem kf_13 : k_fok (2, 44, 3, 0) := ⟨_, _, _, rfl, by decide, kw_143⟩
theorem kf_14 : k_fok (11, 183, 3, 0) := ⟨_, _, _, rfl, by decide, kw_144⟩
theorem kf_15 : k_fok (3, 19, 3, 1) := ⟨_, _, _, rfl, by decide, kw_145⟩
theorem kf_16 : k_fok (2, 47, 3, 1) := ⟨_, _, _, rfl, by decide, kw_146⟩
theorem kf_17 : k_fok (11, 186, 3, 1) := ⟨_, _, _, rfl, by decide, kw_147⟩
theorem kf_18 : k_fok (3, 22, 3, 2) := ⟨_, _, _, rfl, by decide, kw_148⟩
theorem kf_19 : k_fok (2, 50, 3, 2) := ⟨_, _, _, rfl, by decide, kw_149⟩
theorem kf_20 : k_fok (11, 189, 3, 2) := ⟨_, _, _, rfl, by decide, kw_150⟩
theorem kf_21 : k_fok (3, 25, 3, 3) := ⟨_, _, _, rfl, by decide, kw_151⟩
theorem kf_22 : k_fok (2, 53, 3, 3) := ⟨_, _, _, rfl, by decide, kw_152⟩
theorem kf_23 : k_fok (11, 192, 3, 3) := ⟨_, _, _, rfl, by decide, kw_153⟩
theorem kf_24 : k_fok (3, 28, 3, 4) := ⟨_, _, _, rfl, by decide, kw_154⟩
theorem kf_25 : k_fok (2, 56, 3, 4) := ⟨_, _, _, rfl, by decide, kw_155⟩
theorem kf_26 : k_fok (11, 195, 3, 4) := ⟨_, _, _, rfl, by decide, kw_156⟩
theorem kf_27 : k_fok (3, 31, 3, 5) := ⟨_, _, _, rfl, by decide, kw_157⟩
theorem kf_28 : k_fok (2, 59, 3, 5) := ⟨_, _, _, rfl, by decide, kw_158⟩
theorem kf_29 : k_fok (7, 96, 3, 5) := ⟨_, _, _, rfl, by decide, kw_159⟩
theorem kf_30 : k_fok (11, 165, 3, 5) := ⟨_, _, _, rfl, by decide, kw_160⟩
theorem kf_31 : k_fok (3, 7, 3, 6) := ⟨_, _, _, rfl, by decide, kw_161⟩
theorem kf_32 : k_fok (2, 62, 3, 6) := ⟨_, _, _, rfl, by decide, kw_162⟩
theorem kf_33 : k_fok (11, 198, 3, 6) := ⟨_, _, _, rfl, by decide, kw_163⟩
theorem kf_34 : k_fok (3, 13, 3, 7) := ⟨_, _, _, rfl, by decide, kw_164⟩
theorem kf_35 : k_fok (2, 71, 3, 7) := ⟨_, _, _, rfl, by decide, kw_165⟩
theorem kf_36 : k_fok (11, 210, 3, 7) := ⟨_, _, _, rfl, by decide, kw_166⟩
theorem kf_37 : k_fok (2, 31, 2, 0) := ⟨_, _, _, rfl, by decide, kw_184⟩
theorem kf_38 : k_fok (11, 348, 2, 0) := ⟨_, _, _, rfl, by decide, kw_185⟩
theorem kf_39 : k_fok (2, 11, 2, 1) := ⟨_, _, _, rfl, by decide, kw_186⟩
theorem kf_40 : k_fok (7, 92, 2, 1) := ⟨_, _, _, rfl, by decide, kw_187⟩
theorem kf_41 : k_fok (11, 161, 2, 1) := ⟨_, _, _, rfl, by decide, kw_188⟩
theorem kf_42 : k_fok (2, 17, 2, 2) := ⟨_, _, _, rfl, by decide, kw_189⟩
theorem kf_43 : k_fok (11, 217, 2, 2) := ⟨_, _, _, rfl, by decide, kw_190⟩
theorem kf_44 : k_fok (2, 21, 2, 3) := ⟨_, _, _, rfl, by decide, kw_191⟩
theorem kf_45 : k_fok (11, 131, 2, 3) := ⟨_, _, _, rfl, by decide, kw_192⟩
theorem kf_46 : k_fok (2, 25, 2, 4) := ⟨_, _, _, rfl, by decide, kw_193⟩
theorem kf_47 : k_fok (11, 142, 2, 4) := ⟨_, _, _, rfl, by decide, kw_194⟩
theorem kf_48 : k_fok (2, 28, 2, 5) := ⟨_, _, _, rfl, by decide, kw_195⟩
theorem kf_49 : k_fok (11, 100, 2, 5) := ⟨_, _, _, rfl, by decide, kw_196⟩
theorem kf_50 : k_fok (7, 82, 2, 5) := ⟨_, _, _, rfl, by decide, kw_197⟩
theorem kf_51 : k_fok (4, 38, 4, 0) := ⟨_, _, _, rfl, by decide, kw_211⟩
theorem kf_52 : k_fok (11, 97, 4, 0) := ⟨_, _, _, rfl, by decide, kw_212⟩
theorem kf_53 : k_fok (4, 11, 4, 1) := ⟨_, _, _, rfl, by decide, kw_213⟩
theorem kf_54 : k_fok (4, 19, 4, 2) := ⟨_, _, _, rfl, by decide, kw_214⟩
theorem kf_55 : k_fok (11, 265, 4, 2) := ⟨_, _, _, rfl, by decide, kw_215⟩
theorem kf_56 : k_fok (4, 22, 4, 3) := ⟨_, _, _, rfl, by decide, kw_216⟩
theorem kf_57 : k_fok (11, 269, 4, 3) := ⟨_, _, _, rfl, by decide, kw_217⟩
theorem kf_58 : k_fok (4, 25, 4, 4) := ⟨_, _, _, rfl, by decide, kw_218⟩
theorem kf_59 : k_fok (11, 114, 4, 4) := ⟨_, _, _, rfl, by decide, kw_219⟩
theorem kf_60 : k_fok (4, 29, 4, 5) := ⟨_, _, _, rfl, by decide, kw_220⟩
theorem kf_61 : k_fok (11, 170, 4, 5) := ⟨_, _, _, rfl, by decide, kw_221⟩
theorem kf_62 : k_fok (4, 32, 4, 6) := ⟨_, _, _, rfl, by decide, kw_222⟩
theorem kf_63 : k_fok (11, 173, 4, 6) := ⟨_, _, _, rfl, by decide, kw_223⟩
theorem kf_64 : k_fok (11, 78, 11, 0) := ⟨_, _, _, rfl, by decide, kw_241⟩
theorem kf_65 : k_fok (11, 11, 11, 1) := ⟨_, _, _, rfl, by decide, kw_242⟩
theorem kf_66 : k_fok (11, 15, 11, 2) := ⟨_, _, _, rfl, by decide, kw_243⟩
theorem kf_67 : k_fok (11, 22, 11, 3) := ⟨_, _, _, rfl, by decide, kw_244⟩
theorem kf_68 : k_fok (11, 85, 11, 4) := ⟨_, _, _, rfl, by decide, kw_245⟩
theorem kf_69 : k_fok (11, 29, 11, 5) := ⟨_, _, _, rfl, by decide, kw_246⟩
theorem kf_70 : k_fok (11, 33, 11, 6) := ⟨_, _, _, rfl, by decide, kw_247⟩
theorem kf_71 : k_fok (11, 37, 11, 7) := ⟨_, _, _, rfl, by decide, kw_248⟩
theorem kf_72 : k_fok (11, 40, 11, 8) := ⟨_, _, _, rfl, by decide, kw_249⟩
theorem kf_73 : k_fok (11, 44, 11, 9) := ⟨_, _, _, rfl, by decide, kw_250⟩
theorem kf_74 : k_fok (11, 47, 11, 10) := ⟨_, _, _, rfl, by decide, kw_251⟩
theorem kf_75 : k_fok (11, 51, 11, 11) := ⟨_, _, _, rfl, by decide, kw_252⟩
theorem kf_76 : k_fok (11, 54, 11, 12) := ⟨_, _, _, rfl, by decide, kw_253⟩
theorem kf_77 : k_fok (12, 1, 12, 0) := ⟨_, _, _, rfl, by decide, kw_863⟩
theorem kf_78 : k_fok (12, 96, 12, 1) := ⟨_, _, _, rfl, by decide, kw_864⟩
theorem kf_79 : k_fok (12, 100, 12, 2) := ⟨_, _, _, rfl, by decide, kw_865⟩
theorem kf_80 : k_fok (12, 103, 12, 3) := ⟨_, _, _, rfl, by decide, kw_866⟩
theorem kf_81 : k_fok (12, 106, 12, 4) := ⟨_, _, _, rfl, by decide, kw_867⟩
theorem kf_82 : k_fok (12, 109, 12, 5) := ⟨_, _, _, rfl, by decide, kw_868⟩
theorem kf_83 : k_fok (12, 13, 12, 6) := ⟨_, _, _, rfl, by decide, kw_869⟩
theorem kf_84 : k_fok (12, 16, 12, 7) := ⟨_, _, _, rfl, by decide, kw_870⟩
theorem kf_85 : k_fok (12, 19, 12, 8) := ⟨_, _, _, rfl, by decide, kw_871⟩
theorem kf_86 : k_fok (12, 22, 12, 9) := ⟨_, _, _, rfl, by decide, kw_872⟩
theorem kf_87 : k_fok (12, 25, 12, 10) := ⟨_, _, _, rfl, by decide, kw_873⟩
theorem kf_88 : k_fok (12, 28, 12, 11) := ⟨_, _, _, rfl, by decide, kw_874⟩
theorem kf_89 : k_fok (12, 31, 12, 12) := ⟨_, _, _, rfl, by decide, kw_875⟩
theorem kf_90 : k_fok (12, 34, 12, 13) := ⟨_, _, _, rfl, by decide, kw_876⟩
theorem kf_91 : k_fok (12, 37, 12, 14) := ⟨_, _, _, rfl, by decide, kw_877⟩
theorem kf_92 : k_fok (12, 40, 12, 15) := ⟨_, _, _, rfl, by decide, kw_878⟩
theorem kf_93 : k_fok (12, 43, 12, 16) := ⟨_, _, _, rfl, by decide, kw_879⟩
theorem kf_94 : k_fok (12, 130, 12, 17) := ⟨_, _, _, rfl, by decide, kw_880⟩
theorem kf_95 : k_fok (12, 133, 12, 18) := ⟨_, _, _, rfl, by decide, kw_881⟩
theorem kf_96 : k_fok (12, 156, 12, 19) := ⟨_, _, _, rfl, by decide, kw_882⟩
theorem kf_97 : k_fok (12, 46, 12, 20) := ⟨_, _, _, rfl, by decide, kw_883⟩
theorem kf_98 : k_fok (12, 49, 12, 21) := ⟨_, _, _, rfl, by decide, kw_884⟩
theorem kf_99 : k_fok (12, 205, 12, 22) := ⟨_, _, _, rfl, by decide, kw_885⟩
theorem kf_100 : k_fok (12, 52, 12, 23) := ⟨_, _, _, rfl, by decide, kw_886⟩
theorem kf_101 : k_fok (12, 55, 12, 24) := ⟨_, _, _, rfl, by decide, kw_887⟩
theorem kf_102 : k_fok (12, 112, 12, 25) := ⟨_, _, _, rfl, by decide, kw_888⟩
theorem kf_103 : k_fok (12, 58, 12, 26) := ⟨_, _, _, rfl, by decide, kw_889⟩
theorem kf_104 : k_fok (12, 61, 12, 27) := ⟨_, _, _, rfl, by decide, kw_890⟩
theorem kf_105 : k_fok (12, 64, 12, 28) := ⟨_, _, _, rfl, by decide, kw_891⟩
theorem kf_106 : k_fok (12, 67, 12, 29) := ⟨_, _, _, rfl, by decide, kw_892⟩
theorem kf_107 : k_fok (12, 70, 12, 30) := ⟨_, _, _, rfl, by decide, kw_893⟩
theorem kf_108 : k_fok (12, 258, 12, 31) := ⟨_, _, _, rfl, by decide, kw_894⟩
theorem kf_109 : k_fok (12, 73, 12, 32) := ⟨_, _, _, rfl, by decide, kw_895⟩
theorem kf_110 : k_fok (12, 76, 12, 33) := ⟨_, _, _, rfl, by decide, kw_896⟩
theorem kf_111 : k_fok (12, 79, 12, 34) := ⟨_, _, _, rfl, by decide, kw_897⟩
theorem kf_112 : k_fok (12, 309, 12, 35) := ⟨_, _, _, rfl, by decide, kw_898⟩
theorem kf_113 : k_fok (12, 82, 12, 36) := ⟨_, _, _, rfl, by decide, kw_899⟩
theorem kf_114 : k_fok (12, 86, 12, 37) := ⟨_, _, _, rfl, by decide, kw_900⟩
theorem kf_115 : k_fok (12, 89, 12, 38) := ⟨_, _, _, rfl, by decide, kw_901⟩
theorem kf_116 : k_fok (12, 340, 12, 39) := ⟨_, _, _, rfl, by decide, kw_902⟩
theorem k_fd_ok : ∀ r ∈ k_fd, k_fok r := by
  unfold k_fd
  refine List.forall_mem_cons.mpr ⟨kf_0, ?_⟩
  refine List.forall_mem_cons.mpr ⟨kf_1, ?_⟩
  refine List.forall_mem_cons.mpr ⟨kf_2, ?_⟩
  refine List.forall_mem_cons.mpr ⟨kf_3, ?_⟩
  refine List.forall_mem_cons.mpr ⟨kf_4, ?_⟩
  refine List.forall_mem_cons.mpr ⟨kf_5, ?_⟩
  refine List.forall_mem_cons.mpr ⟨kf_6, ?_⟩
  refine List.forall_mem_cons.mpr ⟨kf_7, ?_⟩
  refine List.forall_mem_cons.mpr ⟨kf_8, ?_⟩
  refine List.forall_mem_cons.mpr ⟨kf_9, ?_⟩
  refine List.forall_mem_cons.mpr ⟨kf_10, ?_⟩
  refine List.forall_mem_cons.mpr ⟨kf_11, ?_⟩
  refine List.forall_mem_cons.mpr ⟨kf_12, ?_⟩
  refine List.forall_mem_cons.mpr ⟨kf_13, ?_⟩
  refine List.forall_mem_cons.mpr ⟨kf_14, ?_⟩
  refine List.forall_mem_cons.mpr ⟨kf_15, ?_⟩
  refine List.forall_mem_cons.mpr ⟨kf_16, ?_⟩
  refine List.forall_mem_cons.mpr ⟨kf_17, ?_⟩
  refine List.forall_mem_cons.mpr ⟨kf_18, ?_⟩
  refine List.forall_mem_cons.mpr ⟨kf_19, ?_⟩
  refine List.forall_mem_cons.mpr ⟨kf_20, ?_⟩
  refine List.forall_mem_cons.mpr ⟨kf_21, ?_⟩
  refine List.forall_mem_cons.mpr ⟨kf_22, ?_⟩
  refine List.forall_mem_cons.mpr ⟨kf_23, ?_⟩
  refine List.forall_mem_cons.mpr ⟨kf_24, ?_⟩
  refine List.forall_mem_cons.mpr ⟨kf_25, ?_⟩
  refine List.forall_mem_cons.mpr ⟨kf_26, ?_⟩
  refine List.forall_mem_cons.mpr ⟨kf_27, ?_⟩
  refine List.forall_mem_cons.mpr ⟨kf_28, ?_⟩
  refine List.forall_mem_cons.mpr ⟨kf_29, ?_⟩
  refine List.forall_mem_cons.mpr ⟨kf_30, ?_⟩
  refine List.forall_mem_cons.mpr ⟨kf_31, ?_⟩
  refine List.forall_mem_cons.mpr ⟨kf_32, ?_⟩
  refine List.forall_mem_cons.mpr ⟨kf_33, ?_⟩
  refine List.forall_mem_cons.mpr ⟨kf_34, ?_⟩
  refine List.forall_mem_cons.mpr ⟨kf_35, ?_⟩
  refine List.forall_mem_cons.mpr ⟨kf_36, ?_⟩
  refine List.forall_mem_cons.mpr ⟨kf_37, ?_⟩
  refine List.forall_mem_cons.mpr ⟨kf_38, ?_⟩
  refine List.forall_mem_cons.mpr ⟨kf_39, ?_⟩
  refine List.forall_mem_cons.mpr ⟨kf_40, ?_⟩
  refine List.forall_mem_cons.mpr ⟨kf_41, ?_⟩
  refine List.forall_mem_cons.mpr ⟨kf_42, ?_⟩
  refine List.forall_mem_cons.mpr ⟨kf_43, ?_⟩
  refine List.forall_mem_cons.mpr ⟨kf_44, ?_⟩
  refine List.forall_mem_cons.mpr ⟨kf_45, ?_⟩
  refine List.forall_mem_cons.mpr ⟨kf_46, ?_⟩
  refine List.forall_mem_cons.mpr ⟨kf_47, ?_⟩
  refine List.forall_mem_cons.mpr ⟨kf_48, ?_⟩
  refine List.forall_mem_cons.mpr ⟨kf_49, ?_⟩
  refine List.forall_mem_cons.mpr ⟨kf_50, ?_⟩
  refine List.forall_mem_cons.mpr ⟨kf_51, ?_⟩
  refine List.forall_mem_cons.mpr ⟨kf_52, ?_⟩
  refine List.forall_mem_cons.mpr ⟨kf_53, ?_⟩
  refine List.forall_mem_cons.mpr ⟨kf_54, ?_⟩
  refine List.forall_mem_cons.mpr ⟨kf_55, ?_⟩
  refine List.forall_mem_cons.mpr ⟨kf_56, ?_⟩
  refine List.forall_mem_cons.mpr ⟨kf_57, ?_⟩
  refine List.forall_mem_cons.mpr ⟨kf_58, ?_⟩
  refine List.forall_mem_cons.mpr ⟨kf_59, ?_⟩
  refine List.forall_mem_cons.mpr ⟨kf_60, ?_⟩
  refine List.forall_mem_cons.mpr ⟨kf_61, ?_⟩
  refine List.forall_mem_cons.mpr ⟨kf_62, ?_⟩
  refine List.forall_mem_cons.mpr ⟨kf_63, ?_⟩
  refine List.forall_mem_cons.mpr ⟨kf_64, ?_⟩
  refine List.forall_mem_cons.mpr ⟨kf_65, ?_⟩
  refine List.forall_mem_cons.mpr ⟨kf_66, ?_⟩
  refine List.forall_mem_cons.mpr ⟨kf_67, ?_⟩
  refine List.forall_mem_cons.mpr ⟨kf_68, ?_⟩
  refine List.forall_mem_cons.mpr ⟨kf_69, ?_⟩
  refine List.forall_mem_cons.mpr ⟨kf_70, ?_⟩
  refine List.forall_mem_cons.mpr ⟨kf_71, ?_⟩
  refine List.forall_mem_cons.mpr ⟨kf_72, ?_⟩
  refine List.forall_mem_cons.mpr ⟨kf_73, ?_⟩
  refine List.forall_mem_cons.mpr ⟨kf_74, ?_⟩
  refine List.forall_mem_cons.mpr ⟨kf_75, ?_⟩
  refine List.forall_mem_cons.mpr ⟨kf_76, ?_⟩
  refine List.forall_mem_cons.mpr ⟨kf_77, ?_⟩
  refine List.forall_mem_cons.mpr ⟨kf_78, ?_⟩
  refine List.forall_mem_cons.mpr ⟨kf_79, ?_⟩
  refine List.forall_mem_cons.mpr ⟨kf_80, ?_⟩
  refine List.forall_mem_cons.mpr ⟨kf_81, ?_⟩
  refine List.forall_mem_cons.mpr ⟨kf_82, ?_⟩
  refine List.forall_mem_cons.mpr ⟨kf_83, ?_⟩
  refine List.forall_mem_cons.mpr ⟨kf_84, ?_⟩
  refine List.forall_mem_cons.mpr ⟨kf_85, ?_⟩
  refine List.forall_mem_cons.mpr ⟨kf_86, ?_⟩
  refine List.forall_mem_cons.mpr ⟨kf_87, ?_⟩
  refine List.forall_mem_cons.mpr ⟨kf_88, ?_⟩
  refine List.forall_mem_cons.mpr ⟨kf_89, ?_⟩
  refine List.forall_mem_cons.mpr ⟨kf_90, ?_⟩
  refine List.forall_mem_cons.mpr ⟨kf_91, ?_⟩
  refine List.forall_mem_cons.mpr ⟨kf_92, ?_⟩
  refine List.forall_mem_cons.mpr ⟨kf_93, ?_⟩
  refine List.forall_mem_cons.mpr ⟨kf_94, ?_⟩
  refine List.forall_mem_cons.mpr ⟨kf_95, ?_⟩
  refine List.forall_mem_cons.mpr ⟨kf_96, ?_⟩
  refine List.forall_mem_cons.mpr ⟨kf_97, ?_⟩
  refine List.forall_mem_cons.mpr ⟨kf_98, ?_⟩
  refine List.forall_mem_cons.mpr ⟨kf_99, ?_⟩
  refine List.forall_mem_cons.mpr ⟨kf_100, ?_⟩
  refine List.forall_mem_cons.mpr ⟨kf_101, ?_⟩
  refine List.forall_mem_cons.mpr ⟨kf_102, ?_⟩
  refine List.forall_mem_cons.mpr ⟨kf_103, ?_⟩
  refine List.forall_mem_cons.mpr ⟨kf_104, ?_⟩
  refine List.forall_mem_cons.mpr ⟨kf_105, ?_⟩
  refine List.forall_mem_cons.mpr ⟨kf_106, ?_⟩
  refine List.forall_mem_cons.mpr ⟨kf_107, ?_⟩
  refine List.forall_mem_cons.mpr ⟨kf_108, ?_⟩
  refine List.forall_mem_cons.mpr ⟨kf_109, ?_⟩
  refine List.forall_mem_cons.mpr ⟨kf_110, ?_⟩
  refine List.forall_mem_cons.mpr ⟨kf_111, ?_⟩
  refine List.forall_mem_cons.mpr ⟨kf_112, ?_⟩
  refine List.forall_mem_cons.mpr ⟨kf_113, ?_⟩
  refine List.forall_mem_cons.mpr ⟨kf_114, ?_⟩
  refine List.forall_mem_cons.mpr ⟨kf_115, ?_⟩
  refine List.forall_mem_cons.mpr ⟨kf_116, ?_⟩
  exact fun _ h => absurd h List.not_mem_nil
theorem k_ci_ok : ∀ r ∈ k_ci, Jvm.Cond.constant (k_cn r.1) r.2.1 r.2.2 ∈ pm_tbl := by
  unfold k_ci
  refine List.forall_mem_cons.mpr ⟨kw_563, ?_⟩
  refine List.forall_mem_cons.mpr ⟨kw_564, ?_⟩
  refine List.forall_mem_cons.mpr ⟨kw_565, ?_⟩
  refine List.forall_mem_cons.mpr ⟨kw_794, ?_⟩
  refine List.forall_mem_cons.mpr ⟨kw_1214, ?_⟩
  refine List.forall_mem_cons.mpr ⟨kw_1315, ?_⟩
  exact fun _ h => absurd h List.not_mem_nil
theorem k_c2_ok : ∀ r ∈ k_c2, Jvm.Cond.constantLong (k_cn r.1) r.2.1 r.2.2 ∈ pm_tbl := by
  unfold k_c2
  refine List.forall_mem_cons.mpr ⟨kw_795, ?_⟩
  refine List.forall_mem_cons.mpr ⟨kw_796, ?_⟩
  refine List.forall_mem_cons.mpr ⟨kw_797, ?_⟩
  refine List.forall_mem_cons.mpr ⟨kw_798, ?_⟩
  refine List.forall_mem_cons.mpr ⟨kw_799, ?_⟩
  refine List.forall_mem_cons.mpr ⟨kw_835, ?_⟩
  refine List.forall_mem_cons.mpr ⟨kw_840, ?_⟩
  refine List.forall_mem_cons.mpr ⟨kw_1306, ?_⟩
  refine List.forall_mem_cons.mpr ⟨kw_1316, ?_⟩
  refine List.forall_mem_cons.mpr ⟨kw_1317, ?_⟩
  refine List.forall_mem_cons.mpr ⟨kw_1318, ?_⟩
  refine List.forall_mem_cons.mpr ⟨kw_1319, ?_⟩
  refine List.forall_mem_cons.mpr ⟨kw_1320, ?_⟩
  refine List.forall_mem_cons.mpr ⟨kw_1357, ?_⟩
  refine List.forall_mem_cons.mpr ⟨kw_1362, ?_⟩
  exact fun _ h => absurd h List.not_mem_nil
def k_an : Nat → String := fun t => match t with
  | 23 => "StandUpBook$Spread"
  | 24 => "StandUpBook$Page"
  | 25 => "StandUpBook$Piece"
  | 26 => "StandUpBook$Vee"
  | 27 => "[[I"
  | t => k_cn t
theorem k_nw_ok : ∀ r ∈ k_nw, Jvm.Cond.classLink (k_cn r.1) r.2.1 (k_an r.2.2) ∈ pm_tbl := by
  unfold k_nw
  refine List.forall_mem_cons.mpr ⟨kw_135, ?_⟩
  refine List.forall_mem_cons.mpr ⟨kw_135, ?_⟩
  refine List.forall_mem_cons.mpr ⟨kw_126, ?_⟩
  refine List.forall_mem_cons.mpr ⟨kw_128, ?_⟩
  refine List.forall_mem_cons.mpr ⟨kw_126, ?_⟩
  refine List.forall_mem_cons.mpr ⟨kw_29, ?_⟩
  refine List.forall_mem_cons.mpr ⟨kw_31, ?_⟩
  refine List.forall_mem_cons.mpr ⟨kw_62, ?_⟩
  refine List.forall_mem_cons.mpr ⟨kw_78, ?_⟩
  refine List.forall_mem_cons.mpr ⟨kw_78, ?_⟩
  refine List.forall_mem_cons.mpr ⟨kw_86, ?_⟩
  refine List.forall_mem_cons.mpr ⟨kw_93, ?_⟩
  refine List.forall_mem_cons.mpr ⟨kw_100, ?_⟩
  refine List.forall_mem_cons.mpr ⟨kw_107, ?_⟩
  refine List.forall_mem_cons.mpr ⟨kw_114, ?_⟩
  refine List.forall_mem_cons.mpr ⟨kw_29, ?_⟩
  refine List.forall_mem_cons.mpr ⟨kw_239, ?_⟩
  refine List.forall_mem_cons.mpr ⟨kw_21, ?_⟩
  refine List.forall_mem_cons.mpr ⟨kw_853, ?_⟩
  exact fun _ h => absurd h List.not_mem_nil
theorem kg_native : (Jvm.Cond.native ({ cls := "java/lang/System", name := "arraycopy", desc := "(Ljava/lang/Object;ILjava/lang/Object;II)V" } : Jvm.MethodName)) ∈ pm_tbl := kw_814
theorem kg_static : (Jvm.Cond.static ({ cls := "java/lang/System", name := "arraycopy", desc := "(Ljava/lang/Object;ILjava/lang/Object;II)V" } : Jvm.MethodName)) ∈ pm_tbl := kw_813
theorem kg_ini : (Jvm.Cond.initialized "java/lang/System") ∈ pm_tbl := kw_20
theorem kg_oi : (Jvm.Cond.instanceMethod ({ cls := "java/lang/Object", name := "<init>", desc := "()V" } : Jvm.MethodName)) ∈ pm_tbl := kw_27
theorem kg_ocode : (Jvm.Cond.code ({ cls := "java/lang/Object", name := "<init>", desc := "()V" } : Jvm.MethodName) object_method_1_code (1 : Nat) (Option.none : Option Jvm.ClassFile.FieldType)) ∈ pm_tbl := kw_28
theorem kg_smax : (Jvm.Cond.static ({ cls := "java/lang/Math", name := "max", desc := "(II)I" } : Jvm.MethodName)) ∈ pm_tbl := kw_655
theorem kg_cmax : (Jvm.Cond.code ({ cls := "java/lang/Math", name := "max", desc := "(II)I" } : Jvm.MethodName) prog_16_method_65_code (2 : Nat) (Option.some Jvm.ClassFile.FieldType.int)) ∈ pm_tbl := kw_656
theorem kg_smin : (Jvm.Cond.static ({ cls := "java/lang/Math", name := "min", desc := "(II)I" } : Jvm.MethodName)) ∈ pm_tbl := kw_465
theorem kg_cmin : (Jvm.Cond.code ({ cls := "java/lang/Math", name := "min", desc := "(II)I" } : Jvm.MethodName) prog_16_method_69_code (2 : Nat) (Option.some Jvm.ClassFile.FieldType.int)) ∈ pm_tbl := kw_466
theorem kg_sabs : (Jvm.Cond.static ({ cls := "java/lang/Math", name := "abs", desc := "(I)I" } : Jvm.MethodName)) ∈ pm_tbl := kw_458
theorem kg_cabs : (Jvm.Cond.code ({ cls := "java/lang/Math", name := "abs", desc := "(I)I" } : Jvm.MethodName) prog_16_method_59_code (1 : Nat) (Option.some Jvm.ClassFile.FieldType.int)) ∈ pm_tbl := kw_459
theorem kg_im : (Jvm.Cond.initialized "java/lang/Math") ∈ pm_tbl := kw_18
def k_qok (q : pm_D) : Prop := Jvm.Cond.code q.1 q.2.2.1 q.2.2.2.1 q.2.2.2.2.1 ∈ pm_tbl ∧ (∀ x ∈ q.2.2.2.2.2, decode q.2.2.1 x.1 = .ok x.2) ∧ q.1.cls = k_cn q.2.1 ∧ Jvm.Cond.initialized q.1.cls ∈ pm_tbl
theorem kq_0 : k_qok q_0 := ⟨kw_97, qd_0, rfl, k_ini0⟩
theorem kq_1 : k_qok q_1 := ⟨kw_518, qd_1, rfl, k_ini0⟩
theorem kq_2 : k_qok q_2 := ⟨kw_597, qd_2, rfl, k_ini0⟩
theorem kq_3 : k_qok q_3 := ⟨kw_323, qd_3, rfl, k_ini0⟩
theorem kq_4 : k_qok q_4 := ⟨kw_104, qd_4, rfl, k_ini1⟩
theorem kq_5 : k_qok q_5 := ⟨kw_522, qd_5, rfl, k_ini1⟩
theorem kq_6 : k_qok q_6 := ⟨kw_601, qd_6, rfl, k_ini1⟩
theorem kq_7 : k_qok q_7 := ⟨kw_133, qd_7, rfl, k_ini2⟩
theorem kq_8 : k_qok q_8 := ⟨kw_299, qd_8, rfl, k_ini2⟩
theorem kq_9 : k_qok q_9 := ⟨kw_475, qd_9, rfl, k_ini2⟩
theorem kq_10 : k_qok q_10 := ⟨kw_307, qd_10, rfl, k_ini2⟩
theorem kq_11 : k_qok q_11 := ⟨kw_315, qd_11, rfl, k_ini2⟩
theorem kq_12 : k_qok q_12 := ⟨kw_456, qd_12, rfl, k_ini2⟩
theorem kq_13 : k_qok q_13 := ⟨kw_556, qd_13, rfl, k_ini2⟩
theorem kq_14 : k_qok q_14 := ⟨kw_559, qd_14, rfl, k_ini2⟩
theorem kq_15 : k_qok q_15 := ⟨kw_586, qd_15, rfl, k_ini2⟩
theorem kq_16 : k_qok q_16 := ⟨kw_590, qd_16, rfl, k_ini2⟩
theorem kq_17 : k_qok q_17 := ⟨kw_778, qd_17, rfl, k_ini2⟩
theorem kq_18 : k_qok q_18 := ⟨kw_696, qd_18, rfl, k_ini2⟩
theorem kq_19 : k_qok q_19 := ⟨kw_830, qd_19, rfl, k_ini2⟩
theorem kq_20 : k_qok q_20 := ⟨kw_508, qd_20, rfl, k_ini2⟩
theorem kq_21 : k_qok q_21 := ⟨kw_504, qd_21, rfl, k_ini2⟩
theorem kq_22 : k_qok q_22 := ⟨kw_540, qd_22, rfl, k_ini2⟩
theorem kq_23 : k_qok q_23 := ⟨kw_635, qd_23, rfl, k_ini2⟩
theorem kq_24 : k_qok q_24 := ⟨kw_758, qd_24, rfl, k_ini2⟩
theorem kq_25 : k_qok q_25 := ⟨kw_648, qd_25, rfl, k_ini2⟩
theorem kq_26 : k_qok q_26 := ⟨kw_644, qd_26, rfl, k_ini2⟩
theorem kq_27 : k_qok q_27 := ⟨kw_653, qd_27, rfl, k_ini2⟩
theorem kq_28 : k_qok q_28 := ⟨kw_844, qd_28, rfl, k_ini2⟩
theorem kq_29 : k_qok q_29 := ⟨kw_140, qd_29, rfl, k_ini3⟩
theorem kq_30 : k_qok q_30 := ⟨kw_463, qd_30, rfl, k_ini3⟩
theorem kq_31 : k_qok q_31 := ⟨kw_479, qd_31, rfl, k_ini3⟩
theorem kq_32 : k_qok q_32 := ⟨kw_848, qd_32, rfl, k_ini3⟩
theorem kq_33 : k_qok q_33 := ⟨kw_124, qd_33, rfl, k_ini4⟩
theorem kq_34 : k_qok q_34 := ⟨kw_295, qd_34, rfl, k_ini4⟩
theorem kq_35 : k_qok q_35 := ⟨kw_494, qd_35, rfl, k_ini4⟩
theorem kq_36 : k_qok q_36 := ⟨kw_498, qd_36, rfl, k_ini4⟩
theorem kq_37 : k_qok q_37 := ⟨kw_573, qd_37, rfl, k_ini4⟩
theorem kq_38 : k_qok q_38 := ⟨kw_811, qd_38, rfl, k_ini4⟩
theorem kq_39 : k_qok q_39 := ⟨kw_111, qd_39, rfl, k_ini5⟩
theorem kq_40 : k_qok q_40 := ⟨kw_526, qd_40, rfl, k_ini5⟩
theorem kq_41 : k_qok q_41 := ⟨kw_328, qd_41, rfl, k_ini5⟩
theorem kq_42 : k_qok q_42 := ⟨kw_90, qd_42, rfl, k_ini6⟩
theorem kq_43 : k_qok q_43 := ⟨kw_530, qd_43, rfl, k_ini6⟩
theorem kq_44 : k_qok q_44 := ⟨kw_35, qd_44, rfl, k_ini7⟩
theorem kq_45 : k_qok q_45 := ⟨kw_345, qd_45, rfl, k_ini7⟩
theorem kq_46 : k_qok q_46 := ⟨kw_357, qd_46, rfl, k_ini7⟩
theorem kq_47 : k_qok q_47 := ⟨kw_377, qd_47, rfl, k_ini7⟩
theorem kq_48 : k_qok q_48 := ⟨kw_445, qd_48, rfl, k_ini7⟩
theorem kq_49 : k_qok q_49 := ⟨kw_452, qd_49, rfl, k_ini7⟩
theorem kq_50 : k_qok q_50 := ⟨kw_471, qd_50, rfl, k_ini7⟩
theorem kq_51 : k_qok q_51 := ⟨kw_434, qd_51, rfl, k_ini7⟩
theorem kq_52 : k_qok q_52 := ⟨kw_438, qd_52, rfl, k_ini7⟩
theorem kq_53 : k_qok q_53 := ⟨kw_382, qd_53, rfl, k_ini7⟩
theorem kq_54 : k_qok q_54 := ⟨kw_361, qd_54, rfl, k_ini7⟩
theorem kq_55 : k_qok q_55 := ⟨kw_373, qd_55, rfl, k_ini7⟩
theorem kq_56 : k_qok q_56 := ⟨kw_365, qd_56, rfl, k_ini7⟩
theorem kq_57 : k_qok q_57 := ⟨kw_369, qd_57, rfl, k_ini7⟩
theorem kq_58 : k_qok q_58 := ⟨kw_83, qd_58, rfl, k_ini8⟩
theorem kq_59 : k_qok q_59 := ⟨kw_536, qd_59, rfl, k_ini8⟩
theorem kq_60 : k_qok q_60 := ⟨kw_609, qd_60, rfl, k_ini8⟩
theorem kq_61 : k_qok q_61 := ⟨kw_337, qd_61, rfl, k_ini8⟩
theorem kq_62 : k_qok q_62 := ⟨kw_66, qd_62, rfl, k_ini9⟩
theorem kq_63 : k_qok q_63 := ⟨kw_672, qd_63, rfl, k_ini9⟩
theorem kq_64 : k_qok q_64 := ⟨kw_677, qd_64, rfl, k_ini9⟩
theorem kq_65 : k_qok q_65 := ⟨kw_683, qd_65, rfl, k_ini9⟩
theorem kq_66 : k_qok q_66 := ⟨kw_118, qd_66, rfl, k_ini10⟩
theorem kq_67 : k_qok q_67 := ⟨kw_534, qd_67, rfl, k_ini10⟩
theorem kq_68 : k_qok q_68 := ⟨kw_607, qd_68, rfl, k_ini10⟩
theorem kq_69 : k_qok q_69 := ⟨kw_333, qd_69, rfl, k_ini10⟩
theorem kq_70 : k_qok q_70 := ⟨kw_25, qd_70, rfl, k_ini11⟩
theorem kq_71 : k_qok q_71 := ⟨kw_284, qd_71, rfl, k_ini11⟩
theorem kq_72 : k_qok q_72 := ⟨kw_303, qd_72, rfl, k_ini11⟩
theorem kq_73 : k_qok q_73 := ⟨kw_341, qd_73, rfl, k_ini11⟩
theorem kq_74 : k_qok q_74 := ⟨kw_349, qd_74, rfl, k_ini11⟩
theorem kq_75 : k_qok q_75 := ⟨kw_353, qd_75, rfl, k_ini11⟩
theorem kq_76 : k_qok q_76 := ⟨kw_483, qd_76, rfl, k_ini11⟩
theorem kq_77 : k_qok q_77 := ⟨kw_544, qd_77, rfl, k_ini11⟩
theorem kq_78 : k_qok q_78 := ⟨kw_552, qd_78, rfl, k_ini11⟩
theorem kq_79 : k_qok q_79 := ⟨kw_569, qd_79, rfl, k_ini11⟩
theorem kq_80 : k_qok q_80 := ⟨kw_577, qd_80, rfl, k_ini11⟩
theorem kq_81 : k_qok q_81 := ⟨kw_582, qd_81, rfl, k_ini11⟩
theorem kq_82 : k_qok q_82 := ⟨kw_613, qd_82, rfl, k_ini11⟩
theorem kq_83 : k_qok q_83 := ⟨kw_618, qd_83, rfl, k_ini11⟩
theorem kq_84 : k_qok q_84 := ⟨kw_622, qd_84, rfl, k_ini11⟩
theorem kq_85 : k_qok q_85 := ⟨kw_631, qd_85, rfl, k_ini11⟩
theorem kq_86 : k_qok q_86 := ⟨kw_640, qd_86, rfl, k_ini11⟩
theorem kq_87 : k_qok q_87 := ⟨kw_660, qd_87, rfl, k_ini11⟩
theorem kq_88 : k_qok q_88 := ⟨kw_688, qd_88, rfl, k_ini11⟩
theorem kq_89 : k_qok q_89 := ⟨kw_692, qd_89, rfl, k_ini11⟩
theorem kq_90 : k_qok q_90 := ⟨kw_700, qd_90, rfl, k_ini11⟩
theorem kq_91 : k_qok q_91 := ⟨kw_709, qd_91, rfl, k_ini11⟩
theorem kq_92 : k_qok q_92 := ⟨kw_713, qd_92, rfl, k_ini11⟩
theorem kq_93 : k_qok q_93 := ⟨kw_717, qd_93, rfl, k_ini11⟩
theorem kq_94 : k_qok q_94 := ⟨kw_721, qd_94, rfl, k_ini11⟩
theorem kq_95 : k_qok q_95 := ⟨kw_734, qd_95, rfl, k_ini11⟩
theorem kq_96 : k_qok q_96 := ⟨kw_746, qd_96, rfl, k_ini11⟩
theorem kq_97 : k_qok q_97 := ⟨kw_754, qd_97, rfl, k_ini11⟩
theorem kq_98 : k_qok q_98 := ⟨kw_774, qd_98, rfl, k_ini11⟩
theorem kq_99 : k_qok q_99 := ⟨kw_793, qd_99, rfl, k_ini11⟩
theorem kq_100 : k_qok q_100 := ⟨kw_803, qd_100, rfl, k_ini11⟩
theorem kq_101 : k_qok q_101 := ⟨kw_807, qd_101, rfl, k_ini11⟩
theorem kq_102 : k_qok q_102 := ⟨kw_818, qd_102, rfl, k_ini11⟩
theorem kq_103 : k_qok q_103 := ⟨kw_822, qd_103, rfl, k_ini11⟩
theorem kq_104 : k_qok q_104 := ⟨kw_826, qd_104, rfl, k_ini11⟩
theorem kq_105 : k_qok q_105 := ⟨kw_834, qd_105, rfl, k_ini11⟩
theorem kq_106 : k_qok q_106 := ⟨kw_291, qd_106, rfl, k_ini11⟩
theorem kq_107 : k_qok q_107 := ⟨kw_668, qd_107, rfl, k_ini11⟩
theorem kq_108 : k_qok q_108 := ⟨kw_490, qd_108, rfl, k_ini11⟩
theorem kq_109 : k_qok q_109 := ⟨kw_311, qd_109, rfl, k_ini11⟩
theorem kq_110 : k_qok q_110 := ⟨kw_548, qd_110, rfl, k_ini11⟩
theorem kq_111 : k_qok q_111 := ⟨kw_664, qd_111, rfl, k_ini11⟩
theorem kq_112 : k_qok q_112 := ⟨kw_486, qd_112, rfl, k_ini11⟩
theorem kq_113 : k_qok q_113 := ⟨kw_287, qd_113, rfl, k_ini11⟩
theorem kq_114 : k_qok q_114 := ⟨kw_511, qd_114, rfl, k_ini11⟩
theorem kq_115 : k_qok q_115 := ⟨kw_626, qd_115, rfl, k_ini11⟩
theorem kq_116 : k_qok q_116 := ⟨kw_703, qd_116, rfl, k_ini11⟩
theorem kq_117 : k_qok q_117 := ⟨kw_725, qd_117, rfl, k_ini11⟩
theorem kq_118 : k_qok q_118 := ⟨kw_729, qd_118, rfl, k_ini11⟩
theorem kq_119 : k_qok q_119 := ⟨kw_738, qd_119, rfl, k_ini11⟩
theorem kq_120 : k_qok q_120 := ⟨kw_742, qd_120, rfl, k_ini11⟩
theorem kq_121 : k_qok q_121 := ⟨kw_750, qd_121, rfl, k_ini11⟩
theorem kq_122 : k_qok q_122 := ⟨kw_762, qd_122, rfl, k_ini11⟩
theorem kq_123 : k_qok q_123 := ⟨kw_766, qd_123, rfl, k_ini11⟩
theorem kq_124 : k_qok q_124 := ⟨kw_770, qd_124, rfl, k_ini11⟩
theorem kq_125 : k_qok q_125 := ⟨kw_782, qd_125, rfl, k_ini11⟩
theorem kq_126 : k_qok q_126 := ⟨kw_786, qd_126, rfl, k_ini11⟩
theorem kq_127 : k_qok q_127 := ⟨kw_789, qd_127, rfl, k_ini11⟩
theorem kq_128 : k_qok q_128 := ⟨kw_839, qd_128, rfl, k_ini11⟩
theorem kq_129 : k_qok q_129 := ⟨kw_852, qd_129, rfl, k_ini11⟩
theorem kq_130 : k_qok q_130 := ⟨kw_994, qd_130, rfl, k_ini12⟩
theorem kq_131 : k_qok q_131 := ⟨kw_1209, qd_131, rfl, k_ini12⟩
theorem kq_132 : k_qok q_132 := ⟨kw_1117, qd_132, rfl, k_ini12⟩
theorem kq_133 : k_qok q_133 := ⟨kw_1002, qd_133, rfl, k_ini12⟩
theorem kq_134 : k_qok q_134 := ⟨kw_990, qd_134, rfl, k_ini12⟩
theorem kq_135 : k_qok q_135 := ⟨kw_1136, qd_135, rfl, k_ini12⟩
theorem kq_136 : k_qok q_136 := ⟨kw_1090, qd_136, rfl, k_ini12⟩
theorem kq_137 : k_qok q_137 := ⟨kw_1189, qd_137, rfl, k_ini12⟩
theorem kq_138 : k_qok q_138 := ⟨kw_1186, qd_138, rfl, k_ini12⟩
theorem kq_139 : k_qok q_139 := ⟨kw_857, qd_139, rfl, k_ini12⟩
theorem kq_140 : k_qok q_140 := ⟨kw_862, qd_140, rfl, k_ini12⟩
theorem kq_141 : k_qok q_141 := ⟨kw_1147, qd_141, rfl, k_ini12⟩
theorem kq_142 : k_qok q_142 := ⟨kw_1113, qd_142, rfl, k_ini12⟩
theorem kq_143 : k_qok q_143 := ⟨kw_1205, qd_143, rfl, k_ini12⟩
theorem kq_144 : k_qok q_144 := ⟨kw_987, qd_144, rfl, k_ini12⟩
theorem kq_145 : k_qok q_145 := ⟨kw_1006, qd_145, rfl, k_ini12⟩
theorem kq_146 : k_qok q_146 := ⟨kw_998, qd_146, rfl, k_ini12⟩
theorem kq_147 : k_qok q_147 := ⟨kw_1010, qd_147, rfl, k_ini12⟩
theorem kq_148 : k_qok q_148 := ⟨kw_1014, qd_148, rfl, k_ini12⟩
theorem kq_149 : k_qok q_149 := ⟨kw_1042, qd_149, rfl, k_ini12⟩
theorem kq_150 : k_qok q_150 := ⟨kw_1038, qd_150, rfl, k_ini12⟩
theorem kq_151 : k_qok q_151 := ⟨kw_1053, qd_151, rfl, k_ini12⟩
theorem kq_152 : k_qok q_152 := ⟨kw_1064, qd_152, rfl, k_ini12⟩
theorem kq_153 : k_qok q_153 := ⟨kw_1050, qd_153, rfl, k_ini12⟩
theorem kq_154 : k_qok q_154 := ⟨kw_1057, qd_154, rfl, k_ini12⟩
theorem kq_155 : k_qok q_155 := ⟨kw_1046, qd_155, rfl, k_ini12⟩
theorem kq_156 : k_qok q_156 := ⟨kw_1061, qd_156, rfl, k_ini12⟩
theorem kq_157 : k_qok q_157 := ⟨kw_1068, qd_157, rfl, k_ini12⟩
theorem kq_158 : k_qok q_158 := ⟨kw_1098, qd_158, rfl, k_ini12⟩
theorem kq_159 : k_qok q_159 := ⟨kw_1076, qd_159, rfl, k_ini12⟩
theorem kq_160 : k_qok q_160 := ⟨kw_1094, qd_160, rfl, k_ini12⟩
theorem kq_161 : k_qok q_161 := ⟨kw_1072, qd_161, rfl, k_ini12⟩
theorem kq_162 : k_qok q_162 := ⟨kw_1034, qd_162, rfl, k_ini12⟩
theorem kq_163 : k_qok q_163 := ⟨kw_1030, qd_163, rfl, k_ini12⟩
theorem kq_164 : k_qok q_164 := ⟨kw_1018, qd_164, rfl, k_ini12⟩
theorem kq_165 : k_qok q_165 := ⟨kw_1139, qd_165, rfl, k_ini12⟩
theorem kq_166 : k_qok q_166 := ⟨kw_1167, qd_166, rfl, k_ini12⟩
theorem kq_167 : k_qok q_167 := ⟨kw_1087, qd_167, rfl, k_ini12⟩
theorem kq_168 : k_qok q_168 := ⟨kw_1084, qd_168, rfl, k_ini12⟩
theorem kq_169 : k_qok q_169 := ⟨kw_1133, qd_169, rfl, k_ini12⟩
theorem kq_170 : k_qok q_170 := ⟨kw_1129, qd_170, rfl, k_ini12⟩
theorem kq_171 : k_qok q_171 := ⟨kw_1125, qd_171, rfl, k_ini12⟩
theorem kq_172 : k_qok q_172 := ⟨kw_1026, qd_172, rfl, k_ini12⟩
theorem kq_173 : k_qok q_173 := ⟨kw_1106, qd_173, rfl, k_ini12⟩
theorem kq_174 : k_qok q_174 := ⟨kw_1121, qd_174, rfl, k_ini12⟩
theorem kq_175 : k_qok q_175 := ⟨kw_1080, qd_175, rfl, k_ini12⟩
theorem kq_176 : k_qok q_176 := ⟨kw_1110, qd_176, rfl, k_ini12⟩
theorem kq_177 : k_qok q_177 := ⟨kw_1143, qd_177, rfl, k_ini12⟩
theorem kq_178 : k_qok q_178 := ⟨kw_1151, qd_178, rfl, k_ini12⟩
theorem kq_179 : k_qok q_179 := ⟨kw_1155, qd_179, rfl, k_ini12⟩
theorem kq_180 : k_qok q_180 := ⟨kw_1159, qd_180, rfl, k_ini12⟩
theorem kq_181 : k_qok q_181 := ⟨kw_1163, qd_181, rfl, k_ini12⟩
theorem kq_182 : k_qok q_182 := ⟨kw_1171, qd_182, rfl, k_ini12⟩
theorem kq_183 : k_qok q_183 := ⟨kw_1175, qd_183, rfl, k_ini12⟩
theorem kq_184 : k_qok q_184 := ⟨kw_1179, qd_184, rfl, k_ini12⟩
theorem kq_185 : k_qok q_185 := ⟨kw_1183, qd_185, rfl, k_ini12⟩
theorem kq_186 : k_qok q_186 := ⟨kw_1197, qd_186, rfl, k_ini12⟩
theorem kq_187 : k_qok q_187 := ⟨kw_1193, qd_187, rfl, k_ini12⟩
theorem kq_188 : k_qok q_188 := ⟨kw_1213, qd_188, rfl, k_ini12⟩
theorem kq_189 : k_qok q_189 := ⟨kw_1218, qd_189, rfl, k_ini12⟩
theorem kq_190 : k_qok q_190 := ⟨kw_1226, qd_190, rfl, k_ini12⟩
theorem kq_191 : k_qok q_191 := ⟨kw_1222, qd_191, rfl, k_ini12⟩
theorem kq_192 : k_qok q_192 := ⟨kw_1230, qd_192, rfl, k_ini12⟩
theorem kq_193 : k_qok q_193 := ⟨kw_1201, qd_193, rfl, k_ini12⟩
theorem kq_194 : k_qok q_194 := ⟨kw_1234, qd_194, rfl, k_ini12⟩
theorem kq_195 : k_qok q_195 := ⟨kw_1242, qd_195, rfl, k_ini12⟩
theorem kq_196 : k_qok q_196 := ⟨kw_1238, qd_196, rfl, k_ini12⟩
theorem kq_197 : k_qok q_197 := ⟨kw_1250, qd_197, rfl, k_ini12⟩
theorem kq_198 : k_qok q_198 := ⟨kw_1246, qd_198, rfl, k_ini12⟩
theorem kq_199 : k_qok q_199 := ⟨kw_1254, qd_199, rfl, k_ini12⟩
theorem kq_200 : k_qok q_200 := ⟨kw_1258, qd_200, rfl, k_ini12⟩
theorem kq_201 : k_qok q_201 := ⟨kw_1262, qd_201, rfl, k_ini12⟩
theorem kq_202 : k_qok q_202 := ⟨kw_1270, qd_202, rfl, k_ini12⟩
theorem kq_203 : k_qok q_203 := ⟨kw_1266, qd_203, rfl, k_ini12⟩
theorem kq_204 : k_qok q_204 := ⟨kw_1277, qd_204, rfl, k_ini12⟩
theorem kq_205 : k_qok q_205 := ⟨kw_1274, qd_205, rfl, k_ini12⟩
theorem kq_206 : k_qok q_206 := ⟨kw_1285, qd_206, rfl, k_ini12⟩
theorem kq_207 : k_qok q_207 := ⟨kw_1281, qd_207, rfl, k_ini12⟩
theorem kq_208 : k_qok q_208 := ⟨kw_1297, qd_208, rfl, k_ini12⟩
theorem kq_209 : k_qok q_209 := ⟨kw_1301, qd_209, rfl, k_ini12⟩
theorem kq_210 : k_qok q_210 := ⟨kw_1293, qd_210, rfl, k_ini12⟩
theorem kq_211 : k_qok q_211 := ⟨kw_1289, qd_211, rfl, k_ini12⟩
theorem kq_212 : k_qok q_212 := ⟨kw_1310, qd_212, rfl, k_ini12⟩
theorem kq_213 : k_qok q_213 := ⟨kw_1305, qd_213, rfl, k_ini12⟩
theorem kq_214 : k_qok q_214 := ⟨kw_1314, qd_214, rfl, k_ini12⟩
theorem kq_215 : k_qok q_215 := ⟨kw_1324, qd_215, rfl, k_ini12⟩
theorem kq_216 : k_qok q_216 := ⟨kw_1022, qd_216, rfl, k_ini12⟩
theorem kq_217 : k_qok q_217 := ⟨kw_1102, qd_217, rfl, k_ini12⟩
theorem kq_218 : k_qok q_218 := ⟨kw_1328, qd_218, rfl, k_ini12⟩
theorem kq_219 : k_qok q_219 := ⟨kw_1332, qd_219, rfl, k_ini12⟩
theorem kq_220 : k_qok q_220 := ⟨kw_1336, qd_220, rfl, k_ini12⟩
theorem kq_221 : k_qok q_221 := ⟨kw_1352, qd_221, rfl, k_ini12⟩
theorem kq_222 : k_qok q_222 := ⟨kw_1348, qd_222, rfl, k_ini12⟩
theorem kq_223 : k_qok q_223 := ⟨kw_1344, qd_223, rfl, k_ini12⟩
theorem kq_224 : k_qok q_224 := ⟨kw_1340, qd_224, rfl, k_ini12⟩
theorem kq_225 : k_qok q_225 := ⟨kw_1361, qd_225, rfl, k_ini12⟩
theorem kq_226 : k_qok q_226 := ⟨kw_1356, qd_226, rfl, k_ini12⟩
theorem kq_227 : k_qok q_227 := ⟨kw_562, qd_227, rfl, k_ini14⟩
theorem kq_228 : k_qok q_228 := ⟨kw_459, qd_228, rfl, k_ini15⟩
theorem kq_229 : k_qok q_229 := ⟨kw_656, qd_229, rfl, k_ini15⟩
theorem kq_230 : k_qok q_230 := ⟨kw_466, qd_230, rfl, k_ini15⟩
theorem k_all_ok : ∀ q ∈ pm_all, k_qok q := by
  unfold pm_all
  refine List.forall_mem_cons.mpr ⟨kq_0, ?_⟩
  refine List.forall_mem_cons.mpr ⟨kq_1, ?_⟩
  refine List.forall_mem_cons.mpr ⟨kq_2, ?_⟩
  refine List.forall_mem_cons.mpr ⟨kq_3, ?_⟩
  refine List.forall_mem_cons.mpr ⟨kq_4, ?_⟩
  refine List.forall_mem_cons.mpr ⟨kq_5, ?_⟩
  refine List.forall_mem_cons.mpr ⟨kq_6, ?_⟩
  refine List.forall_mem_cons.mpr ⟨kq_7, ?_⟩
  refine List.forall_mem_cons.mpr ⟨kq_8, ?_⟩
  refine List.forall_mem_cons.mpr ⟨kq_9, ?_⟩
  refine List.forall_mem_cons.mpr ⟨kq_10, ?_⟩
  refine List.forall_mem_cons.mpr ⟨kq_11, ?_⟩
  refine List.forall_mem_cons.mpr ⟨kq_12, ?_⟩
  refine List.forall_mem_cons.mpr ⟨kq_13, ?_⟩
  refine List.forall_mem_cons.mpr ⟨kq_14, ?_⟩
  refine List.forall_mem_cons.mpr ⟨kq_15, ?_⟩
  refine List.forall_mem_cons.mpr ⟨kq_16, ?_⟩
  refine List.forall_mem_cons.mpr ⟨kq_17, ?_⟩
  refine List.forall_mem_cons.mpr ⟨kq_18, ?_⟩
  refine List.forall_mem_cons.mpr ⟨kq_19, ?_⟩
  refine List.forall_mem_cons.mpr ⟨kq_20, ?_⟩
  refine List.forall_mem_cons.mpr ⟨kq_21, ?_⟩
  refine List.forall_mem_cons.mpr ⟨kq_22, ?_⟩
  refine List.forall_mem_cons.mpr ⟨kq_23, ?_⟩
  refine List.forall_mem_cons.mpr ⟨kq_24, ?_⟩
  refine List.forall_mem_cons.mpr ⟨kq_25, ?_⟩
  refine List.forall_mem_cons.mpr ⟨kq_26, ?_⟩
  refine List.forall_mem_cons.mpr ⟨kq_27, ?_⟩
  refine List.forall_mem_cons.mpr ⟨kq_28, ?_⟩
  refine List.forall_mem_cons.mpr ⟨kq_29, ?_⟩
  refine List.forall_mem_cons.mpr ⟨kq_30, ?_⟩
  refine List.forall_mem_cons.mpr ⟨kq_31, ?_⟩
  refine List.forall_mem_cons.mpr ⟨kq_32, ?_⟩
  refine List.forall_mem_cons.mpr ⟨kq_33, ?_⟩
  refine List.forall_mem_cons.mpr ⟨kq_34, ?_⟩
  refine List.forall_mem_cons.mpr ⟨kq_35, ?_⟩
  refine List.forall_mem_cons.mpr ⟨kq_36, ?_⟩
  refine List.forall_mem_cons.mpr ⟨kq_37, ?_⟩
  refine List.forall_mem_cons.mpr ⟨kq_38, ?_⟩
  refine List.forall_mem_cons.mpr ⟨kq_39, ?_⟩
  refine List.forall_mem_cons.mpr ⟨kq_40, ?_⟩
  refine List.forall_mem_cons.mpr ⟨kq_41, ?_⟩
  refine List.forall_mem_cons.mpr ⟨kq_42, ?_⟩
  refine List.forall_mem_cons.mpr ⟨kq_43, ?_⟩
  refine List.forall_mem_cons.mpr ⟨kq_44, ?_⟩
  refine List.forall_mem_cons.mpr ⟨kq_45, ?_⟩
  refine List.forall_mem_cons.mpr ⟨kq_46, ?_⟩
  refine List.forall_mem_cons.mpr ⟨kq_47, ?_⟩
  refine List.forall_mem_cons.mpr ⟨kq_48, ?_⟩
  refine List.forall_mem_cons.mpr ⟨kq_49, ?_⟩
  refine List.forall_mem_cons.mpr ⟨kq_50, ?_⟩
  refine List.forall_mem_cons.mpr ⟨kq_51, ?_⟩
  refine List.forall_mem_cons.mpr ⟨kq_52, ?_⟩
  refine List.forall_mem_cons.mpr ⟨kq_53, ?_⟩
  refine List.forall_mem_cons.mpr ⟨kq_54, ?_⟩
  refine List.forall_mem_cons.mpr ⟨kq_55, ?_⟩
  refine List.forall_mem_cons.mpr ⟨kq_56, ?_⟩
  refine List.forall_mem_cons.mpr ⟨kq_57, ?_⟩
  refine List.forall_mem_cons.mpr ⟨kq_58, ?_⟩
  refine List.forall_mem_cons.mpr ⟨kq_59, ?_⟩
  refine List.forall_mem_cons.mpr ⟨kq_60, ?_⟩
  refine List.forall_mem_cons.mpr ⟨kq_61, ?_⟩
  refine List.forall_mem_cons.mpr ⟨kq_62, ?_⟩
  refine List.forall_mem_cons.mpr ⟨kq_63, ?_⟩
  refine List.forall_mem_cons.mpr ⟨kq_64, ?_⟩
  refine List.forall_mem_cons.mpr ⟨kq_65, ?_⟩
  refine List.forall_mem_cons.mpr ⟨kq_66, ?_⟩
  refine List.forall_mem_cons.mpr ⟨kq_67, ?_⟩
  refine List.forall_mem_cons.mpr ⟨kq_68, ?_⟩
  refine List.forall_mem_cons.mpr ⟨kq_69, ?_⟩
  refine List.forall_mem_cons.mpr ⟨kq_70, ?_⟩
  refine List.forall_mem_cons.mpr ⟨kq_71, ?_⟩
  refine List.forall_mem_cons.mpr ⟨kq_72, ?_⟩
  refine List.forall_mem_cons.mpr ⟨kq_73, ?_⟩
  refine List.forall_mem_cons.mpr ⟨kq_74, ?_⟩
  refine List.forall_mem_cons.mpr ⟨kq_75, ?_⟩
  refine List.forall_mem_cons.mpr ⟨kq_76, ?_⟩
  refine List.forall_mem_cons.mpr ⟨kq_77, ?_⟩
  refine List.forall_mem_cons.mpr ⟨kq_78, ?_⟩
  refine List.forall_mem_cons.mpr ⟨kq_79, ?_⟩
  refine List.forall_mem_cons.mpr ⟨kq_80, ?_⟩
  refine List.forall_mem_cons.mpr ⟨kq_81, ?_⟩
  refine List.forall_mem_cons.mpr ⟨kq_82, ?_⟩
  refine List.forall_mem_cons.mpr ⟨kq_83, ?_⟩
  refine List.forall_mem_cons.mpr ⟨kq_84, ?_⟩
  refine List.forall_mem_cons.mpr ⟨kq_85, ?_⟩
  refine List.forall_mem_cons.mpr ⟨kq_86, ?_⟩
  refine List.forall_mem_cons.mpr ⟨kq_87, ?_⟩
  refine List.forall_mem_cons.mpr ⟨kq_88, ?_⟩
  refine List.forall_mem_cons.mpr ⟨kq_89, ?_⟩
  refine List.forall_mem_cons.mpr ⟨kq_90, ?_⟩
  refine List.forall_mem_cons.mpr ⟨kq_91, ?_⟩
  refine List.forall_mem_cons.mpr ⟨kq_92, ?_⟩
  refine List.forall_mem_cons.mpr ⟨kq_93, ?_⟩
  refine List.forall_mem_cons.mpr ⟨kq_94, ?_⟩
  refine List.forall_mem_cons.mpr ⟨kq_95, ?_⟩
  refine List.forall_mem_cons.mpr ⟨kq_96, ?_⟩
  refine List.forall_mem_cons.mpr ⟨kq_97, ?_⟩
  refine List.forall_mem_cons.mpr ⟨kq_98, ?_⟩
  refine List.forall_mem_cons.mpr ⟨kq_99, ?_⟩
  refine List.forall_mem_cons.mpr ⟨kq_100, ?_⟩
  refine List.forall_mem_cons.mpr ⟨kq_101, ?_⟩
  refine List.forall_mem_cons.mpr ⟨kq_102, ?_⟩
  refine List.forall_mem_cons.mpr ⟨kq_103, ?_⟩
  refine List.forall_mem_cons.mpr ⟨kq_104, ?_⟩
  refine List.forall_mem_cons.mpr ⟨kq_105, ?_⟩
  refine List.forall_mem_cons.mpr ⟨kq_106, ?_⟩
  refine List.forall_mem_cons.mpr ⟨kq_107, ?_⟩
  refine List.forall_mem_cons.mpr ⟨kq_108, ?_⟩
  refine List.forall_mem_cons.mpr ⟨kq_109, ?_⟩
  refine List.forall_mem_cons.mpr ⟨kq_110, ?_⟩
  refine List.forall_mem_cons.mpr ⟨kq_111, ?_⟩
  refine List.forall_mem_cons.mpr ⟨kq_112, ?_⟩
  refine List.forall_mem_cons.mpr ⟨kq_113, ?_⟩
  refine List.forall_mem_cons.mpr ⟨kq_114, ?_⟩
  refine List.forall_mem_cons.mpr ⟨kq_115, ?_⟩
  refine List.forall_mem_cons.mpr ⟨kq_116, ?_⟩
  refine List.forall_mem_cons.mpr ⟨kq_117, ?_⟩
  refine List.forall_mem_cons.mpr ⟨kq_118, ?_⟩
  refine List.forall_mem_cons.mpr ⟨kq_119, ?_⟩
  refine List.forall_mem_cons.mpr ⟨kq_120, ?_⟩
  refine List.forall_mem_cons.mpr ⟨kq_121, ?_⟩
  refine List.forall_mem_cons.mpr ⟨kq_122, ?_⟩
  refine List.forall_mem_cons.mpr ⟨kq_123, ?_⟩
  refine List.forall_mem_cons.mpr ⟨kq_124, ?_⟩
  refine List.forall_mem_cons.mpr ⟨kq_125, ?_⟩
  refine List.forall_mem_cons.mpr ⟨kq_126, ?_⟩
  refine List.forall_mem_cons.mpr ⟨kq_127, ?_⟩
  refine List.forall_mem_cons.mpr ⟨kq_128, ?_⟩
  refine List.forall_mem_cons.mpr ⟨kq_129, ?_⟩
  refine List.forall_mem_cons.mpr ⟨kq_130, ?_⟩
  refine List.forall_mem_cons.mpr ⟨kq_131, ?_⟩
  refine List.forall_mem_cons.mpr ⟨kq_132, ?_⟩
  refine List.forall_mem_cons.mpr ⟨kq_133, ?_⟩
  refine List.forall_mem_cons.mpr ⟨kq_134, ?_⟩
  refine List.forall_mem_cons.mpr ⟨kq_135, ?_⟩
  refine List.forall_mem_cons.mpr ⟨kq_136, ?_⟩
  refine List.forall_mem_cons.mpr ⟨kq_137, ?_⟩
  refine List.forall_mem_cons.mpr ⟨kq_138, ?_⟩
  refine List.forall_mem_cons.mpr ⟨kq_139, ?_⟩
  refine List.forall_mem_cons.mpr ⟨kq_140, ?_⟩
  refine List.forall_mem_cons.mpr ⟨kq_141, ?_⟩
  refine List.forall_mem_cons.mpr ⟨kq_142, ?_⟩
  refine List.forall_mem_cons.mpr ⟨kq_143, ?_⟩
  refine List.forall_mem_cons.mpr ⟨kq_144, ?_⟩
  refine List.forall_mem_cons.mpr ⟨kq_145, ?_⟩
  refine List.forall_mem_cons.mpr ⟨kq_146, ?_⟩
  refine List.forall_mem_cons.mpr ⟨kq_147, ?_⟩
  refine List.forall_mem_cons.mpr ⟨kq_148, ?_⟩
  refine List.forall_mem_cons.mpr ⟨kq_149, ?_⟩
  refine List.forall_mem_cons.mpr ⟨kq_150, ?_⟩
  refine List.forall_mem_cons.mpr ⟨kq_151, ?_⟩
  refine List.forall_mem_cons.mpr ⟨kq_152, ?_⟩
  refine List.forall_mem_cons.mpr ⟨kq_153, ?_⟩
  refine List.forall_mem_cons.mpr ⟨kq_154, ?_⟩
  refine List.forall_mem_cons.mpr ⟨kq_155, ?_⟩
  refine List.forall_mem_cons.mpr ⟨kq_156, ?_⟩
  refine List.forall_mem_cons.mpr ⟨kq_157, ?_⟩
  refine List.forall_mem_cons.mpr ⟨kq_158, ?_⟩
  refine List.forall_mem_cons.mpr ⟨kq_159, ?_⟩
  refine List.forall_mem_cons.mpr ⟨kq_160, ?_⟩
  refine List.forall_mem_cons.mpr ⟨kq_161, ?_⟩
  refine List.forall_mem_cons.mpr ⟨kq_162, ?_⟩
  refine List.forall_mem_cons.mpr ⟨kq_163, ?_⟩
  refine List.forall_mem_cons.mpr ⟨kq_164, ?_⟩
  refine List.forall_mem_cons.mpr ⟨kq_165, ?_⟩
  refine List.forall_mem_cons.mpr ⟨kq_166, ?_⟩
  refine List.forall_mem_cons.mpr ⟨kq_167, ?_⟩
  refine List.forall_mem_cons.mpr ⟨kq_168, ?_⟩
  refine List.forall_mem_cons.mpr ⟨kq_169, ?_⟩
  refine List.forall_mem_cons.mpr ⟨kq_170, ?_⟩
  refine List.forall_mem_cons.mpr ⟨kq_171, ?_⟩
  refine List.forall_mem_cons.mpr ⟨kq_172, ?_⟩
  refine List.forall_mem_cons.mpr ⟨kq_173, ?_⟩
  refine List.forall_mem_cons.mpr ⟨kq_174, ?_⟩
  refine List.forall_mem_cons.mpr ⟨kq_175, ?_⟩
  refine List.forall_mem_cons.mpr ⟨kq_176, ?_⟩
  refine List.forall_mem_cons.mpr ⟨kq_177, ?_⟩
  refine List.forall_mem_cons.mpr ⟨kq_178, ?_⟩
  refine List.forall_mem_cons.mpr ⟨kq_179, ?_⟩
  refine List.forall_mem_cons.mpr ⟨kq_180, ?_⟩
  refine List.forall_mem_cons.mpr ⟨kq_181, ?_⟩
  refine List.forall_mem_cons.mpr ⟨kq_182, ?_⟩
  refine List.forall_mem_cons.mpr ⟨kq_183, ?_⟩
  refine List.forall_mem_cons.mpr ⟨kq_184, ?_⟩
  refine List.forall_mem_cons.mpr ⟨kq_185, ?_⟩
  refine List.forall_mem_cons.mpr ⟨kq_186, ?_⟩
  refine List.forall_mem_cons.mpr ⟨kq_187, ?_⟩
  refine List.forall_mem_cons.mpr ⟨kq_188, ?_⟩
  refine List.forall_mem_cons.mpr ⟨kq_189, ?_⟩
  refine List.forall_mem_cons.mpr ⟨kq_190, ?_⟩
  refine List.forall_mem_cons.mpr ⟨kq_191, ?_⟩
  refine List.forall_mem_cons.mpr ⟨kq_192, ?_⟩
  refine List.forall_mem_cons.mpr ⟨kq_193, ?_⟩
  refine List.forall_mem_cons.mpr ⟨kq_194, ?_⟩
  refine List.forall_mem_cons.mpr ⟨kq_195, ?_⟩
  refine List.forall_mem_cons.mpr ⟨kq_196, ?_⟩
  refine List.forall_mem_cons.mpr ⟨kq_197, ?_⟩
  refine List.forall_mem_cons.mpr ⟨kq_198, ?_⟩
  refine List.forall_mem_cons.mpr ⟨kq_199, ?_⟩
  refine List.forall_mem_cons.mpr ⟨kq_200, ?_⟩
  refine List.forall_mem_cons.mpr ⟨kq_201, ?_⟩
  refine List.forall_mem_cons.mpr ⟨kq_202, ?_⟩
  refine List.forall_mem_cons.mpr ⟨kq_203, ?_⟩
  refine List.forall_mem_cons.mpr ⟨kq_204, ?_⟩
  refine List.forall_mem_cons.mpr ⟨kq_205, ?_⟩
  refine List.forall_mem_cons.mpr ⟨kq_206, ?_⟩
  refine List.forall_mem_cons.mpr ⟨kq_207, ?_⟩
  refine List.forall_mem_cons.mpr ⟨kq_208, ?_⟩
  refine List.forall_mem_cons.mpr ⟨kq_209, ?_⟩
  refine List.forall_mem_cons.mpr ⟨kq_210, ?_⟩
  refine List.forall_mem_cons.mpr ⟨kq_211, ?_⟩
  refine List.forall_mem_cons.mpr ⟨kq_212, ?_⟩
  refine List.forall_mem_cons.mpr ⟨kq_213, ?_⟩
  refine List.forall_mem_cons.mpr ⟨kq_214, ?_⟩
  refine List.forall_mem_cons.mpr ⟨kq_215, ?_⟩
  refine List.forall_mem_cons.mpr ⟨kq_216, ?_⟩
  refine List.forall_mem_cons.mpr ⟨kq_217, ?_⟩
  refine List.forall_mem_cons.mpr ⟨kq_218, ?_⟩
  refine List.forall_mem_cons.mpr ⟨kq_219, ?_⟩
  refine List.forall_mem_cons.mpr ⟨kq_220, ?_⟩
  refine List.forall_mem_cons.mpr ⟨kq_221, ?_⟩
  refine List.forall_mem_cons.mpr ⟨kq_222, ?_⟩
  refine List.forall_mem_cons.mpr ⟨kq_223, ?_⟩
  refine List.forall_mem_cons.mpr ⟨kq_224, ?_⟩
  refine List.forall_mem_cons.mpr ⟨kq_225, ?_⟩
  refine List.forall_mem_cons.mpr ⟨kq_226, ?_⟩
  refine List.forall_mem_cons.mpr ⟨kq_227, ?_⟩
  refine List.forall_mem_cons.mpr ⟨kq_228, ?_⟩
  refine List.forall_mem_cons.mpr ⟨kq_229, ?_⟩
  refine List.forall_mem_cons.mpr ⟨kq_230, ?_⟩
  exact fun _ h => absurd h List.not_mem_nil
