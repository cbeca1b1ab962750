def jchkNF (k : Nat) : Bool := (jP k).all (jchkL k) && jwalkF (jBy k) (jP k) (jBy k).data.toList && jadj (jP k) && (jpc (jP k) == 0)
theorem jchkNF_ok {k : Nat} (h : jchkNF k = true) : jchkN k = true := by
  unfold jchkNF at h
  unfold jchkN
  simp only [Bool.and_eq_true] at h ⊢
  exact ⟨⟨⟨h.1.1.1, jwalkF_ok _ _ h.1.1.2⟩, h.1.2⟩, h.2⟩
def jchkMF (k : Nat) : Bool := jchkNF k && jmOk k
theorem jchkMF_ok {k : Nat} (h : jchkMF k = true) : jchkM k = true := by
  unfold jchkMF at h
  unfold jchkM
  rw [Bool.and_eq_true] at h ⊢
  exact ⟨jchkNF_ok h.1, h.2⟩
set_option maxRecDepth 100000 in
theorem jg0 : [0, 1, 2, 3, 4, 5, 6, 7, 8, 9, 10, 11].all jchkMF = true := by decide +kernel
set_option maxRecDepth 100000 in
theorem jg1 : [12, 13, 14, 15, 16, 17, 18, 19, 20, 21, 22, 23].all jchkMF = true := by decide +kernel
set_option maxRecDepth 100000 in
theorem jg2 : [24, 25, 26, 27, 28, 29, 30, 31, 32, 33, 34, 35].all jchkMF = true := by decide +kernel
set_option maxRecDepth 100000 in
theorem jg3 : [36, 37, 38, 39, 40, 41, 42, 43, 44, 45, 46, 47].all jchkMF = true := by decide +kernel
set_option maxRecDepth 100000 in
theorem jg4 : [48, 49, 50, 51, 52, 53, 54, 55, 56, 57, 58, 59].all jchkMF = true := by decide +kernel
set_option maxRecDepth 100000 in
theorem jg5 : [60, 61, 62, 63, 64, 65, 66, 67, 68, 69, 70, 71].all jchkMF = true := by decide +kernel
set_option maxRecDepth 100000 in
theorem jg6 : [72, 73, 74, 75, 76, 77, 78, 79, 80, 81, 82, 83].all jchkMF = true := by decide +kernel
set_option maxRecDepth 100000 in
theorem jg7 : [84, 85, 86, 87, 88, 89, 90, 91, 92, 93, 94, 95].all jchkMF = true := by decide +kernel
set_option maxRecDepth 100000 in
theorem jg8 : [96, 97, 98, 99, 100, 101, 102, 103, 104, 105, 106, 107].all jchkMF = true := by decide +kernel
set_option maxRecDepth 100000 in
theorem jg9 : [108, 109, 110, 111, 112, 113, 114, 115, 116, 117, 118, 119].all jchkMF = true := by decide +kernel
set_option maxRecDepth 100000 in
theorem jg10 : [120, 121, 122, 123, 124, 125, 126, 127, 128, 129, 130, 131].all jchkMF = true := by decide +kernel
set_option maxRecDepth 100000 in
theorem jg11 : [132, 133, 134, 135, 136, 137, 138, 139, 140, 141, 142, 143].all jchkMF = true := by decide +kernel
set_option maxRecDepth 100000 in
theorem jg12 : [144, 145, 146, 147, 148, 149, 150, 151, 152, 153, 154, 155].all jchkMF = true := by decide +kernel
set_option maxRecDepth 100000 in
theorem jg13 : [156, 157, 158, 159, 160, 161, 162, 163, 164, 165, 166, 167].all jchkMF = true := by decide +kernel
set_option maxRecDepth 100000 in
theorem jg14 : [168, 169, 170, 171, 172, 173, 174, 175, 176, 177, 178, 179].all jchkMF = true := by decide +kernel
set_option maxRecDepth 100000 in
theorem jg15 : [180, 181, 182, 183, 184, 185, 186, 187, 188, 189, 190, 191].all jchkMF = true := by decide +kernel
set_option maxRecDepth 100000 in
theorem jg16 : [192, 193, 194, 195, 196, 197, 198, 199, 200, 201, 202, 203].all jchkMF = true := by decide +kernel
set_option maxRecDepth 100000 in
theorem jg17 : [204, 205, 206, 207, 208, 209, 210, 211, 212, 213, 214, 215].all jchkMF = true := by decide +kernel
set_option maxRecDepth 100000 in
theorem jg18 : [216, 217, 218, 219, 220, 221, 222, 223, 224, 225, 226, 227].all jchkMF = true := by decide +kernel
set_option maxRecDepth 100000 in
theorem jg19 : [228, 229, 230, 231, 232, 233, 234, 235, 236, 237, 238, 239].all jchkMF = true := by decide +kernel
set_option maxRecDepth 100000 in
theorem jg20 : [240, 241, 242, 243, 244, 245, 246, 247, 248, 249, 250, 251].all jchkMF = true := by decide +kernel
set_option maxRecDepth 100000 in
theorem jg21 : [252, 253, 254, 255, 256, 257, 258, 259, 260, 261, 262, 263].all jchkMF = true := by decide +kernel
set_option maxRecDepth 100000 in
theorem jg22 : [264, 265, 266, 267, 268, 269, 270, 271, 272, 273, 274, 275].all jchkMF = true := by decide +kernel
set_option maxRecDepth 100000 in
theorem jg23 : [276, 277, 278, 279, 280, 281, 282, 283, 284, 285, 286, 287].all jchkMF = true := by decide +kernel
set_option maxRecDepth 100000 in
theorem jg24 : [288, 289, 290, 291, 292, 293, 294, 295, 296, 297, 298, 299].all jchkMF = true := by decide +kernel
set_option maxRecDepth 100000 in
theorem jg25 : [300, 301, 302, 303, 304, 305, 306, 307, 308, 309, 310, 311].all jchkMF = true := by decide +kernel
set_option maxRecDepth 100000 in
theorem jg26 : [312, 313, 314, 315, 316, 317, 318, 319, 320, 321, 322, 323].all jchkMF = true := by decide +kernel
set_option maxRecDepth 100000 in
theorem jg27 : [324, 325, 326, 327, 328, 329, 330, 331, 332, 333, 334, 335].all jchkMF = true := by decide +kernel
set_option maxRecDepth 100000 in
theorem jg28 : [336, 337, 338, 339, 340, 341, 342, 343, 344, 345, 346, 347].all jchkMF = true := by decide +kernel
set_option maxRecDepth 100000 in
theorem jg29 : [348, 349, 350, 351, 352, 353, 354, 355, 356, 357, 358, 359].all jchkMF = true := by decide +kernel
set_option maxRecDepth 100000 in
theorem jg30 : [360, 361, 362, 363, 364, 365, 366, 367, 368, 369, 370, 371].all jchkMF = true := by decide +kernel
set_option maxRecDepth 100000 in
theorem jg31 : [372, 373, 374, 375, 376, 377, 378, 379, 380, 381, 382, 383].all jchkMF = true := by decide +kernel
def jKs : List Nat := [0, 1, 2, 3, 4, 5, 6, 7, 8, 9, 10, 11] ++ ([12, 13, 14, 15, 16, 17, 18, 19, 20, 21, 22, 23] ++ ([24, 25, 26, 27, 28, 29, 30, 31, 32, 33, 34, 35] ++ ([36, 37, 38, 39, 40, 41, 42, 43, 44, 45, 46, 47] ++ ([48, 49, 50, 51, 52, 53, 54, 55, 56, 57, 58, 59] ++ ([60, 61, 62, 63, 64, 65, 66, 67, 68, 69, 70, 71] ++ ([72, 73, 74, 75, 76, 77, 78, 79, 80, 81, 82, 83] ++ ([84, 85, 86, 87, 88, 89, 90, 91, 92, 93, 94, 95] ++ ([96, 97, 98, 99, 100, 101, 102, 103, 104, 105, 106, 107] ++ ([108, 109, 110, 111, 112, 113, 114, 115, 116, 117, 118, 119] ++ ([120, 121, 122, 123, 124, 125, 126, 127, 128, 129, 130, 131] ++ ([132, 133, 134, 135, 136, 137, 138, 139, 140, 141, 142, 143] ++ ([144, 145, 146, 147, 148, 149, 150, 151, 152, 153, 154, 155] ++ ([156, 157, 158, 159, 160, 161, 162, 163, 164, 165, 166, 167] ++ ([168, 169, 170, 171, 172, 173, 174, 175, 176, 177, 178, 179] ++ ([180, 181, 182, 183, 184, 185, 186, 187, 188, 189, 190, 191] ++ ([192, 193, 194, 195, 196, 197, 198, 199, 200, 201, 202, 203] ++ ([204, 205, 206, 207, 208, 209, 210, 211, 212, 213, 214, 215] ++ ([216, 217, 218, 219, 220, 221, 222, 223, 224, 225, 226, 227] ++ ([228, 229, 230, 231, 232, 233, 234, 235, 236, 237, 238, 239] ++ ([240, 241, 242, 243, 244, 245, 246, 247, 248, 249, 250, 251] ++ ([252, 253, 254, 255, 256, 257, 258, 259, 260, 261, 262, 263] ++ ([264, 265, 266, 267, 268, 269, 270, 271, 272, 273, 274, 275] ++ ([276, 277, 278, 279, 280, 281, 282, 283, 284, 285, 286, 287] ++ ([288, 289, 290, 291, 292, 293, 294, 295, 296, 297, 298, 299] ++ ([300, 301, 302, 303, 304, 305, 306, 307, 308, 309, 310, 311] ++ ([312, 313, 314, 315, 316, 317, 318, 319, 320, 321, 322, 323] ++ ([324, 325, 326, 327, 328, 329, 330, 331, 332, 333, 334, 335] ++ ([336, 337, 338, 339, 340, 341, 342, 343, 344, 345, 346, 347] ++ ([348, 349, 350, 351, 352, 353, 354, 355, 356, 357, 358, 359] ++ ([360, 361, 362, 363, 364, 365, 366, 367, 368, 369, 370, 371] ++ ([372, 373, 374, 375, 376, 377, 378, 379, 380, 381, 382, 383])))))))))))))))))))))))))))))))
theorem jKs_all : jKs.all jchkMF = true := by
  unfold jKs
  simp only [List.all_append, jg0, jg1, jg2, jg3, jg4, jg5, jg6, jg7, jg8, jg9, jg10, jg11, jg12, jg13, jg14, jg15, jg16, jg17, jg18, jg19, jg20, jg21, jg22, jg23, jg24, jg25, jg26, jg27, jg28, jg29, jg30, jg31, Bool.and_self]
set_option maxRecDepth 100000 in
theorem jKs_in : (List.range 384).all (fun k => jKs.contains k || (jP k).isEmpty) = true := by decide +kernel
theorem jgood : ∀ k, k < jnM → jP k ≠ [] → jchkM k = true := by
  intro k hk hn
  have h1 := List.all_eq_true.mp jKs_in k (List.mem_range.mpr hk)
  simp only [Bool.or_eq_true, List.contains_iff_mem] at h1
  rcases h1 with h1 | h1
  · exact jchkMF_ok (List.all_eq_true.mp jKs_all k h1)
  · exact absurd (List.isEmpty_iff.mp h1) hn
