section
/-! the law's instructions, by chunks of 32 -/
theorem zQf {c k : Nat} (i : Nat) {M : List zI} {x : zI} (hd : (z_c343.drop c).take 32 = M) (hk : c + i = k) (h : M[i]? = some x) : z_c343[k]? = some x := by
  subst hk
  subst hd
  rw [List.getElem?_take] at h
  split at h
  · rw [List.getElem?_drop] at h
    exact h
  · cases h
noncomputable def zQ_0 : List zI := [(49, 8, 0, 0), (27, 0, 0, 0), (56, 117, 0, 0), (5, 1, 0, 0), (49, 9, 0, 0), (27, 0, 0, 0), (56, 179, 0, 0), (5, 2, 0, 0), (0, 0, 0, 1), (47, 2, 0, 0), (5, 3, 0, 0), (0, 0, 0, 0), (4, 4, 0, 0), (1, 4, 0, 0), (2, 0, 0, 0), (66, 0, 0, 0), (0, 0, 0, 6), (9, 0, 0, 0), (32, 938, 4, 0), (2, 0, 0, 0), (1, 4, 0, 0), (65, 0, 0, 0), (0, 0, 0, 63), (16, 0, 0, 0), (35, 8, 0, 0), (2, 1, 0, 0), (2, 0, 0, 0), (1, 4, 0, 0), (0, 0, 0, 1), (8, 0, 0, 0), (65, 0, 0, 0), (2, 0, 0, 0)]
theorem zQd_0 : (z_c343.drop 0).take 32 = zQ_0 := by decide +kernel
noncomputable def zQ_1 : List zI := [(1, 4, 0, 0), (0, 0, 0, 2), (8, 0, 0, 0), (65, 0, 0, 0), (2, 0, 0, 0), (1, 4, 0, 0), (0, 0, 0, 3), (8, 0, 0, 0), (65, 0, 0, 0), (2, 0, 0, 0), (1, 4, 0, 0), (0, 0, 0, 4), (8, 0, 0, 0), (65, 0, 0, 0), (2, 0, 0, 0), (1, 4, 0, 0), (0, 0, 0, 5), (8, 0, 0, 0), (65, 0, 0, 0), (54, 118, 5, 8), (29, 0, 0, 0), (2, 2, 0, 0), (2, 0, 0, 0), (1, 4, 0, 0), (0, 0, 0, 1), (8, 0, 0, 0), (65, 0, 0, 0), (2, 0, 0, 0), (1, 4, 0, 0), (0, 0, 0, 2), (8, 0, 0, 0), (65, 0, 0, 0)]
theorem zQd_1 : (z_c343.drop 32).take 32 = zQ_1 := by decide +kernel
noncomputable def zQ_2 : List zI := [(2, 0, 0, 0), (1, 4, 0, 0), (0, 0, 0, 3), (8, 0, 0, 0), (65, 0, 0, 0), (2, 0, 0, 0), (1, 4, 0, 0), (0, 0, 0, 4), (8, 0, 0, 0), (65, 0, 0, 0), (2, 0, 0, 0), (1, 4, 0, 0), (0, 0, 0, 5), (8, 0, 0, 0), (65, 0, 0, 0), (54, 199, 5, 9), (29, 0, 0, 0), (30, 936, 0, 0), (2, 1, 0, 0), (2, 0, 0, 0), (1, 4, 0, 0), (0, 0, 0, 1), (8, 0, 0, 0), (65, 0, 0, 0), (54, 119, 1, 8), (29, 0, 0, 0), (2, 2, 0, 0), (2, 0, 0, 0), (1, 4, 0, 0), (0, 0, 0, 1), (8, 0, 0, 0), (65, 0, 0, 0)]
theorem zQd_2 : (z_c343.drop 64).take 32 = zQ_2 := by decide +kernel
noncomputable def zQ_3 : List zI := [(54, 200, 1, 9), (29, 0, 0, 0), (30, 936, 0, 0), (2, 1, 0, 0), (2, 3, 0, 0), (72, 315, 2, 0), (4, 5, 0, 0), (2, 2, 0, 0), (54, 231, 0, 9), (4, 6, 0, 0), (30, 936, 0, 0), (2, 1, 0, 0), (2, 3, 0, 0), (72, 316, 2, 0), (4, 5, 0, 0), (2, 2, 0, 0), (54, 232, 0, 9), (4, 6, 0, 0), (30, 936, 0, 0), (2, 1, 0, 0), (54, 122, 0, 8), (29, 0, 0, 0), (2, 2, 0, 0), (54, 209, 0, 9), (29, 0, 0, 0), (30, 936, 0, 0), (2, 1, 0, 0), (2, 0, 0, 0), (1, 4, 0, 0), (0, 0, 0, 1), (8, 0, 0, 0), (65, 0, 0, 0)]
theorem zQd_3 : (z_c343.drop 96).take 32 = zQ_3 := by decide +kernel
noncomputable def zQ_4 : List zI := [(2, 3, 0, 0), (72, 317, 3, 0), (4, 5, 0, 0), (2, 2, 0, 0), (2, 0, 0, 0), (1, 4, 0, 0), (0, 0, 0, 1), (8, 0, 0, 0), (65, 0, 0, 0), (54, 248, 1, 9), (4, 6, 0, 0), (30, 936, 0, 0), (2, 1, 0, 0), (2, 0, 0, 0), (1, 4, 0, 0), (0, 0, 0, 1), (8, 0, 0, 0), (65, 0, 0, 0), (2, 0, 0, 0), (1, 4, 0, 0), (0, 0, 0, 2), (8, 0, 0, 0), (65, 0, 0, 0), (2, 3, 0, 0), (72, 318, 4, 0), (4, 5, 0, 0), (2, 2, 0, 0), (2, 0, 0, 0), (1, 4, 0, 0), (0, 0, 0, 1), (8, 0, 0, 0), (65, 0, 0, 0)]
theorem zQd_4 : (z_c343.drop 128).take 32 = zQ_4 := by decide +kernel
noncomputable def zQ_5 : List zI := [(2, 0, 0, 0), (1, 4, 0, 0), (0, 0, 0, 2), (8, 0, 0, 0), (65, 0, 0, 0), (54, 249, 2, 9), (4, 6, 0, 0), (30, 936, 0, 0), (2, 1, 0, 0), (2, 0, 0, 0), (1, 4, 0, 0), (0, 0, 0, 1), (8, 0, 0, 0), (65, 0, 0, 0), (2, 0, 0, 0), (1, 4, 0, 0), (0, 0, 0, 2), (8, 0, 0, 0), (65, 0, 0, 0), (2, 0, 0, 0), (1, 4, 0, 0), (0, 0, 0, 3), (8, 0, 0, 0), (65, 0, 0, 0), (2, 3, 0, 0), (72, 319, 5, 0), (4, 5, 0, 0), (2, 2, 0, 0), (2, 0, 0, 0), (1, 4, 0, 0), (0, 0, 0, 1), (8, 0, 0, 0)]
theorem zQd_5 : (z_c343.drop 160).take 32 = zQ_5 := by decide +kernel
noncomputable def zQ_6 : List zI := [(65, 0, 0, 0), (2, 0, 0, 0), (1, 4, 0, 0), (0, 0, 0, 2), (8, 0, 0, 0), (65, 0, 0, 0), (2, 0, 0, 0), (1, 4, 0, 0), (0, 0, 0, 3), (8, 0, 0, 0), (65, 0, 0, 0), (54, 250, 3, 9), (4, 6, 0, 0), (30, 936, 0, 0), (2, 1, 0, 0), (2, 0, 0, 0), (1, 4, 0, 0), (0, 0, 0, 1), (8, 0, 0, 0), (65, 0, 0, 0), (2, 0, 0, 0), (1, 4, 0, 0), (0, 0, 0, 2), (8, 0, 0, 0), (65, 0, 0, 0), (2, 3, 0, 0), (72, 320, 4, 0), (4, 5, 0, 0), (2, 2, 0, 0), (2, 0, 0, 0), (1, 4, 0, 0), (0, 0, 0, 1)]
theorem zQd_6 : (z_c343.drop 192).take 32 = zQ_6 := by decide +kernel
noncomputable def zQ_7 : List zI := [(8, 0, 0, 0), (65, 0, 0, 0), (2, 0, 0, 0), (1, 4, 0, 0), (0, 0, 0, 2), (8, 0, 0, 0), (65, 0, 0, 0), (54, 251, 2, 9), (4, 6, 0, 0), (30, 936, 0, 0), (2, 1, 0, 0), (2, 0, 0, 0), (1, 4, 0, 0), (0, 0, 0, 1), (8, 0, 0, 0), (65, 0, 0, 0), (2, 0, 0, 0), (1, 4, 0, 0), (0, 0, 0, 2), (8, 0, 0, 0), (65, 0, 0, 0), (2, 3, 0, 0), (72, 321, 4, 0), (4, 5, 0, 0), (2, 2, 0, 0), (2, 0, 0, 0), (1, 4, 0, 0), (0, 0, 0, 1), (8, 0, 0, 0), (65, 0, 0, 0), (2, 0, 0, 0), (1, 4, 0, 0)]
theorem zQd_7 : (z_c343.drop 224).take 32 = zQ_7 := by decide +kernel
noncomputable def zQ_8 : List zI := [(0, 0, 0, 2), (8, 0, 0, 0), (65, 0, 0, 0), (54, 252, 2, 9), (4, 6, 0, 0), (30, 936, 0, 0), (2, 1, 0, 0), (2, 0, 0, 0), (1, 4, 0, 0), (0, 0, 0, 1), (8, 0, 0, 0), (65, 0, 0, 0), (2, 0, 0, 0), (1, 4, 0, 0), (0, 0, 0, 2), (8, 0, 0, 0), (65, 0, 0, 0), (2, 3, 0, 0), (72, 322, 4, 0), (4, 5, 0, 0), (2, 2, 0, 0), (2, 0, 0, 0), (1, 4, 0, 0), (0, 0, 0, 1), (8, 0, 0, 0), (65, 0, 0, 0), (2, 0, 0, 0), (1, 4, 0, 0), (0, 0, 0, 2), (8, 0, 0, 0), (65, 0, 0, 0), (54, 253, 2, 9)]
theorem zQd_8 : (z_c343.drop 256).take 32 = zQ_8 := by decide +kernel
noncomputable def zQ_9 : List zI := [(4, 6, 0, 0), (30, 936, 0, 0), (2, 1, 0, 0), (2, 0, 0, 0), (1, 4, 0, 0), (0, 0, 0, 1), (8, 0, 0, 0), (65, 0, 0, 0), (2, 0, 0, 0), (1, 4, 0, 0), (0, 0, 0, 2), (8, 0, 0, 0), (65, 0, 0, 0), (2, 3, 0, 0), (72, 323, 4, 0), (4, 5, 0, 0), (2, 2, 0, 0), (2, 0, 0, 0), (1, 4, 0, 0), (0, 0, 0, 1), (8, 0, 0, 0), (65, 0, 0, 0), (2, 0, 0, 0), (1, 4, 0, 0), (0, 0, 0, 2), (8, 0, 0, 0), (65, 0, 0, 0), (54, 255, 2, 9), (4, 6, 0, 0), (30, 936, 0, 0), (2, 1, 0, 0), (2, 0, 0, 0)]
theorem zQd_9 : (z_c343.drop 288).take 32 = zQ_9 := by decide +kernel
noncomputable def zQ_10 : List zI := [(1, 4, 0, 0), (0, 0, 0, 1), (8, 0, 0, 0), (65, 0, 0, 0), (2, 3, 0, 0), (72, 324, 3, 0), (4, 5, 0, 0), (2, 2, 0, 0), (2, 0, 0, 0), (1, 4, 0, 0), (0, 0, 0, 1), (8, 0, 0, 0), (65, 0, 0, 0), (54, 256, 1, 9), (4, 6, 0, 0), (30, 936, 0, 0), (2, 1, 0, 0), (2, 0, 0, 0), (1, 4, 0, 0), (0, 0, 0, 1), (8, 0, 0, 0), (65, 0, 0, 0), (2, 3, 0, 0), (72, 325, 3, 0), (4, 5, 0, 0), (2, 2, 0, 0), (2, 0, 0, 0), (1, 4, 0, 0), (0, 0, 0, 1), (8, 0, 0, 0), (65, 0, 0, 0), (54, 258, 1, 9)]
theorem zQd_10 : (z_c343.drop 320).take 32 = zQ_10 := by decide +kernel
noncomputable def zQ_11 : List zI := [(4, 6, 0, 0), (2, 2, 0, 0), (54, 344, 0, 9), (1, 5, 0, 0), (32, 359, 0, 0), (0, 0, 0, 0), (50, 0, 0, 0), (1, 5, 0, 0), (31, 370, 1, 0), (2, 3, 0, 0), (0, 0, 0, 0), (34, 0, 0, 0), (1, 6, 0, 0), (19, 0, 0, 0), (26, 0, 0, 0), (31, 370, 0, 0), (0, 0, 0, 0), (50, 0, 0, 0), (30, 936, 0, 0), (2, 1, 0, 0), (2, 0, 0, 0), (1, 4, 0, 0), (0, 0, 0, 1), (8, 0, 0, 0), (65, 0, 0, 0), (2, 3, 0, 0), (72, 326, 3, 0), (4, 5, 0, 0), (2, 2, 0, 0), (2, 0, 0, 0), (1, 4, 0, 0), (0, 0, 0, 1)]
theorem zQd_11 : (z_c343.drop 352).take 32 = zQ_11 := by decide +kernel
noncomputable def zQ_12 : List zI := [(8, 0, 0, 0), (65, 0, 0, 0), (54, 259, 1, 9), (4, 6, 0, 0), (30, 936, 0, 0), (2, 1, 0, 0), (2, 3, 0, 0), (72, 327, 2, 0), (4, 5, 0, 0), (2, 2, 0, 0), (54, 260, 0, 9), (4, 6, 0, 0), (30, 936, 0, 0), (2, 1, 0, 0), (54, 134, 0, 8), (29, 0, 0, 0), (2, 2, 0, 0), (54, 261, 0, 9), (29, 0, 0, 0), (30, 936, 0, 0), (2, 1, 0, 0), (2, 0, 0, 0), (1, 4, 0, 0), (0, 0, 0, 1), (8, 0, 0, 0), (65, 0, 0, 0), (2, 3, 0, 0), (72, 328, 3, 0), (4, 5, 0, 0), (2, 2, 0, 0), (2, 0, 0, 0), (1, 4, 0, 0)]
theorem zQd_12 : (z_c343.drop 384).take 32 = zQ_12 := by decide +kernel
noncomputable def zQ_13 : List zI := [(0, 0, 0, 1), (8, 0, 0, 0), (65, 0, 0, 0), (54, 269, 1, 9), (4, 6, 0, 0), (30, 936, 0, 0), (2, 1, 0, 0), (54, 136, 0, 8), (29, 0, 0, 0), (2, 2, 0, 0), (54, 274, 0, 9), (29, 0, 0, 0), (30, 936, 0, 0), (2, 1, 0, 0), (2, 0, 0, 0), (1, 4, 0, 0), (0, 0, 0, 1), (8, 0, 0, 0), (65, 0, 0, 0), (2, 0, 0, 0), (1, 4, 0, 0), (0, 0, 0, 2), (8, 0, 0, 0), (65, 0, 0, 0), (2, 3, 0, 0), (72, 329, 4, 0), (4, 5, 0, 0), (2, 2, 0, 0), (2, 0, 0, 0), (1, 4, 0, 0), (0, 0, 0, 1), (8, 0, 0, 0)]
theorem zQd_13 : (z_c343.drop 416).take 32 = zQ_13 := by decide +kernel
noncomputable def zQ_14 : List zI := [(65, 0, 0, 0), (2, 0, 0, 0), (1, 4, 0, 0), (0, 0, 0, 2), (8, 0, 0, 0), (65, 0, 0, 0), (54, 277, 2, 9), (4, 6, 0, 0), (30, 936, 0, 0), (2, 1, 0, 0), (54, 138, 0, 8), (29, 0, 0, 0), (2, 2, 0, 0), (54, 279, 0, 9), (29, 0, 0, 0), (30, 936, 0, 0), (2, 1, 0, 0), (54, 139, 0, 8), (29, 0, 0, 0), (2, 2, 0, 0), (54, 288, 0, 9), (29, 0, 0, 0), (30, 936, 0, 0), (2, 1, 0, 0), (54, 140, 0, 8), (29, 0, 0, 0), (2, 2, 0, 0), (54, 290, 0, 9), (29, 0, 0, 0), (30, 936, 0, 0), (2, 1, 0, 0), (54, 141, 0, 8)]
theorem zQd_14 : (z_c343.drop 448).take 32 = zQ_14 := by decide +kernel
noncomputable def zQ_15 : List zI := [(29, 0, 0, 0), (2, 2, 0, 0), (54, 281, 0, 9), (29, 0, 0, 0), (30, 936, 0, 0), (2, 1, 0, 0), (2, 0, 0, 0), (1, 4, 0, 0), (0, 0, 0, 1), (8, 0, 0, 0), (65, 0, 0, 0), (54, 142, 1, 8), (29, 0, 0, 0), (2, 2, 0, 0), (2, 0, 0, 0), (1, 4, 0, 0), (0, 0, 0, 1), (8, 0, 0, 0), (65, 0, 0, 0), (54, 293, 1, 9), (29, 0, 0, 0), (30, 936, 0, 0), (2, 1, 0, 0), (2, 0, 0, 0), (1, 4, 0, 0), (0, 0, 0, 1), (8, 0, 0, 0), (65, 0, 0, 0), (2, 0, 0, 0), (1, 4, 0, 0), (0, 0, 0, 2), (8, 0, 0, 0)]
theorem zQd_15 : (z_c343.drop 480).take 32 = zQ_15 := by decide +kernel
noncomputable def zQ_16 : List zI := [(65, 0, 0, 0), (2, 3, 0, 0), (72, 330, 4, 0), (4, 5, 0, 0), (2, 2, 0, 0), (2, 0, 0, 0), (1, 4, 0, 0), (0, 0, 0, 1), (8, 0, 0, 0), (65, 0, 0, 0), (2, 0, 0, 0), (1, 4, 0, 0), (0, 0, 0, 2), (8, 0, 0, 0), (65, 0, 0, 0), (54, 295, 2, 9), (4, 6, 0, 0), (30, 936, 0, 0), (2, 1, 0, 0), (2, 0, 0, 0), (1, 4, 0, 0), (0, 0, 0, 1), (8, 0, 0, 0), (65, 0, 0, 0), (2, 3, 0, 0), (72, 331, 3, 0), (4, 5, 0, 0), (2, 2, 0, 0), (2, 0, 0, 0), (1, 4, 0, 0), (0, 0, 0, 1), (8, 0, 0, 0)]
theorem zQd_16 : (z_c343.drop 512).take 32 = zQ_16 := by decide +kernel
noncomputable def zQ_17 : List zI := [(65, 0, 0, 0), (54, 283, 1, 9), (4, 6, 0, 0), (30, 936, 0, 0), (2, 1, 0, 0), (2, 0, 0, 0), (1, 4, 0, 0), (0, 0, 0, 1), (8, 0, 0, 0), (65, 0, 0, 0), (2, 0, 0, 0), (1, 4, 0, 0), (0, 0, 0, 2), (8, 0, 0, 0), (65, 0, 0, 0), (2, 0, 0, 0), (1, 4, 0, 0), (0, 0, 0, 3), (8, 0, 0, 0), (65, 0, 0, 0), (2, 3, 0, 0), (72, 332, 5, 0), (4, 5, 0, 0), (2, 2, 0, 0), (2, 0, 0, 0), (1, 4, 0, 0), (0, 0, 0, 1), (8, 0, 0, 0), (65, 0, 0, 0), (2, 0, 0, 0), (1, 4, 0, 0), (0, 0, 0, 2)]
theorem zQd_17 : (z_c343.drop 544).take 32 = zQ_17 := by decide +kernel
noncomputable def zQ_18 : List zI := [(8, 0, 0, 0), (65, 0, 0, 0), (2, 0, 0, 0), (1, 4, 0, 0), (0, 0, 0, 3), (8, 0, 0, 0), (65, 0, 0, 0), (54, 297, 3, 9), (4, 6, 0, 0), (30, 936, 0, 0), (2, 1, 0, 0), (2, 0, 0, 0), (1, 4, 0, 0), (0, 0, 0, 1), (8, 0, 0, 0), (65, 0, 0, 0), (31, 595, 0, 0), (0, 0, 0, 1), (30, 596, 0, 0), (0, 0, 0, 0), (2, 3, 0, 0), (72, 333, 3, 0), (4, 5, 0, 0), (2, 2, 0, 0), (2, 0, 0, 0), (1, 4, 0, 0), (0, 0, 0, 1), (8, 0, 0, 0), (65, 0, 0, 0), (31, 608, 0, 0), (0, 0, 0, 1), (30, 609, 0, 0)]
theorem zQd_18 : (z_c343.drop 576).take 32 = zQ_18 := by decide +kernel
noncomputable def zQ_19 : List zI := [(0, 0, 0, 0), (54, 299, 1, 9), (4, 6, 0, 0), (30, 936, 0, 0), (2, 1, 0, 0), (54, 147, 0, 8), (29, 0, 0, 0), (2, 2, 0, 0), (54, 300, 0, 9), (29, 0, 0, 0), (30, 936, 0, 0), (2, 1, 0, 0), (54, 148, 0, 8), (29, 0, 0, 0), (2, 2, 0, 0), (54, 278, 0, 9), (29, 0, 0, 0), (30, 936, 0, 0), (2, 1, 0, 0), (2, 0, 0, 0), (1, 4, 0, 0), (0, 0, 0, 1), (8, 0, 0, 0), (65, 0, 0, 0), (2, 3, 0, 0), (72, 334, 3, 0), (4, 5, 0, 0), (2, 2, 0, 0), (2, 0, 0, 0), (1, 4, 0, 0), (0, 0, 0, 1), (8, 0, 0, 0)]
theorem zQd_19 : (z_c343.drop 608).take 32 = zQ_19 := by decide +kernel
noncomputable def zQ_20 : List zI := [(65, 0, 0, 0), (54, 284, 1, 9), (4, 6, 0, 0), (30, 936, 0, 0), (2, 1, 0, 0), (54, 150, 0, 8), (29, 0, 0, 0), (2, 2, 0, 0), (54, 280, 0, 9), (29, 0, 0, 0), (30, 936, 0, 0), (2, 1, 0, 0), (2, 0, 0, 0), (1, 4, 0, 0), (0, 0, 0, 1), (8, 0, 0, 0), (65, 0, 0, 0), (2, 0, 0, 0), (1, 4, 0, 0), (0, 0, 0, 2), (8, 0, 0, 0), (65, 0, 0, 0), (2, 3, 0, 0), (72, 335, 4, 0), (4, 5, 0, 0), (2, 2, 0, 0), (2, 0, 0, 0), (1, 4, 0, 0), (0, 0, 0, 1), (8, 0, 0, 0), (65, 0, 0, 0), (2, 0, 0, 0)]
theorem zQd_20 : (z_c343.drop 640).take 32 = zQ_20 := by decide +kernel
noncomputable def zQ_21 : List zI := [(1, 4, 0, 0), (0, 0, 0, 2), (8, 0, 0, 0), (65, 0, 0, 0), (54, 270, 2, 9), (4, 6, 0, 0), (30, 936, 0, 0), (2, 1, 0, 0), (2, 0, 0, 0), (1, 4, 0, 0), (0, 0, 0, 1), (8, 0, 0, 0), (65, 0, 0, 0), (2, 3, 0, 0), (72, 336, 3, 0), (4, 5, 0, 0), (2, 2, 0, 0), (2, 0, 0, 0), (1, 4, 0, 0), (0, 0, 0, 1), (8, 0, 0, 0), (65, 0, 0, 0), (54, 271, 1, 9), (4, 6, 0, 0), (30, 936, 0, 0), (2, 1, 0, 0), (2, 0, 0, 0), (1, 4, 0, 0), (0, 0, 0, 1), (8, 0, 0, 0), (65, 0, 0, 0), (2, 3, 0, 0)]
theorem zQd_21 : (z_c343.drop 672).take 32 = zQ_21 := by decide +kernel
noncomputable def zQ_22 : List zI := [(72, 337, 3, 0), (4, 5, 0, 0), (2, 2, 0, 0), (2, 0, 0, 0), (1, 4, 0, 0), (0, 0, 0, 1), (8, 0, 0, 0), (65, 0, 0, 0), (54, 272, 1, 9), (4, 6, 0, 0), (30, 936, 0, 0), (2, 1, 0, 0), (2, 0, 0, 0), (1, 4, 0, 0), (0, 0, 0, 1), (8, 0, 0, 0), (65, 0, 0, 0), (2, 3, 0, 0), (72, 338, 3, 0), (4, 5, 0, 0), (2, 2, 0, 0), (2, 0, 0, 0), (1, 4, 0, 0), (0, 0, 0, 1), (8, 0, 0, 0), (65, 0, 0, 0), (54, 273, 1, 9), (4, 6, 0, 0), (30, 936, 0, 0), (2, 1, 0, 0), (54, 155, 0, 8), (29, 0, 0, 0)]
theorem zQd_22 : (z_c343.drop 704).take 32 = zQ_22 := by decide +kernel
noncomputable def zQ_23 : List zI := [(2, 2, 0, 0), (54, 301, 0, 9), (29, 0, 0, 0), (30, 936, 0, 0), (2, 1, 0, 0), (54, 156, 0, 8), (29, 0, 0, 0), (2, 2, 0, 0), (54, 302, 0, 9), (29, 0, 0, 0), (30, 936, 0, 0), (2, 1, 0, 0), (2, 0, 0, 0), (1, 4, 0, 0), (0, 0, 0, 1), (8, 0, 0, 0), (65, 0, 0, 0), (2, 0, 0, 0), (1, 4, 0, 0), (0, 0, 0, 2), (8, 0, 0, 0), (65, 0, 0, 0), (31, 761, 0, 0), (0, 0, 0, 1), (30, 762, 0, 0), (0, 0, 0, 0), (2, 3, 0, 0), (72, 339, 4, 0), (4, 5, 0, 0), (2, 2, 0, 0), (2, 0, 0, 0), (1, 4, 0, 0)]
theorem zQd_23 : (z_c343.drop 736).take 32 = zQ_23 := by decide +kernel
noncomputable def zQ_24 : List zI := [(0, 0, 0, 1), (8, 0, 0, 0), (65, 0, 0, 0), (2, 0, 0, 0), (1, 4, 0, 0), (0, 0, 0, 2), (8, 0, 0, 0), (65, 0, 0, 0), (31, 779, 0, 0), (0, 0, 0, 1), (30, 780, 0, 0), (0, 0, 0, 0), (54, 304, 2, 9), (4, 6, 0, 0), (30, 936, 0, 0), (2, 1, 0, 0), (2, 0, 0, 0), (1, 4, 0, 0), (0, 0, 0, 1), (8, 0, 0, 0), (65, 0, 0, 0), (2, 0, 0, 0), (1, 4, 0, 0), (0, 0, 0, 2), (8, 0, 0, 0), (65, 0, 0, 0), (31, 797, 0, 0), (0, 0, 0, 1), (30, 798, 0, 0), (0, 0, 0, 0), (2, 3, 0, 0), (72, 340, 4, 0)]
theorem zQd_24 : (z_c343.drop 768).take 32 = zQ_24 := by decide +kernel
noncomputable def zQ_25 : List zI := [(4, 5, 0, 0), (2, 2, 0, 0), (2, 0, 0, 0), (1, 4, 0, 0), (0, 0, 0, 1), (8, 0, 0, 0), (65, 0, 0, 0), (2, 0, 0, 0), (1, 4, 0, 0), (0, 0, 0, 2), (8, 0, 0, 0), (65, 0, 0, 0), (31, 815, 0, 0), (0, 0, 0, 1), (30, 816, 0, 0), (0, 0, 0, 0), (54, 305, 2, 9), (4, 6, 0, 0), (30, 936, 0, 0), (2, 1, 0, 0), (2, 0, 0, 0), (1, 4, 0, 0), (0, 0, 0, 1), (8, 0, 0, 0), (65, 0, 0, 0), (2, 0, 0, 0), (1, 4, 0, 0), (0, 0, 0, 2), (8, 0, 0, 0), (65, 0, 0, 0), (31, 833, 0, 0), (0, 0, 0, 1)]
theorem zQd_25 : (z_c343.drop 800).take 32 = zQ_25 := by decide +kernel
noncomputable def zQ_26 : List zI := [(30, 834, 0, 0), (0, 0, 0, 0), (2, 3, 0, 0), (72, 341, 4, 0), (4, 5, 0, 0), (2, 2, 0, 0), (2, 0, 0, 0), (1, 4, 0, 0), (0, 0, 0, 1), (8, 0, 0, 0), (65, 0, 0, 0), (2, 0, 0, 0), (1, 4, 0, 0), (0, 0, 0, 2), (8, 0, 0, 0), (65, 0, 0, 0), (31, 851, 0, 0), (0, 0, 0, 1), (30, 852, 0, 0), (0, 0, 0, 0), (54, 307, 2, 9), (4, 6, 0, 0), (30, 936, 0, 0), (2, 1, 0, 0), (2, 0, 0, 0), (1, 4, 0, 0), (0, 0, 0, 1), (8, 0, 0, 0), (65, 0, 0, 0), (2, 0, 0, 0), (1, 4, 0, 0), (0, 0, 0, 2)]
theorem zQd_26 : (z_c343.drop 832).take 32 = zQ_26 := by decide +kernel
noncomputable def zQ_27 : List zI := [(8, 0, 0, 0), (65, 0, 0, 0), (2, 3, 0, 0), (72, 342, 4, 0), (4, 5, 0, 0), (2, 2, 0, 0), (2, 0, 0, 0), (1, 4, 0, 0), (0, 0, 0, 1), (8, 0, 0, 0), (65, 0, 0, 0), (2, 0, 0, 0), (1, 4, 0, 0), (0, 0, 0, 2), (8, 0, 0, 0), (65, 0, 0, 0), (54, 308, 2, 9), (4, 6, 0, 0), (30, 936, 0, 0), (2, 1, 0, 0), (2, 0, 0, 0), (1, 4, 0, 0), (0, 0, 0, 1), (8, 0, 0, 0), (65, 0, 0, 0), (54, 161, 1, 8), (29, 0, 0, 0), (2, 2, 0, 0), (2, 0, 0, 0), (1, 4, 0, 0), (0, 0, 0, 1), (8, 0, 0, 0)]
theorem zQd_27 : (z_c343.drop 864).take 32 = zQ_27 := by decide +kernel
noncomputable def zQ_28 : List zI := [(65, 0, 0, 0), (54, 309, 1, 9), (29, 0, 0, 0), (30, 936, 0, 0), (2, 1, 0, 0), (54, 162, 0, 8), (29, 0, 0, 0), (2, 2, 0, 0), (54, 183, 0, 9), (29, 0, 0, 0), (30, 936, 0, 0), (2, 1, 0, 0), (54, 163, 0, 8), (2, 2, 0, 0), (54, 180, 0, 9), (30, 936, 0, 0), (2, 1, 0, 0), (54, 164, 0, 8), (29, 0, 0, 0), (2, 2, 0, 0), (54, 181, 0, 9), (29, 0, 0, 0), (30, 936, 0, 0), (2, 1, 0, 0), (2, 0, 0, 0), (1, 4, 0, 0), (0, 0, 0, 1), (8, 0, 0, 0), (65, 0, 0, 0), (54, 165, 1, 8), (29, 0, 0, 0), (2, 2, 0, 0)]
theorem zQd_28 : (z_c343.drop 896).take 32 = zQ_28 := by decide +kernel
noncomputable def zQ_29 : List zI := [(2, 0, 0, 0), (1, 4, 0, 0), (0, 0, 0, 1), (8, 0, 0, 0), (65, 0, 0, 0), (54, 310, 1, 9), (29, 0, 0, 0), (30, 936, 0, 0), (7, 4, 0, 6), (30, 13, 0, 0), (0, 0, 0, 1), (50, 0, 0, 0)]
theorem zQd_29 : (z_c343.drop 928).take 32 = zQ_29 := by decide +kernel
end
section
/-! the law's cases 0 to 11; printed with wip/gen/gen_law.py -/
set_option maxRecDepth 100000 in
theorem zcs_0 {sx : zX} {d : Nat} {ty : List Nat} {lo : zL} {h : zH} {Ψ : zO → zH → Nat → Nat → Prop} {ax am ao i : Nat} {N : Int} (H : ∀ (c : Nat) (c' : zCt), zCtl[c]? = some c' → zVd z_tt zE1 c') (hd : 60 ≤ d) (hi : i + 6 ≤ sx.1) (hL : sx.1 ≤ 3072) (hB : h.length + 6 ≤ zB) (I : zIw ty h ax am ao N) (Lv : zLv lo ax am ao i) (K : zKc sx d ax am ao i h Ψ) : z_ok sx d 343 25 lo [] h Ψ := by
  refine zh_ald zJ_343 (k' := 26) (zQf (k := 25) 25 zQd_0 rfl rfl) rfl Lv.2.1 ?_
  refine zscr 26 27 28 29 30 31 1 (zQf (k := 26) 26 zQd_0 rfl rfl) (zQf (k := 27) 27 zQd_0 rfl rfl) (zQf (k := 28) 28 zQd_0 rfl rfl) (zQf (k := 29) 29 zQd_0 rfl rfl) (zQf (k := 30) 30 zQd_0 rfl rfl) rfl rfl rfl rfl rfl rfl (by omega) Lv hi hL (fun v0 ev0 => ?_)
  refine zscr 31 32 33 34 35 36 2 (zQf (k := 31) 31 zQd_0 rfl rfl) (zQf (k := 32) 0 zQd_1 rfl rfl) (zQf (k := 33) 1 zQd_1 rfl rfl) (zQf (k := 34) 2 zQd_1 rfl rfl) (zQf (k := 35) 3 zQd_1 rfl rfl) rfl rfl rfl rfl rfl rfl (by omega) Lv hi hL (fun v1 ev1 => ?_)
  refine zscr 36 37 38 39 40 41 3 (zQf (k := 36) 4 zQd_1 rfl rfl) (zQf (k := 37) 5 zQd_1 rfl rfl) (zQf (k := 38) 6 zQd_1 rfl rfl) (zQf (k := 39) 7 zQd_1 rfl rfl) (zQf (k := 40) 8 zQd_1 rfl rfl) rfl rfl rfl rfl rfl rfl (by omega) Lv hi hL (fun v2 ev2 => ?_)
  refine zscr 41 42 43 44 45 46 4 (zQf (k := 41) 9 zQd_1 rfl rfl) (zQf (k := 42) 10 zQd_1 rfl rfl) (zQf (k := 43) 11 zQd_1 rfl rfl) (zQf (k := 44) 12 zQd_1 rfl rfl) (zQf (k := 45) 13 zQd_1 rfl rfl) rfl rfl rfl rfl rfl rfl (by omega) Lv hi hL (fun v3 ev3 => ?_)
  refine zscr 46 47 48 49 50 51 5 (zQf (k := 46) 14 zQd_1 rfl rfl) (zQf (k := 47) 15 zQd_1 rfl rfl) (zQf (k := 48) 16 zQd_1 rfl rfl) (zQf (k := 49) 17 zQd_1 rfl rfl) (zQf (k := 50) 18 zQd_1 rfl rfl) rfl rfl rfl rfl rfl rfl (by omega) Lv hi hL (fun v4 ev4 => ?_)
  obtain ⟨fs0, he0, -⟩ := zcell0 (c := 8) (n := 8) I.1 I.2.2.1 rfl rfl rfl
  obtain ⟨tq, Q0⟩ := I.2.2.2.2.2.1.q I.2.2.1
  refine zlrun (as := [.ref ax, .int v0, .int v1, .int v2, .int v3, .int v4]) (i := (54, 118, 5, 8)) (zQf (k := 51) 19 zQd_1 rfl rfl) (k' := 52) rfl (by decide) (zcal54 (xs := [.int v4, .int v3, .int v2, .int v1, .int v0]) (rest := []) (by omega) rfl rfl he0 rfl (Nat.le_of_ble_eq_true rfl) (M' := z_m118) rfl (Nat.le_of_ble_eq_true rfl)) (z_ok.lenq (by decide +kernel) (sq_118.ok (zTY_kh I.1) rfl rfl (zS_118 (sx := sx) (d := d - 1) (fun c hc c' hc' => H c c' hc') (by omega) I.1 I.2.1 Q0 I.2.2.2.2.2.2.2.1 I.b2))) (fun o1 h1 x1 y1 q1 l1 => ?_)
  obtain ⟨⟨⟨w1, rfl, rfl, rfl, c1, ty1, rfl, X1, T1, E1, F1, R1⟩, -, G1⟩, hq1⟩ := q1
  have G1 : p_118 ax v0 v1 v2 v3 v4 (za h) c1 (za h1) := by
    obtain ⟨r9, er9, g9⟩ := G1
    have er9 : r9 = c1 := by cases er9; rfl
    rw [er9] at g9
    exact g9
  refine ⟨_, rfl, ?_⟩
  have ha1 := X1 ax 1 I.2.2.1
  have hm1 := X1 am 20 I.2.2.2.1
  have ho1 := X1 ao 33 I.2.2.2.2.1
  have M1 := I.2.2.2.2.2.2.1.keep I.2.2.2.1 T1 X1 F1 (zNin _ _ _ (by decide +kernel))
  have Lt1 := I.lt.keep I.1 T1 X1 hq1
  have Hd1 := I.hd.keep I.1 T1 I.lx.2.1 X1 I.lt F1 hq1 (by decide +kernel)
  show z_ok sx d 343 52 lo [.int c1] h1 _
  refine zpop (zQf (k := 52) 20 zQd_1 rfl rfl) (k' := 53) rfl ?_
  refine zh_ald zJ_343 (k' := 54) (zQf (k := 53) 21 zQd_1 rfl rfl) rfl Lv.2.2.1 ?_
  refine zscr 54 55 56 57 58 59 1 (zQf (k := 54) 22 zQd_1 rfl rfl) (zQf (k := 55) 23 zQd_1 rfl rfl) (zQf (k := 56) 24 zQd_1 rfl rfl) (zQf (k := 57) 25 zQd_1 rfl rfl) (zQf (k := 58) 26 zQd_1 rfl rfl) rfl rfl rfl rfl rfl rfl (by omega) Lv hi hL (fun v5 ev5 => ?_)
  refine zscr 59 60 61 62 63 64 2 (zQf (k := 59) 27 zQd_1 rfl rfl) (zQf (k := 60) 28 zQd_1 rfl rfl) (zQf (k := 61) 29 zQd_1 rfl rfl) (zQf (k := 62) 30 zQd_1 rfl rfl) (zQf (k := 63) 31 zQd_1 rfl rfl) rfl rfl rfl rfl rfl rfl (by omega) Lv hi hL (fun v6 ev6 => ?_)
  refine zscr 64 65 66 67 68 69 3 (zQf (k := 64) 0 zQd_2 rfl rfl) (zQf (k := 65) 1 zQd_2 rfl rfl) (zQf (k := 66) 2 zQd_2 rfl rfl) (zQf (k := 67) 3 zQd_2 rfl rfl) (zQf (k := 68) 4 zQd_2 rfl rfl) rfl rfl rfl rfl rfl rfl (by omega) Lv hi hL (fun v7 ev7 => ?_)
  refine zscr 69 70 71 72 73 74 4 (zQf (k := 69) 5 zQd_2 rfl rfl) (zQf (k := 70) 6 zQd_2 rfl rfl) (zQf (k := 71) 7 zQd_2 rfl rfl) (zQf (k := 72) 8 zQd_2 rfl rfl) (zQf (k := 73) 9 zQd_2 rfl rfl) rfl rfl rfl rfl rfl rfl (by omega) Lv hi hL (fun v8 ev8 => ?_)
  refine zscr 74 75 76 77 78 79 5 (zQf (k := 74) 10 zQd_2 rfl rfl) (zQf (k := 75) 11 zQd_2 rfl rfl) (zQf (k := 76) 12 zQd_2 rfl rfl) (zQf (k := 77) 13 zQd_2 rfl rfl) (zQf (k := 78) 14 zQd_2 rfl rfl) rfl rfl rfl rfl rfl rfl (by omega) Lv hi hL (fun v9 ev9 => ?_)
  obtain ⟨fs1, he1, -⟩ := zcell0 (c := 9) (n := 23) T1 hm1 rfl rfl rfl
  refine zlrun (as := [.ref am, .int v5, .int v6, .int v7, .int v8, .int v9]) (i := (54, 199, 5, 9)) (zQf (k := 79) 15 zQd_2 rfl rfl) (k' := 80) rfl (by decide) (zcal54 (xs := [.int v9, .int v8, .int v7, .int v6, .int v5]) (rest := []) (by omega) rfl rfl he1 rfl (Nat.le_of_ble_eq_true rfl) (M' := z_m199) rfl (Nat.le_of_ble_eq_true rfl)) (z_ok.lenq (by decide +kernel) (sq_199.ok (zTY_kh T1) rfl rfl (zS_199 (sx := sx) (d := d - 1) (fun c hc c' hc' => H c c' hc') T1 E1 hm1 M1 I.2.2.2.2.2.2.2.1 I.b2))) (fun o2 h2 x2 y2 q2 l2 => ?_)
  obtain ⟨⟨⟨w2, rfl, rfl, rfl, c2, ty2, rfl, X2, T2, E2, F2, R2⟩, -, G2⟩, hq2⟩ := q2
  have G2 : p_199 am v5 v6 v7 v8 v9 (za h1) c2 (za h2) := by
    obtain ⟨r9, er9, g9⟩ := G2
    have er9 : r9 = c2 := by cases er9; rfl
    rw [er9] at g9
    exact g9
  have ee0 : v5 = v0 := by rw [ev5, ev0]
  have ee1 : v6 = v1 := by rw [ev6, ev1]
  have ee2 : v7 = v2 := by rw [ev7, ev2]
  have ee3 : v8 = v3 := by rw [ev8, ev3]
  have ee4 : v9 = v4 := by rw [ev9, ev4]
  rw [ee0, ee1, ee2, ee3, ee4] at G2
  have X01 : zExt zty1 ty1 := fun a t ha => X1 a t (I.lx.2.1 a t ha)
  have Lx2 : zLxt ty2 h2 ax am ao := by
    obtain ⟨⟨rfl, rfl, rfl⟩, X0, S, Y⟩ := I.lx
    obtain ⟨E0, eN, w1, w9⟩ := zL5_of I.2.2.2.2.2.1 I.2.2.2.2.2.2.1 I.2.2.2.2.2.2.2.1 S
    have S1 := S.keep I.1 T1 F1 X0 (by decide +kernel)
    have S2 := S1.keep T1 T2 F2 X01 (by decide +kernel)
    exact ⟨⟨rfl, rfl, rfl⟩, fun a t ha => X2 a t (X01 a t ha), S2, zfeed_by I.1 T1 T2 X0 X01 S S1 S2 Y F1 F2 w1 w9 (by have := I.b2; omega) G1 G2⟩
  have Lt2 := Lt1.keep T1 T2 X2 hq2
  have Hd2 := Hd1.keep T1 T2 X01 X2 Lt1 F2 hq2 (by decide +kernel)
  refine ⟨_, rfl, ?_⟩
  have n10 : ¬ zIn [(20, 0, 0), (20, 9, 9), (26, 0, 399), (27, 0, 4)] 1 0 := zNin _ _ _ (by decide +kernel)
  have n21 : ¬ zIn [(20, 0, 0), (20, 9, 9), (26, 0, 399), (27, 0, 4)] 2 1 := zNin _ _ _ (by decide +kernel)
  have ec : c1.toInt = c2.toInt := by
    rcases R1 with R1 | R1 <;> rcases R2 with R2 | R2 <;> omega
  have I2 : ∃ N', zIw ty2 h2 ax am ao N' := by
    rcases R1 with ⟨r1, r2, r3⟩ | ⟨r1, r2, r3⟩ <;> rcases R2 with ⟨s1, s2, s3⟩ | ⟨s1, s2, s3⟩
    · exact ⟨N + 20, T2, E2, X2 ax 1 ha1, X2 am 20 hm1, X2 ao 33 ho1, r3.keep ha1 T2 X2 F2 n10 n21, s3, by have := I.2.2.2.2.2.2.2.1; omega, r1, Lx2, Lt2, Hd2⟩
    · omega
    · omega
    · exact ⟨N, T2, E2, X2 ax 1 ha1, X2 am 20 hm1, X2 ao 33 ho1, r3.keep ha1 T2 X2 F2 n10 n21, s3, I.2.2.2.2.2.2.2.1, I.b2, Lx2, Lt2, Hd2⟩
  obtain ⟨N', I2⟩ := I2
  show z_ok sx d 343 80 lo [.int c2] h2 _
  refine zpop (zQf (k := 80) 16 zQd_2 rfl rfl) (k' := 81) rfl ?_
  refine zgoto (zQf (k := 81) 17 zQd_2 rfl rfl) ?_
  exact K.use I2 Lv (by omega) (by omega) (by omega)
set_option maxRecDepth 100000 in
theorem zcs_1 {sx : zX} {d : Nat} {ty : List Nat} {lo : zL} {h : zH} {Ψ : zO → zH → Nat → Nat → Prop} {ax am ao i : Nat} {N : Int} (H : ∀ (c : Nat) (c' : zCt), zCtl[c]? = some c' → zVd z_tt zE1 c') (hd : 60 ≤ d) (hi : i + 6 ≤ sx.1) (hL : sx.1 ≤ 3072) (hB : h.length + 6 ≤ zB) (I : zIw ty h ax am ao N) (Lv : zLv lo ax am ao i) (K : zKc sx d ax am ao i h Ψ) : z_ok sx d 343 82 lo [] h Ψ := by
  refine zh_ald zJ_343 (k' := 83) (zQf (k := 82) 18 zQd_2 rfl rfl) rfl Lv.2.1 ?_
  refine zscr 83 84 85 86 87 88 1 (zQf (k := 83) 19 zQd_2 rfl rfl) (zQf (k := 84) 20 zQd_2 rfl rfl) (zQf (k := 85) 21 zQd_2 rfl rfl) (zQf (k := 86) 22 zQd_2 rfl rfl) (zQf (k := 87) 23 zQd_2 rfl rfl) rfl rfl rfl rfl rfl rfl (by omega) Lv hi hL (fun v0 ev0 => ?_)
  obtain ⟨fs0, he0, -⟩ := zcell0 (c := 8) (n := 8) I.1 I.2.2.1 rfl rfl rfl
  obtain ⟨tq, Q0⟩ := I.2.2.2.2.2.1.q I.2.2.1
  refine zlrun (as := [.ref ax, .int v0]) (i := (54, 119, 1, 8)) (zQf (k := 88) 24 zQd_2 rfl rfl) (k' := 89) rfl (by decide) (zcal54 (xs := [.int v0]) (rest := []) (by omega) rfl rfl he0 rfl (Nat.le_of_ble_eq_true rfl) (M' := z_m119) rfl (Nat.le_of_ble_eq_true rfl)) (z_ok.lenq (by decide +kernel) (zS_119 (sx := sx) (d := d - 1) I.1 I.2.1 Q0 I.b2)) (fun o1 h1 x1 y1 q1 l1 => ?_)
  obtain ⟨⟨w1, rfl, rfl, rfl, c1, rfl, T1, E1, F1, R1⟩, hq1⟩ := q1
  refine ⟨_, rfl, ?_⟩
  have M1 := I.2.2.2.2.2.2.1.keep I.2.2.2.1 T1 zExt.rf F1 (zNin _ _ _ (by decide +kernel))
  have Lx1 := I.lx.keep I.1 T1 zExt.rf F1 (by decide +kernel)
  have Hd1 := I.hd.keep I.1 T1 I.lx.2.1 zExt.rf I.lt F1 hq1 (by decide +kernel)
  show z_ok sx d 343 89 lo [.int c1] h1 _
  refine zpop (zQf (k := 89) 25 zQd_2 rfl rfl) (k' := 90) rfl ?_
  refine zh_ald zJ_343 (k' := 91) (zQf (k := 90) 26 zQd_2 rfl rfl) rfl Lv.2.2.1 ?_
  refine zscr 91 92 93 94 95 96 1 (zQf (k := 91) 27 zQd_2 rfl rfl) (zQf (k := 92) 28 zQd_2 rfl rfl) (zQf (k := 93) 29 zQd_2 rfl rfl) (zQf (k := 94) 30 zQd_2 rfl rfl) (zQf (k := 95) 31 zQd_2 rfl rfl) rfl rfl rfl rfl rfl rfl (by omega) Lv hi hL (fun v1 ev1 => ?_)
  obtain ⟨fs1, he1, -⟩ := zcell0 (c := 9) (n := 23) T1 I.2.2.2.1 rfl rfl rfl
  have ev : v1 = v0 := ev1.trans ev0.symm
  subst ev
  refine zlrun (as := [.ref am, .int v1]) (i := (54, 200, 1, 9)) (zQf (k := 96) 0 zQd_3 rfl rfl) (k' := 97) rfl (by decide) (zcal54 (xs := [.int v1]) (rest := []) (by omega) rfl rfl he1 rfl (Nat.le_of_ble_eq_true rfl) (M' := z_m200) rfl (Nat.le_of_ble_eq_true rfl)) (z_ok.lenq (by decide +kernel) (zS_200 (sx := sx) (d := d - 1) T1 E1 I.2.2.2.1 M1 I.b2)) (fun o2 h2 x2 y2 q2 l2 => ?_)
  obtain ⟨⟨w2, rfl, rfl, rfl, c2, rfl, T2, E2, F2, R2⟩, hq2⟩ := q2
  refine ⟨_, rfl, ?_⟩
  have Lx2 := Lx1.keep T1 T2 zExt.rf F2 (by decide +kernel)
  have Hd2 := Hd1.keep T1 T2 Lx1.2.1 zExt.rf I.lt F2 hq2 (by decide +kernel)
  have Lt2 := I.lt
  have n10 : ¬ zIn [(20, 0, 0), (20, 9, 9)] 1 0 := zNin _ _ _ (by decide +kernel)
  have n21 : ¬ zIn [(20, 0, 0), (20, 9, 9)] 2 1 := zNin _ _ _ (by decide +kernel)
  have b1 := I.2.2.2.2.2.2.2.1
  have b2 := I.b2
  have ec : c1.toInt = c2.toInt := by
    rcases R1 with ⟨r1, k1, r3⟩ | ⟨r1, k1, r3⟩ <;> rcases R2 with ⟨s1, k2, s3⟩ | ⟨s1, k2, s3⟩
    · rw [k1, k2]
    · exact absurd r1 s1
    · exact absurd s1 r1
    · rw [k1, k2]
  have I2 : ∃ N', zIw ty h2 ax am ao N' := by
    rcases R1 with ⟨r1, -, r3⟩ | ⟨r1, -, r3⟩ <;> rcases R2 with ⟨s1, -, s3⟩ | ⟨s1, -, s3⟩
    · exact ⟨_, T2, E2, I.2.2.1, I.2.2.2.1, I.2.2.2.2.1, r3.keep I.2.2.1 T2 zExt.rf F2 n10 n21, s3, by omega, by omega, Lx2, Lt2, Hd2⟩
    · exact absurd r1 s1
    · exact absurd s1 r1
    · exact ⟨N, T2, E2, I.2.2.1, I.2.2.2.1, I.2.2.2.2.1, r3.keep I.2.2.1 T2 zExt.rf F2 n10 n21, s3, b1, b2, Lx2, Lt2, Hd2⟩
  obtain ⟨N', I2⟩ := I2
  show z_ok sx d 343 97 lo [.int c2] h2 _
  refine zpop (zQf (k := 97) 1 zQd_3 rfl rfl) (k' := 98) rfl ?_
  refine zgoto (zQf (k := 98) 2 zQd_3 rfl rfl) ?_
  exact K.use I2 Lv (by omega) (by omega) (by omega)
set_option maxRecDepth 100000 in
theorem zcs_2 {sx : zX} {d : Nat} {ty : List Nat} {lo : zL} {h : zH} {Ψ : zO → zH → Nat → Nat → Prop} {ax am ao i : Nat} {N : Int} (H : ∀ (c : Nat) (c' : zCt), zCtl[c]? = some c' → zVd z_tt zE1 c') (hd : 60 ≤ d) (hi : i + 6 ≤ sx.1) (hL : sx.1 ≤ 3072) (hB : h.length + 6 ≤ zB) (I : zIw ty h ax am ao N) (Lv : zLv lo ax am ao i) (K : zKc sx d ax am ao i h Ψ) : z_ok sx d 343 99 lo [] h Ψ := by
  refine zh_ald zJ_343 (k' := 100) (zQf (k := 99) 3 zQd_3 rfl rfl) rfl Lv.2.1 ?_
  refine zh_ald zJ_343 (k' := 101) (zQf (k := 100) 4 zQd_3 rfl rfl) rfl Lv.2.2.2.1 ?_
  refine zlrun (as := [.ref ax, .ref ao]) (i := (72, 315, 2, 0)) (zQf (k := 101) 5 zQd_3 rfl rfl) (k' := 102) rfl (by decide) (zcal72 (xs := [.ref ao, .ref ax]) (rest := []) (by omega) rfl rfl (Nat.le_of_ble_eq_true rfl) (M' := z_m315) rfl (Nat.le_of_ble_eq_true rfl)) (z_ok.lenq (by decide +kernel) (sq_315.ok (zTY_kh I.1) rfl rfl (zS_315 (sx := sx) (d := d - 1) (fun c hc c' hc' => H c c' hc') (by omega) I.1 I.2.1 I.2.2.1 I.2.2.2.2.1))) (fun o1 h1 x1 y1 q1 l1 => ?_)
  obtain ⟨⟨⟨c1, ty1, rfl, X1, T1, E1, F1, P1, cx1, cy1⟩, -, G1⟩, hq1⟩ := q1
  have G1 : p_315 ax ao (za h) c1 (za h1) := by
    obtain ⟨r9, er9, g9⟩ := G1
    have er9 : r9 = c1 := by cases er9; rfl
    rw [er9] at g9
    exact g9
  have ha1 := X1 ax 1 I.2.2.1
  have hm1 := X1 am 20 I.2.2.2.1
  have ho1 := X1 ao 33 I.2.2.2.2.1
  have Lx1 := I.lx.keep I.1 T1 X1 F1 (by decide +kernel)
  have Lt1 := I.lt.keep I.1 T1 X1 hq1
  refine ⟨_, rfl, ?_⟩
  show z_ok sx d 343 102 lo [.int c1] h1 _
  refine zh_ist zJ_343 (a := 5) (b := 0) (z := 0) (zQf (k := 102) 6 zQd_3 rfl rfl) (k' := 103) rfl ?_
  refine zh_ald zJ_343 (k' := 104) (zQf (k := 103) 7 zQd_3 rfl rfl) rfl (Lv.set (b := 5) (v := c1) (by omega)).2.2.1 ?_
  obtain ⟨fs1, he1, -⟩ := zcell0 (c := 9) (n := 23) T1 hm1 rfl rfl rfl
  refine zlrun (as := [.ref am]) (i := (54, 231, 0, 9)) (zQf (k := 104) 8 zQd_3 rfl rfl) (k' := 105) rfl (by decide) (zcal54 (xs := []) (rest := []) (by omega) rfl rfl he1 rfl (Nat.le_of_ble_eq_true rfl) (M' := z_m231) rfl (Nat.le_of_ble_eq_true rfl)) (z_ok.lenq (by decide +kernel) (sq_231.ok (zTY_kh T1) rfl rfl (zS_231 (sx := sx) (d := d - 1) (fun c hc c' hc' => H c c' hc') (by omega) T1 E1 hm1))) (fun o2 h2 x2 y2 q2 l2 => ?_)
  obtain ⟨⟨⟨w2, rfl, rfl, rfl, ⟨c2, rfl⟩, ty2, X2, T2, E2, F2, N2⟩, -, G2⟩, hq2⟩ := q2
  have G2 : p_231 am (za h1) c2 (za h2) := by
    obtain ⟨r9, er9, g9⟩ := G2
    have er9 : r9 = c2 := by cases er9; rfl
    rw [er9] at g9
    exact g9
  have Lx2 := Lx1.keep T1 T2 X2 F2 (by decide +kernel)
  have Lt2 := Lt1.keep T1 T2 X2 hq2
  have Z2 : zHld (za h2) ∧ zLik (za h2) c1 c2 := by
    obtain ⟨⟨rfl, rfl, rfl⟩, X0, S, Y⟩ := I.lx
    obtain ⟨E0, eN, w1, w9⟩ := zL5_of I.2.2.2.2.2.1 I.2.2.2.2.2.2.1 I.2.2.2.2.2.2.2.1 S
    obtain ⟨p0, w0, K0, R0⟩ := I.hd
    have hE0 : E0 ≤ 400 := by have := I.b2; omega
    exact zq_2 w0 K0 R0 (zTpe_of I.1 X0 S hE0 w1 w9 Y) G1 G2
  have Hd2 := Z2.1
  have GE : ∃ t : Int32, zv h2 am 0 = .int t ∧ t.toInt = c1.toInt ∧ (c1.toInt = 0 → zv h2 ao 0 = .long c2.toInt64) := by
    obtain ⟨⟨rfl, rfl, rfl⟩, -⟩ := I.lx
    exact Z2.2
  refine ⟨_, rfl, ?_⟩
  have I2 : zIw ty2 h2 ax am ao 0 := ⟨T2, E2, X2 ax 1 ha1, X2 am 20 hm1, X2 ao 33 ho1, P1.keep ha1 T2 X2 F2 (zNin _ _ _ (by decide +kernel)) (zNin _ _ _ (by decide +kernel)), N2.mp, by decide, by decide, Lx2, Lt2, Hd2⟩
  show z_ok sx d 343 105 (z_set1 lo 5 (.int c1)) [.int c2] h2 _
  refine zh_ist zJ_343 (a := 6) (b := 0) (z := 0) (zQf (k := 105) 9 zQd_3 rfl rfl) (k' := 106) rfl ?_
  refine zgoto (zQf (k := 106) 10 zQd_3 rfl rfl) ?_
  exact K.use I2 ((Lv.set (b := 5) (v := c1) (by omega)).set (b := 6) (v := c2) (by omega)) (by omega) (by omega) (by omega)
set_option maxRecDepth 100000 in
theorem zcs_3 {sx : zX} {d : Nat} {ty : List Nat} {lo : zL} {h : zH} {Ψ : zO → zH → Nat → Nat → Prop} {ax am ao i : Nat} {N : Int} (H : ∀ (c : Nat) (c' : zCt), zCtl[c]? = some c' → zVd z_tt zE1 c') (hd : 60 ≤ d) (hi : i + 6 ≤ sx.1) (hL : sx.1 ≤ 3072) (hB : h.length + 6 ≤ zB) (I : zIw ty h ax am ao N) (Lv : zLv lo ax am ao i) (K : zKc sx d ax am ao i h Ψ) : z_ok sx d 343 107 lo [] h Ψ := by
  refine zh_ald zJ_343 (k' := 108) (zQf (k := 107) 11 zQd_3 rfl rfl) rfl Lv.2.1 ?_
  refine zh_ald zJ_343 (k' := 109) (zQf (k := 108) 12 zQd_3 rfl rfl) rfl Lv.2.2.2.1 ?_
  refine zlrun (as := [.ref ax, .ref ao]) (i := (72, 316, 2, 0)) (zQf (k := 109) 13 zQd_3 rfl rfl) (k' := 110) rfl (by decide) (zcal72 (xs := [.ref ao, .ref ax]) (rest := []) (by omega) rfl rfl (Nat.le_of_ble_eq_true rfl) (M' := z_m316) rfl (Nat.le_of_ble_eq_true rfl)) (sq_316w.ok (zTY_kh I.1) rfl rfl (zS_316 (sx := sx) (d := d - 1) (fun c hc c' hc' => H c c' hc') (by omega) hB I.1 I.2.1 I.2.2.1 I.2.2.2.2.1)) (fun o1 h1 x1 y1 q1 l1 => ?_)
  obtain ⟨⟨c1, ty1, rfl, X1, T1, E1, F1, P1, cx1, cy1⟩, -, G1⟩ := q1
  have G1 : p_316w ax ao (za h) c1 (za h1) := by
    obtain ⟨r9, er9, g9⟩ := G1
    have er9 : r9 = c1 := by cases er9; rfl
    rw [er9] at g9
    exact g9
  have ha1 := X1 ax 1 I.2.2.1
  have hm1 := X1 am 20 I.2.2.2.1
  have ho1 := X1 ao 33 I.2.2.2.2.1
  have Lx1 := I.lx.keep I.1 T1 X1 F1 (by decide +kernel)
  have Lh1 : zLwt ty1 ∧ (c1.toInt = 0 → (za h1).2.2 = (za h).2.2 + 6 ∧ (za h1).2.1 ((za h).2.2 + 2) = 32) := by
    obtain ⟨⟨rfl, rfl, rfl⟩, X0, S, Y⟩ := I.lx
    obtain ⟨E0, eN, w1, w9⟩ := zL5_of I.2.2.2.2.2.1 I.2.2.2.2.2.2.1 I.2.2.2.2.2.2.2.1 S
    obtain ⟨p0, w0, K0, R0⟩ := I.hd
    have hE0 : E0 ≤ 400 := by have := I.b2; omega
    exact zlaw_new I.1 T1 X0 X1 I.lt K0.2.2.2.2.2.2.2.2.2 (by omega) (cLw_of I.1 X0 S hE0 w1 Y) G1
  have Lt1 := Lh1.1
  refine ⟨_, rfl, ?_⟩
  show z_ok sx d 343 110 lo [.int c1] h1 _
  refine zh_ist zJ_343 (a := 5) (b := 0) (z := 0) (zQf (k := 110) 14 zQd_3 rfl rfl) (k' := 111) rfl ?_
  refine zh_ald zJ_343 (k' := 112) (zQf (k := 111) 15 zQd_3 rfl rfl) rfl (Lv.set (b := 5) (v := c1) (by omega)).2.2.1 ?_
  obtain ⟨fs1, he1, -⟩ := zcell0 (c := 9) (n := 23) T1 hm1 rfl rfl rfl
  refine zlrun (as := [.ref am]) (i := (54, 232, 0, 9)) (zQf (k := 112) 16 zQd_3 rfl rfl) (k' := 113) rfl (by decide) (zcal54 (xs := []) (rest := []) (by omega) rfl rfl he1 rfl (Nat.le_of_ble_eq_true rfl) (M' := z_m232) rfl (Nat.le_of_ble_eq_true rfl)) (z_ok.lenq (by decide +kernel) (sq_232.ok (zTY_kh T1) rfl rfl (zS_232 (sx := sx) (d := d - 1) (by omega) T1 E1 hm1))) (fun o2 h2 x2 y2 q2 l2 => ?_)
  obtain ⟨⟨⟨w2, rfl, rfl, rfl, ⟨c2, rfl⟩, T2, E2, F2, N2⟩, -, G2⟩, hq2⟩ := q2
  have X2 : zExt ty1 ty1 := zExt.rf
  have G2 : p_232 am (za h1) c2 (za h2) := by
    obtain ⟨r9, er9, g9⟩ := G2
    have er9 : r9 = c2 := by cases er9; rfl
    rw [er9] at g9
    exact g9
  have Lx2 := Lx1.keep T1 T2 X2 F2 (by decide +kernel)
  have Lt2 := Lt1.keep T1 T2 X2 hq2
  have Z2 : zHld (za h2) ∧ zLik (za h2) c1 c2 := by
    obtain ⟨⟨rfl, rfl, rfl⟩, X0, S, Y⟩ := I.lx
    obtain ⟨E0, eN, w1, w9⟩ := zL5_of I.2.2.2.2.2.1 I.2.2.2.2.2.2.1 I.2.2.2.2.2.2.2.1 S
    obtain ⟨p0, w0, K0, R0⟩ := I.hd
    have hE0 : E0 ≤ 400 := by have := I.b2; omega
    exact zq_3 w0 K0 R0 (cLw_of I.1 X0 S hE0 w1 Y) (rA_of I.1 X0 S hE0 w9) (S.at (205, 8, 211) (by decide +kernel)) Lh1.2 G1 G2
  have Hd2 := Z2.1
  have GE : ∃ t : Int32, zv h2 am 0 = .int t ∧ t.toInt = c1.toInt ∧ (c1.toInt = 0 → zv h2 ao 0 = .long c2.toInt64) := by
    obtain ⟨⟨rfl, rfl, rfl⟩, -⟩ := I.lx
    exact Z2.2
  refine ⟨_, rfl, ?_⟩
  have I2 : zIw ty1 h2 ax am ao 0 := ⟨T2, E2, X2 ax 1 ha1, X2 am 20 hm1, X2 ao 33 ho1, P1.keep ha1 T2 X2 F2 (zNin _ _ _ (by decide +kernel)) (zNin _ _ _ (by decide +kernel)), N2.mp, by decide, by decide, Lx2, Lt2, Hd2⟩
  show z_ok sx d 343 113 (z_set1 lo 5 (.int c1)) [.int c2] h2 _
  refine zh_ist zJ_343 (a := 6) (b := 0) (z := 0) (zQf (k := 113) 17 zQd_3 rfl rfl) (k' := 114) rfl ?_
  refine zgoto (zQf (k := 114) 18 zQd_3 rfl rfl) ?_
  exact K.use I2 ((Lv.set (b := 5) (v := c1) (by omega)).set (b := 6) (v := c2) (by omega)) (by omega) (by omega) (by omega)
set_option maxRecDepth 100000 in
theorem zcs_4 {sx : zX} {d : Nat} {ty : List Nat} {lo : zL} {h : zH} {Ψ : zO → zH → Nat → Nat → Prop} {ax am ao i : Nat} {N : Int} (H : ∀ (c : Nat) (c' : zCt), zCtl[c]? = some c' → zVd z_tt zE1 c') (hd : 60 ≤ d) (hi : i + 6 ≤ sx.1) (hL : sx.1 ≤ 3072) (hB : h.length + 6 ≤ zB) (I : zIw ty h ax am ao N) (Lv : zLv lo ax am ao i) (K : zKc sx d ax am ao i h Ψ) : z_ok sx d 343 115 lo [] h Ψ := by
  refine zh_ald zJ_343 (k' := 116) (zQf (k := 115) 19 zQd_3 rfl rfl) rfl Lv.2.1 ?_
  obtain ⟨fs0, he0, -⟩ := zcell0 (c := 8) (n := 8) I.1 I.2.2.1 rfl rfl rfl
  refine zlcq (ct := zC105) (as := [.ref ax]) (i := (54, 122, 0, 8)) I.v (zQf (k := 116) 20 zQd_3 rfl rfl) (k' := 117) rfl (by decide) (zcal54 (xs := []) (rest := []) (by omega) rfl rfl he0 rfl (Nat.le_of_ble_eq_true rfl) (M' := z_m122) rfl (Nat.le_of_ble_eq_true rfl)) (H 105 _ rfl) rfl (by show 0 + 1 ≤ d; omega) rfl (by decide +kernel) (by decide +kernel) (by decide +kernel) ⟨⟨ax, 1, rfl, I.2.2.1, Int.le_refl _, Int.le_refl _⟩, trivial⟩ sq_122 rfl (fun ty1 h1 w1 x1 y1 I1 V1 G1 cx1 cy1 l1 => ?_)
  have cx1 : x1 ≤ 0 := cx1
  have cy1 : y1 ≤ 0 := cy1
  match w1, V1, G1 with
  | some w1, V1, G1 =>
  obtain ⟨c1, rfl, -⟩ := V1
  have G1 : p_122 ax (za h) c1 (za h1) := by
    obtain ⟨r9, er9, g9⟩ := G1
    have er9 : r9 = c1 := by cases er9; rfl
    rw [er9] at g9
    exact g9
  show z_ok sx d 343 117 lo [.int c1] h1 _
  refine zpop (zQf (k := 117) 21 zQd_3 rfl rfl) (k' := 118) rfl ?_
  refine zh_ald zJ_343 (k' := 119) (zQf (k := 118) 22 zQd_3 rfl rfl) rfl Lv.2.2.1 ?_
  obtain ⟨fs1, he1, -⟩ := zcell0 (c := 9) (n := 23) I1.1 I1.2.2.2.1 rfl rfl rfl
  refine zlcq (ct := zC179) (as := [.ref am]) (i := (54, 209, 0, 9)) I1 (zQf (k := 119) 23 zQd_3 rfl rfl) (k' := 120) rfl (by decide) (zcal54 (xs := []) (rest := []) (by omega) rfl rfl he1 rfl (Nat.le_of_ble_eq_true rfl) (M' := z_m209) rfl (Nat.le_of_ble_eq_true rfl)) (H 179 _ rfl) rfl (by show 0 + 1 ≤ d; omega) rfl (by decide +kernel) (by decide +kernel) (by decide +kernel) ⟨⟨am, 20, rfl, I1.2.2.2.1, Int.le_refl _, Int.le_refl _⟩, trivial⟩ sq_209 rfl (fun ty2 h2 w2 x2 y2 I2 V2 G2 cx2 cy2 l2 => ?_)
  have cx2 : x2 ≤ 0 := cx2
  have cy2 : y2 ≤ 0 := cy2
  match w2, V2, G2 with
  | some w2, V2, G2 =>
  obtain ⟨c2, rfl, -⟩ := V2
  have G2 : p_209 am (za h1) c2 (za h2) := by
    obtain ⟨r9, er9, g9⟩ := G2
    have er9 : r9 = c2 := by cases er9; rfl
    rw [er9] at g9
    exact g9
  have Z2 : zHld (za h2) ∧ c1 = c2 := by
    obtain ⟨⟨rfl, rfl, rfl⟩, -⟩ := I.lx
    obtain ⟨p0, w0, K0, R0⟩ := I.hd
    exact zq_4 w0 K0 R0 G1 G2
  have I2 := I2.w Z2.1
  have ec : c1.toInt = c2.toInt := congrArg Int32.toInt Z2.2
  show z_ok sx d 343 120 lo [.int c2] h2 _
  refine zpop (zQf (k := 120) 24 zQd_3 rfl rfl) (k' := 121) rfl ?_
  refine zgoto (zQf (k := 121) 25 zQd_3 rfl rfl) ?_
  exact K.use I2 Lv (by omega) (by omega) (by omega)
set_option maxRecDepth 100000 in
theorem zcs_5 {sx : zX} {d : Nat} {ty : List Nat} {lo : zL} {h : zH} {Ψ : zO → zH → Nat → Nat → Prop} {ax am ao i : Nat} {N : Int} (H : ∀ (c : Nat) (c' : zCt), zCtl[c]? = some c' → zVd z_tt zE1 c') (hd : 60 ≤ d) (hi : i + 6 ≤ sx.1) (hL : sx.1 ≤ 3072) (hB : h.length + 6 ≤ zB) (I : zIw ty h ax am ao N) (Lv : zLv lo ax am ao i) (K : zKc sx d ax am ao i h Ψ) : z_ok sx d 343 122 lo [] h Ψ := by
  refine zh_ald zJ_343 (k' := 123) (zQf (k := 122) 26 zQd_3 rfl rfl) rfl Lv.2.1 ?_
  refine zscr 123 124 125 126 127 128 1 (zQf (k := 123) 27 zQd_3 rfl rfl) (zQf (k := 124) 28 zQd_3 rfl rfl) (zQf (k := 125) 29 zQd_3 rfl rfl) (zQf (k := 126) 30 zQd_3 rfl rfl) (zQf (k := 127) 31 zQd_3 rfl rfl) rfl rfl rfl rfl rfl rfl (by omega) Lv hi hL (fun v0 ev0 => ?_)
  refine zh_ald zJ_343 (k' := 129) (zQf (k := 128) 0 zQd_4 rfl rfl) rfl Lv.2.2.2.1 ?_
  refine zlcon (ct := zC276) (as := [.ref ax, .int v0, .ref ao]) (i := (72, 317, 3, 0)) I (zQf (k := 129) 1 zQd_4 rfl rfl) (k' := 130) rfl (by decide) (zcal72 (xs := [.ref ao, .int v0, .ref ax]) (rest := []) (by omega) rfl rfl (Nat.le_of_ble_eq_true rfl) (M' := z_m317) rfl (Nat.le_of_ble_eq_true rfl)) (H 276 _ rfl) rfl (by show 8 + 1 ≤ d; omega) rfl (by decide +kernel) (by decide +kernel) (by decide +kernel) (by decide +kernel) ⟨⟨ax, 1, rfl, I.2.2.1, Int.le_refl _, Int.le_refl _⟩, zFull_ok _, ⟨ao, 33, rfl, I.2.2.2.2.1, Int.le_refl _, Int.le_refl _⟩, trivial⟩ (fun ty1 h1 w1 x1 y1 I1 V1 cx1 cy1 l1 => ?_)
  have cx1 : x1 ≤ 1 := cx1
  have cy1 : y1 ≤ 6 := cy1
  match w1, V1 with
  | some w1, V1 =>
  obtain ⟨c1, rfl, -⟩ := V1
  show z_ok sx d 343 130 lo [.int c1] h1 _
  refine zh_ist zJ_343 (a := 5) (b := 0) (z := 0) (zQf (k := 130) 2 zQd_4 rfl rfl) (k' := 131) rfl ?_
  refine zh_ald zJ_343 (k' := 132) (zQf (k := 131) 3 zQd_4 rfl rfl) rfl (Lv.set (b := 5) (v := c1) (by omega)).2.2.1 ?_
  refine zscr 132 133 134 135 136 137 1 (zQf (k := 132) 4 zQd_4 rfl rfl) (zQf (k := 133) 5 zQd_4 rfl rfl) (zQf (k := 134) 6 zQd_4 rfl rfl) (zQf (k := 135) 7 zQd_4 rfl rfl) (zQf (k := 136) 8 zQd_4 rfl rfl) rfl rfl rfl rfl rfl rfl (by omega) (Lv.set (b := 5) (v := c1) (by omega)) hi hL (fun v1 ev1 => ?_)
  obtain ⟨fs1, he1, -⟩ := zcell0 (c := 9) (n := 23) I1.1 I1.2.2.2.1 rfl rfl rfl
  refine zlcon (ct := zC180) (as := [.ref am, .int v1]) (i := (54, 248, 1, 9)) I1 (zQf (k := 137) 9 zQd_4 rfl rfl) (k' := 138) rfl (by decide) (zcal54 (xs := [.int v1]) (rest := []) (by omega) rfl rfl he1 rfl (Nat.le_of_ble_eq_true rfl) (M' := z_m248) rfl (Nat.le_of_ble_eq_true rfl)) (H 180 _ rfl) rfl (by show 2 + 1 ≤ d; omega) rfl (by decide +kernel) (by decide +kernel) (by decide +kernel) (by decide +kernel) ⟨⟨am, 20, rfl, I1.2.2.2.1, Int.le_refl _, Int.le_refl _⟩, zFull_ok _, trivial⟩ (fun ty2 h2 w2 x2 y2 I2 V2 cx2 cy2 l2 => ?_)
  have cx2 : x2 ≤ 0 := cx2
  have cy2 : y2 ≤ 0 := cy2
  match w2, V2 with
  | some w2, V2 =>
  obtain ⟨c2, rfl, -⟩ := V2
  show z_ok sx d 343 138 (z_set1 lo 5 (.int c1)) [.int c2] h2 _
  refine zh_ist zJ_343 (a := 6) (b := 0) (z := 0) (zQf (k := 138) 10 zQd_4 rfl rfl) (k' := 139) rfl ?_
  refine zgoto (zQf (k := 139) 11 zQd_4 rfl rfl) ?_
  exact K.use I2 ((Lv.set (b := 5) (v := c1) (by omega)).set (b := 6) (v := c2) (by omega)) (by omega) (by omega) (by omega)
set_option maxRecDepth 100000 in
theorem zcs_6 {sx : zX} {d : Nat} {ty : List Nat} {lo : zL} {h : zH} {Ψ : zO → zH → Nat → Nat → Prop} {ax am ao i : Nat} {N : Int} (H : ∀ (c : Nat) (c' : zCt), zCtl[c]? = some c' → zVd z_tt zE1 c') (hd : 60 ≤ d) (hi : i + 6 ≤ sx.1) (hL : sx.1 ≤ 3072) (hB : h.length + 6 ≤ zB) (I : zIw ty h ax am ao N) (Lv : zLv lo ax am ao i) (K : zKc sx d ax am ao i h Ψ) : z_ok sx d 343 140 lo [] h Ψ := by
  refine zh_ald zJ_343 (k' := 141) (zQf (k := 140) 12 zQd_4 rfl rfl) rfl Lv.2.1 ?_
  refine zscr 141 142 143 144 145 146 1 (zQf (k := 141) 13 zQd_4 rfl rfl) (zQf (k := 142) 14 zQd_4 rfl rfl) (zQf (k := 143) 15 zQd_4 rfl rfl) (zQf (k := 144) 16 zQd_4 rfl rfl) (zQf (k := 145) 17 zQd_4 rfl rfl) rfl rfl rfl rfl rfl rfl (by omega) Lv hi hL (fun v0 ev0 => ?_)
  refine zscr 146 147 148 149 150 151 2 (zQf (k := 146) 18 zQd_4 rfl rfl) (zQf (k := 147) 19 zQd_4 rfl rfl) (zQf (k := 148) 20 zQd_4 rfl rfl) (zQf (k := 149) 21 zQd_4 rfl rfl) (zQf (k := 150) 22 zQd_4 rfl rfl) rfl rfl rfl rfl rfl rfl (by omega) Lv hi hL (fun v1 ev1 => ?_)
  refine zh_ald zJ_343 (k' := 152) (zQf (k := 151) 23 zQd_4 rfl rfl) rfl Lv.2.2.2.1 ?_
  refine zlcon (ct := zC277) (as := [.ref ax, .int v0, .int v1, .ref ao]) (i := (72, 318, 4, 0)) I (zQf (k := 152) 24 zQd_4 rfl rfl) (k' := 153) rfl (by decide) (zcal72 (xs := [.ref ao, .int v1, .int v0, .ref ax]) (rest := []) (by omega) rfl rfl (Nat.le_of_ble_eq_true rfl) (M' := z_m318) rfl (Nat.le_of_ble_eq_true rfl)) (H 277 _ rfl) rfl (by show 8 + 1 ≤ d; omega) rfl (by decide +kernel) (by decide +kernel) (by decide +kernel) (by decide +kernel) ⟨⟨ax, 1, rfl, I.2.2.1, Int.le_refl _, Int.le_refl _⟩, zFull_ok _, zFull_ok _, ⟨ao, 33, rfl, I.2.2.2.2.1, Int.le_refl _, Int.le_refl _⟩, trivial⟩ (fun ty1 h1 w1 x1 y1 I1 V1 cx1 cy1 l1 => ?_)
  have cx1 : x1 ≤ 1 := cx1
  have cy1 : y1 ≤ 6 := cy1
  match w1, V1 with
  | some w1, V1 =>
  obtain ⟨c1, rfl, -⟩ := V1
  show z_ok sx d 343 153 lo [.int c1] h1 _
  refine zh_ist zJ_343 (a := 5) (b := 0) (z := 0) (zQf (k := 153) 25 zQd_4 rfl rfl) (k' := 154) rfl ?_
  refine zh_ald zJ_343 (k' := 155) (zQf (k := 154) 26 zQd_4 rfl rfl) rfl (Lv.set (b := 5) (v := c1) (by omega)).2.2.1 ?_
  refine zscr 155 156 157 158 159 160 1 (zQf (k := 155) 27 zQd_4 rfl rfl) (zQf (k := 156) 28 zQd_4 rfl rfl) (zQf (k := 157) 29 zQd_4 rfl rfl) (zQf (k := 158) 30 zQd_4 rfl rfl) (zQf (k := 159) 31 zQd_4 rfl rfl) rfl rfl rfl rfl rfl rfl (by omega) (Lv.set (b := 5) (v := c1) (by omega)) hi hL (fun v2 ev2 => ?_)
  refine zscr 160 161 162 163 164 165 2 (zQf (k := 160) 0 zQd_5 rfl rfl) (zQf (k := 161) 1 zQd_5 rfl rfl) (zQf (k := 162) 2 zQd_5 rfl rfl) (zQf (k := 163) 3 zQd_5 rfl rfl) (zQf (k := 164) 4 zQd_5 rfl rfl) rfl rfl rfl rfl rfl rfl (by omega) (Lv.set (b := 5) (v := c1) (by omega)) hi hL (fun v3 ev3 => ?_)
  obtain ⟨fs1, he1, -⟩ := zcell0 (c := 9) (n := 23) I1.1 I1.2.2.2.1 rfl rfl rfl
  refine zlcon (ct := zC185) (as := [.ref am, .int v2, .int v3]) (i := (54, 249, 2, 9)) I1 (zQf (k := 165) 5 zQd_5 rfl rfl) (k' := 166) rfl (by decide) (zcal54 (xs := [.int v3, .int v2]) (rest := []) (by omega) rfl rfl he1 rfl (Nat.le_of_ble_eq_true rfl) (M' := z_m249) rfl (Nat.le_of_ble_eq_true rfl)) (H 185 _ rfl) rfl (by show 7 + 1 ≤ d; omega) rfl (by decide +kernel) (by decide +kernel) (by decide +kernel) (by decide +kernel) ⟨⟨am, 20, rfl, I1.2.2.2.1, Int.le_refl _, Int.le_refl _⟩, zFull_ok _, zFull_ok _, trivial⟩ (fun ty2 h2 w2 x2 y2 I2 V2 cx2 cy2 l2 => ?_)
  have cx2 : x2 ≤ 0 := cx2
  have cy2 : y2 ≤ 0 := cy2
  match w2, V2 with
  | some w2, V2 =>
  obtain ⟨c2, rfl, -⟩ := V2
  show z_ok sx d 343 166 (z_set1 lo 5 (.int c1)) [.int c2] h2 _
  refine zh_ist zJ_343 (a := 6) (b := 0) (z := 0) (zQf (k := 166) 6 zQd_5 rfl rfl) (k' := 167) rfl ?_
  refine zgoto (zQf (k := 167) 7 zQd_5 rfl rfl) ?_
  exact K.use I2 ((Lv.set (b := 5) (v := c1) (by omega)).set (b := 6) (v := c2) (by omega)) (by omega) (by omega) (by omega)
set_option maxRecDepth 100000 in
theorem zcs_7 {sx : zX} {d : Nat} {ty : List Nat} {lo : zL} {h : zH} {Ψ : zO → zH → Nat → Nat → Prop} {ax am ao i : Nat} {N : Int} (H : ∀ (c : Nat) (c' : zCt), zCtl[c]? = some c' → zVd z_tt zE1 c') (hd : 60 ≤ d) (hi : i + 6 ≤ sx.1) (hL : sx.1 ≤ 3072) (hB : h.length + 6 ≤ zB) (I : zIw ty h ax am ao N) (Lv : zLv lo ax am ao i) (K : zKc sx d ax am ao i h Ψ) : z_ok sx d 343 168 lo [] h Ψ := by
  refine zh_ald zJ_343 (k' := 169) (zQf (k := 168) 8 zQd_5 rfl rfl) rfl Lv.2.1 ?_
  refine zscr 169 170 171 172 173 174 1 (zQf (k := 169) 9 zQd_5 rfl rfl) (zQf (k := 170) 10 zQd_5 rfl rfl) (zQf (k := 171) 11 zQd_5 rfl rfl) (zQf (k := 172) 12 zQd_5 rfl rfl) (zQf (k := 173) 13 zQd_5 rfl rfl) rfl rfl rfl rfl rfl rfl (by omega) Lv hi hL (fun v0 ev0 => ?_)
  refine zscr 174 175 176 177 178 179 2 (zQf (k := 174) 14 zQd_5 rfl rfl) (zQf (k := 175) 15 zQd_5 rfl rfl) (zQf (k := 176) 16 zQd_5 rfl rfl) (zQf (k := 177) 17 zQd_5 rfl rfl) (zQf (k := 178) 18 zQd_5 rfl rfl) rfl rfl rfl rfl rfl rfl (by omega) Lv hi hL (fun v1 ev1 => ?_)
  refine zscr 179 180 181 182 183 184 3 (zQf (k := 179) 19 zQd_5 rfl rfl) (zQf (k := 180) 20 zQd_5 rfl rfl) (zQf (k := 181) 21 zQd_5 rfl rfl) (zQf (k := 182) 22 zQd_5 rfl rfl) (zQf (k := 183) 23 zQd_5 rfl rfl) rfl rfl rfl rfl rfl rfl (by omega) Lv hi hL (fun v2 ev2 => ?_)
  refine zh_ald zJ_343 (k' := 185) (zQf (k := 184) 24 zQd_5 rfl rfl) rfl Lv.2.2.2.1 ?_
  refine zlcq (ct := zC278) (as := [.ref ax, .int v0, .int v1, .int v2, .ref ao]) (i := (72, 319, 5, 0)) I.v (zQf (k := 185) 25 zQd_5 rfl rfl) (k' := 186) rfl (by decide) (zcal72 (xs := [.ref ao, .int v2, .int v1, .int v0, .ref ax]) (rest := []) (by omega) rfl rfl (Nat.le_of_ble_eq_true rfl) (M' := z_m319) rfl (Nat.le_of_ble_eq_true rfl)) (H 278 _ rfl) rfl (by show 23 + 1 ≤ d; omega) rfl (by decide +kernel) (by decide +kernel) (by decide +kernel) ⟨⟨ax, 1, rfl, I.2.2.1, Int.le_refl _, Int.le_refl _⟩, zFull_ok _, zFull_ok _, zFull_ok _, ⟨ao, 33, rfl, I.2.2.2.2.1, Int.le_refl _, Int.le_refl _⟩, trivial⟩ sq_319 rfl (fun ty1 h1 w1 x1 y1 I1 V1 G1 cx1 cy1 l1 => ?_)
  have cx1 : x1 ≤ 1 := cx1
  have cy1 : y1 ≤ 6 := cy1
  match w1, V1, G1 with
  | some w1, V1, G1 =>
  obtain ⟨c1, rfl, -⟩ := V1
  have G1 : p_319 ax v0 v1 v2 ao (za h) c1 (za h1) := by
    obtain ⟨r9, er9, g9⟩ := G1
    have er9 : r9 = c1 := by cases er9; rfl
    rw [er9] at g9
    exact g9
  have Z1 : zHld (za h1) := by
    obtain ⟨⟨rfl, rfl, rfl⟩, -⟩ := I.lx
    obtain ⟨p0, w0, K0, R0⟩ := I.hd
    exact ⟨p0, w0, zc_7 (σ2 := za h1) w0 K0 R0 G1⟩
  have I1 := I1.w Z1
  show z_ok sx d 343 186 lo [.int c1] h1 _
  refine zh_ist zJ_343 (a := 5) (b := 0) (z := 0) (zQf (k := 186) 26 zQd_5 rfl rfl) (k' := 187) rfl ?_
  refine zh_ald zJ_343 (k' := 188) (zQf (k := 187) 27 zQd_5 rfl rfl) rfl (Lv.set (b := 5) (v := c1) (by omega)).2.2.1 ?_
  refine zscr 188 189 190 191 192 193 1 (zQf (k := 188) 28 zQd_5 rfl rfl) (zQf (k := 189) 29 zQd_5 rfl rfl) (zQf (k := 190) 30 zQd_5 rfl rfl) (zQf (k := 191) 31 zQd_5 rfl rfl) (zQf (k := 192) 0 zQd_6 rfl rfl) rfl rfl rfl rfl rfl rfl (by omega) (Lv.set (b := 5) (v := c1) (by omega)) hi hL (fun v3 ev3 => ?_)
  refine zscr 193 194 195 196 197 198 2 (zQf (k := 193) 1 zQd_6 rfl rfl) (zQf (k := 194) 2 zQd_6 rfl rfl) (zQf (k := 195) 3 zQd_6 rfl rfl) (zQf (k := 196) 4 zQd_6 rfl rfl) (zQf (k := 197) 5 zQd_6 rfl rfl) rfl rfl rfl rfl rfl rfl (by omega) (Lv.set (b := 5) (v := c1) (by omega)) hi hL (fun v4 ev4 => ?_)
  refine zscr 198 199 200 201 202 203 3 (zQf (k := 198) 6 zQd_6 rfl rfl) (zQf (k := 199) 7 zQd_6 rfl rfl) (zQf (k := 200) 8 zQd_6 rfl rfl) (zQf (k := 201) 9 zQd_6 rfl rfl) (zQf (k := 202) 10 zQd_6 rfl rfl) rfl rfl rfl rfl rfl rfl (by omega) (Lv.set (b := 5) (v := c1) (by omega)) hi hL (fun v5 ev5 => ?_)
  obtain ⟨fs1, he1, -⟩ := zcell0 (c := 9) (n := 23) I1.1 I1.2.2.2.1 rfl rfl rfl
  refine zlcon (ct := zC258) (as := [.ref am, .int v3, .int v4, .int v5]) (i := (54, 250, 3, 9)) I1 (zQf (k := 203) 11 zQd_6 rfl rfl) (k' := 204) rfl (by decide) (zcal54 (xs := [.int v5, .int v4, .int v3]) (rest := []) (by omega) rfl rfl he1 rfl (Nat.le_of_ble_eq_true rfl) (M' := z_m250) rfl (Nat.le_of_ble_eq_true rfl)) (H 258 _ rfl) rfl (by show 24 + 1 ≤ d; omega) rfl (by decide +kernel) (by decide +kernel) (by decide +kernel) (by decide +kernel) ⟨⟨am, 20, rfl, I1.2.2.2.1, Int.le_refl _, Int.le_refl _⟩, zFull_ok _, zFull_ok _, zFull_ok _, trivial⟩ (fun ty2 h2 w2 x2 y2 I2 V2 cx2 cy2 l2 => ?_)
  have cx2 : x2 ≤ 0 := cx2
  have cy2 : y2 ≤ 0 := cy2
  match w2, V2 with
  | some w2, V2 =>
  obtain ⟨c2, rfl, -⟩ := V2
  show z_ok sx d 343 204 (z_set1 lo 5 (.int c1)) [.int c2] h2 _
  refine zh_ist zJ_343 (a := 6) (b := 0) (z := 0) (zQf (k := 204) 12 zQd_6 rfl rfl) (k' := 205) rfl ?_
  refine zgoto (zQf (k := 205) 13 zQd_6 rfl rfl) ?_
  exact K.use I2 ((Lv.set (b := 5) (v := c1) (by omega)).set (b := 6) (v := c2) (by omega)) (by omega) (by omega) (by omega)
set_option maxRecDepth 100000 in
theorem zcs_8 {sx : zX} {d : Nat} {ty : List Nat} {lo : zL} {h : zH} {Ψ : zO → zH → Nat → Nat → Prop} {ax am ao i : Nat} {N : Int} (H : ∀ (c : Nat) (c' : zCt), zCtl[c]? = some c' → zVd z_tt zE1 c') (hd : 60 ≤ d) (hi : i + 6 ≤ sx.1) (hL : sx.1 ≤ 3072) (hB : h.length + 6 ≤ zB) (I : zIw ty h ax am ao N) (Lv : zLv lo ax am ao i) (K : zKc sx d ax am ao i h Ψ) : z_ok sx d 343 206 lo [] h Ψ := by
  refine zh_ald zJ_343 (k' := 207) (zQf (k := 206) 14 zQd_6 rfl rfl) rfl Lv.2.1 ?_
  refine zscr 207 208 209 210 211 212 1 (zQf (k := 207) 15 zQd_6 rfl rfl) (zQf (k := 208) 16 zQd_6 rfl rfl) (zQf (k := 209) 17 zQd_6 rfl rfl) (zQf (k := 210) 18 zQd_6 rfl rfl) (zQf (k := 211) 19 zQd_6 rfl rfl) rfl rfl rfl rfl rfl rfl (by omega) Lv hi hL (fun v0 ev0 => ?_)
  refine zscr 212 213 214 215 216 217 2 (zQf (k := 212) 20 zQd_6 rfl rfl) (zQf (k := 213) 21 zQd_6 rfl rfl) (zQf (k := 214) 22 zQd_6 rfl rfl) (zQf (k := 215) 23 zQd_6 rfl rfl) (zQf (k := 216) 24 zQd_6 rfl rfl) rfl rfl rfl rfl rfl rfl (by omega) Lv hi hL (fun v1 ev1 => ?_)
  refine zh_ald zJ_343 (k' := 218) (zQf (k := 217) 25 zQd_6 rfl rfl) rfl Lv.2.2.2.1 ?_
  refine zlcq (ct := zC279) (as := [.ref ax, .int v0, .int v1, .ref ao]) (i := (72, 320, 4, 0)) I.v (zQf (k := 218) 26 zQd_6 rfl rfl) (k' := 219) rfl (by decide) (zcal72 (xs := [.ref ao, .int v1, .int v0, .ref ax]) (rest := []) (by omega) rfl rfl (Nat.le_of_ble_eq_true rfl) (M' := z_m320) rfl (Nat.le_of_ble_eq_true rfl)) (H 279 _ rfl) rfl (by show 23 + 1 ≤ d; omega) rfl (by decide +kernel) (by decide +kernel) (by decide +kernel) ⟨⟨ax, 1, rfl, I.2.2.1, Int.le_refl _, Int.le_refl _⟩, zFull_ok _, zFull_ok _, ⟨ao, 33, rfl, I.2.2.2.2.1, Int.le_refl _, Int.le_refl _⟩, trivial⟩ sq_320 rfl (fun ty1 h1 w1 x1 y1 I1 V1 G1 cx1 cy1 l1 => ?_)
  have cx1 : x1 ≤ 1 := cx1
  have cy1 : y1 ≤ 6 := cy1
  match w1, V1, G1 with
  | some w1, V1, G1 =>
  obtain ⟨c1, rfl, -⟩ := V1
  have G1 : p_320 ax v0 v1 ao (za h) c1 (za h1) := by
    obtain ⟨r9, er9, g9⟩ := G1
    have er9 : r9 = c1 := by cases er9; rfl
    rw [er9] at g9
    exact g9
  have Z1 : zHld (za h1) := by
    obtain ⟨⟨rfl, rfl, rfl⟩, -⟩ := I.lx
    obtain ⟨p0, w0, K0, R0⟩ := I.hd
    exact ⟨p0, w0, zc_8 (σ2 := za h1) w0 K0 R0 G1⟩
  have I1 := I1.w Z1
  show z_ok sx d 343 219 lo [.int c1] h1 _
  refine zh_ist zJ_343 (a := 5) (b := 0) (z := 0) (zQf (k := 219) 27 zQd_6 rfl rfl) (k' := 220) rfl ?_
  refine zh_ald zJ_343 (k' := 221) (zQf (k := 220) 28 zQd_6 rfl rfl) rfl (Lv.set (b := 5) (v := c1) (by omega)).2.2.1 ?_
  refine zscr 221 222 223 224 225 226 1 (zQf (k := 221) 29 zQd_6 rfl rfl) (zQf (k := 222) 30 zQd_6 rfl rfl) (zQf (k := 223) 31 zQd_6 rfl rfl) (zQf (k := 224) 0 zQd_7 rfl rfl) (zQf (k := 225) 1 zQd_7 rfl rfl) rfl rfl rfl rfl rfl rfl (by omega) (Lv.set (b := 5) (v := c1) (by omega)) hi hL (fun v2 ev2 => ?_)
  refine zscr 226 227 228 229 230 231 2 (zQf (k := 226) 2 zQd_7 rfl rfl) (zQf (k := 227) 3 zQd_7 rfl rfl) (zQf (k := 228) 4 zQd_7 rfl rfl) (zQf (k := 229) 5 zQd_7 rfl rfl) (zQf (k := 230) 6 zQd_7 rfl rfl) rfl rfl rfl rfl rfl rfl (by omega) (Lv.set (b := 5) (v := c1) (by omega)) hi hL (fun v3 ev3 => ?_)
  obtain ⟨fs1, he1, -⟩ := zcell0 (c := 9) (n := 23) I1.1 I1.2.2.2.1 rfl rfl rfl
  refine zlcon (ct := zC259) (as := [.ref am, .int v2, .int v3]) (i := (54, 251, 2, 9)) I1 (zQf (k := 231) 7 zQd_7 rfl rfl) (k' := 232) rfl (by decide) (zcal54 (xs := [.int v3, .int v2]) (rest := []) (by omega) rfl rfl he1 rfl (Nat.le_of_ble_eq_true rfl) (M' := z_m251) rfl (Nat.le_of_ble_eq_true rfl)) (H 259 _ rfl) rfl (by show 24 + 1 ≤ d; omega) rfl (by decide +kernel) (by decide +kernel) (by decide +kernel) (by decide +kernel) ⟨⟨am, 20, rfl, I1.2.2.2.1, Int.le_refl _, Int.le_refl _⟩, zFull_ok _, zFull_ok _, trivial⟩ (fun ty2 h2 w2 x2 y2 I2 V2 cx2 cy2 l2 => ?_)
  have cx2 : x2 ≤ 0 := cx2
  have cy2 : y2 ≤ 0 := cy2
  match w2, V2 with
  | some w2, V2 =>
  obtain ⟨c2, rfl, -⟩ := V2
  show z_ok sx d 343 232 (z_set1 lo 5 (.int c1)) [.int c2] h2 _
  refine zh_ist zJ_343 (a := 6) (b := 0) (z := 0) (zQf (k := 232) 8 zQd_7 rfl rfl) (k' := 233) rfl ?_
  refine zgoto (zQf (k := 233) 9 zQd_7 rfl rfl) ?_
  exact K.use I2 ((Lv.set (b := 5) (v := c1) (by omega)).set (b := 6) (v := c2) (by omega)) (by omega) (by omega) (by omega)
set_option maxRecDepth 100000 in
theorem zcs_9 {sx : zX} {d : Nat} {ty : List Nat} {lo : zL} {h : zH} {Ψ : zO → zH → Nat → Nat → Prop} {ax am ao i : Nat} {N : Int} (H : ∀ (c : Nat) (c' : zCt), zCtl[c]? = some c' → zVd z_tt zE1 c') (hd : 60 ≤ d) (hi : i + 6 ≤ sx.1) (hL : sx.1 ≤ 3072) (hB : h.length + 6 ≤ zB) (I : zIw ty h ax am ao N) (Lv : zLv lo ax am ao i) (K : zKc sx d ax am ao i h Ψ) : z_ok sx d 343 234 lo [] h Ψ := by
  refine zh_ald zJ_343 (k' := 235) (zQf (k := 234) 10 zQd_7 rfl rfl) rfl Lv.2.1 ?_
  refine zscr 235 236 237 238 239 240 1 (zQf (k := 235) 11 zQd_7 rfl rfl) (zQf (k := 236) 12 zQd_7 rfl rfl) (zQf (k := 237) 13 zQd_7 rfl rfl) (zQf (k := 238) 14 zQd_7 rfl rfl) (zQf (k := 239) 15 zQd_7 rfl rfl) rfl rfl rfl rfl rfl rfl (by omega) Lv hi hL (fun v0 ev0 => ?_)
  refine zscr 240 241 242 243 244 245 2 (zQf (k := 240) 16 zQd_7 rfl rfl) (zQf (k := 241) 17 zQd_7 rfl rfl) (zQf (k := 242) 18 zQd_7 rfl rfl) (zQf (k := 243) 19 zQd_7 rfl rfl) (zQf (k := 244) 20 zQd_7 rfl rfl) rfl rfl rfl rfl rfl rfl (by omega) Lv hi hL (fun v1 ev1 => ?_)
  refine zh_ald zJ_343 (k' := 246) (zQf (k := 245) 21 zQd_7 rfl rfl) rfl Lv.2.2.2.1 ?_
  refine zlcq (ct := zC280) (as := [.ref ax, .int v0, .int v1, .ref ao]) (i := (72, 321, 4, 0)) I.v (zQf (k := 246) 22 zQd_7 rfl rfl) (k' := 247) rfl (by decide) (zcal72 (xs := [.ref ao, .int v1, .int v0, .ref ax]) (rest := []) (by omega) rfl rfl (Nat.le_of_ble_eq_true rfl) (M' := z_m321) rfl (Nat.le_of_ble_eq_true rfl)) (H 280 _ rfl) rfl (by show 10 + 1 ≤ d; omega) rfl (by decide +kernel) (by decide +kernel) (by decide +kernel) ⟨⟨ax, 1, rfl, I.2.2.1, Int.le_refl _, Int.le_refl _⟩, zFull_ok _, zFull_ok _, ⟨ao, 33, rfl, I.2.2.2.2.1, Int.le_refl _, Int.le_refl _⟩, trivial⟩ sq_321 rfl (fun ty1 h1 w1 x1 y1 I1 V1 G1 cx1 cy1 l1 => ?_)
  have cx1 : x1 ≤ 1 := cx1
  have cy1 : y1 ≤ 6 := cy1
  match w1, V1, G1 with
  | some w1, V1, G1 =>
  obtain ⟨c1, rfl, -⟩ := V1
  have G1 : p_321 ax v0 v1 ao (za h) c1 (za h1) := by
    obtain ⟨r9, er9, g9⟩ := G1
    have er9 : r9 = c1 := by cases er9; rfl
    rw [er9] at g9
    exact g9
  show z_ok sx d 343 247 lo [.int c1] h1 _
  refine zh_ist zJ_343 (a := 5) (b := 0) (z := 0) (zQf (k := 247) 23 zQd_7 rfl rfl) (k' := 248) rfl ?_
  refine zh_ald zJ_343 (k' := 249) (zQf (k := 248) 24 zQd_7 rfl rfl) rfl (Lv.set (b := 5) (v := c1) (by omega)).2.2.1 ?_
  refine zscr 249 250 251 252 253 254 1 (zQf (k := 249) 25 zQd_7 rfl rfl) (zQf (k := 250) 26 zQd_7 rfl rfl) (zQf (k := 251) 27 zQd_7 rfl rfl) (zQf (k := 252) 28 zQd_7 rfl rfl) (zQf (k := 253) 29 zQd_7 rfl rfl) rfl rfl rfl rfl rfl rfl (by omega) (Lv.set (b := 5) (v := c1) (by omega)) hi hL (fun v2 ev2 => ?_)
  refine zscr 254 255 256 257 258 259 2 (zQf (k := 254) 30 zQd_7 rfl rfl) (zQf (k := 255) 31 zQd_7 rfl rfl) (zQf (k := 256) 0 zQd_8 rfl rfl) (zQf (k := 257) 1 zQd_8 rfl rfl) (zQf (k := 258) 2 zQd_8 rfl rfl) rfl rfl rfl rfl rfl rfl (by omega) (Lv.set (b := 5) (v := c1) (by omega)) hi hL (fun v3 ev3 => ?_)
  obtain ⟨fs1, he1, -⟩ := zcell0 (c := 9) (n := 23) I1.1 I1.2.2.2.1 rfl rfl rfl
  refine zlcq (ct := zC186) (as := [.ref am, .int v2, .int v3]) (i := (54, 252, 2, 9)) I1 (zQf (k := 259) 3 zQd_8 rfl rfl) (k' := 260) rfl (by decide) (zcal54 (xs := [.int v3, .int v2]) (rest := []) (by omega) rfl rfl he1 rfl (Nat.le_of_ble_eq_true rfl) (M' := z_m252) rfl (Nat.le_of_ble_eq_true rfl)) (H 186 _ rfl) rfl (by show 6 + 1 ≤ d; omega) rfl (by decide +kernel) (by decide +kernel) (by decide +kernel) ⟨⟨am, 20, rfl, I1.2.2.2.1, Int.le_refl _, Int.le_refl _⟩, zFull_ok _, zFull_ok _, trivial⟩ sq_252 rfl (fun ty2 h2 w2 x2 y2 I2 V2 G2 cx2 cy2 l2 => ?_)
  have cx2 : x2 ≤ 0 := cx2
  have cy2 : y2 ≤ 0 := cy2
  match w2, V2, G2 with
  | some w2, V2, G2 =>
  obtain ⟨c2, rfl, -⟩ := V2
  have G2 : p_252 am v2 v3 (za h1) c2 (za h2) := by
    obtain ⟨r9, er9, g9⟩ := G2
    have er9 : r9 = c2 := by cases er9; rfl
    rw [er9] at g9
    exact g9
  have ee0 : v2 = v0 := by rw [ev2, ev0]
  have ee1 : v3 = v1 := by rw [ev3, ev1]
  rw [ee0, ee1] at G2
  have Z2 : zHld (za h2) ∧ zLik (za h2) c1 c2 := by
    obtain ⟨⟨rfl, rfl, rfl⟩, -⟩ := I.lx
    obtain ⟨p0, w0, K0, R0⟩ := I.hd
    exact zq_9 w0 K0 R0 G1 G2
  have I2 := I2.w Z2.1
  have GE : ∃ t : Int32, zv h2 am 0 = .int t ∧ t.toInt = c1.toInt ∧ (c1.toInt = 0 → zv h2 ao 0 = .long c2.toInt64) := by
    obtain ⟨⟨rfl, rfl, rfl⟩, -⟩ := I.lx
    exact Z2.2
  have zx2 : x2 = 0 := by omega
  have zy2 : y2 = 0 := by omega
  subst zx2
  subst zy2
  show z_ok sx d 343 260 (z_set1 lo 5 (.int c1)) [.int c2] h2 _
  refine zh_ist zJ_343 (a := 6) (b := 0) (z := 0) (zQf (k := 260) 4 zQd_8 rfl rfl) (k' := 261) rfl ?_
  refine zgoto (zQf (k := 261) 5 zQd_8 rfl rfl) ?_
  exact K.use I2 ((Lv.set (b := 5) (v := c1) (by omega)).set (b := 6) (v := c2) (by omega)) (by omega) (by omega) (by omega)
set_option maxRecDepth 100000 in
theorem zcs_10 {sx : zX} {d : Nat} {ty : List Nat} {lo : zL} {h : zH} {Ψ : zO → zH → Nat → Nat → Prop} {ax am ao i : Nat} {N : Int} (H : ∀ (c : Nat) (c' : zCt), zCtl[c]? = some c' → zVd z_tt zE1 c') (hd : 60 ≤ d) (hi : i + 6 ≤ sx.1) (hL : sx.1 ≤ 3072) (hB : h.length + 6 ≤ zB) (I : zIw ty h ax am ao N) (Lv : zLv lo ax am ao i) (K : zKc sx d ax am ao i h Ψ) : z_ok sx d 343 262 lo [] h Ψ := by
  refine zh_ald zJ_343 (k' := 263) (zQf (k := 262) 6 zQd_8 rfl rfl) rfl Lv.2.1 ?_
  refine zscr 263 264 265 266 267 268 1 (zQf (k := 263) 7 zQd_8 rfl rfl) (zQf (k := 264) 8 zQd_8 rfl rfl) (zQf (k := 265) 9 zQd_8 rfl rfl) (zQf (k := 266) 10 zQd_8 rfl rfl) (zQf (k := 267) 11 zQd_8 rfl rfl) rfl rfl rfl rfl rfl rfl (by omega) Lv hi hL (fun v0 ev0 => ?_)
  refine zscr 268 269 270 271 272 273 2 (zQf (k := 268) 12 zQd_8 rfl rfl) (zQf (k := 269) 13 zQd_8 rfl rfl) (zQf (k := 270) 14 zQd_8 rfl rfl) (zQf (k := 271) 15 zQd_8 rfl rfl) (zQf (k := 272) 16 zQd_8 rfl rfl) rfl rfl rfl rfl rfl rfl (by omega) Lv hi hL (fun v1 ev1 => ?_)
  refine zh_ald zJ_343 (k' := 274) (zQf (k := 273) 17 zQd_8 rfl rfl) rfl Lv.2.2.2.1 ?_
  refine zlcq (ct := zC281) (as := [.ref ax, .int v0, .int v1, .ref ao]) (i := (72, 322, 4, 0)) I.v (zQf (k := 274) 18 zQd_8 rfl rfl) (k' := 275) rfl (by decide) (zcal72 (xs := [.ref ao, .int v1, .int v0, .ref ax]) (rest := []) (by omega) rfl rfl (Nat.le_of_ble_eq_true rfl) (M' := z_m322) rfl (Nat.le_of_ble_eq_true rfl)) (H 281 _ rfl) rfl (by show 10 + 1 ≤ d; omega) rfl (by decide +kernel) (by decide +kernel) (by decide +kernel) ⟨⟨ax, 1, rfl, I.2.2.1, Int.le_refl _, Int.le_refl _⟩, zFull_ok _, zFull_ok _, ⟨ao, 33, rfl, I.2.2.2.2.1, Int.le_refl _, Int.le_refl _⟩, trivial⟩ sq_322 rfl (fun ty1 h1 w1 x1 y1 I1 V1 G1 cx1 cy1 l1 => ?_)
  have cx1 : x1 ≤ 1 := cx1
  have cy1 : y1 ≤ 6 := cy1
  match w1, V1, G1 with
  | some w1, V1, G1 =>
  obtain ⟨c1, rfl, -⟩ := V1
  have G1 : p_322 ax v0 v1 ao (za h) c1 (za h1) := by
    obtain ⟨r9, er9, g9⟩ := G1
    have er9 : r9 = c1 := by cases er9; rfl
    rw [er9] at g9
    exact g9
  show z_ok sx d 343 275 lo [.int c1] h1 _
  refine zh_ist zJ_343 (a := 5) (b := 0) (z := 0) (zQf (k := 275) 19 zQd_8 rfl rfl) (k' := 276) rfl ?_
  refine zh_ald zJ_343 (k' := 277) (zQf (k := 276) 20 zQd_8 rfl rfl) rfl (Lv.set (b := 5) (v := c1) (by omega)).2.2.1 ?_
  refine zscr 277 278 279 280 281 282 1 (zQf (k := 277) 21 zQd_8 rfl rfl) (zQf (k := 278) 22 zQd_8 rfl rfl) (zQf (k := 279) 23 zQd_8 rfl rfl) (zQf (k := 280) 24 zQd_8 rfl rfl) (zQf (k := 281) 25 zQd_8 rfl rfl) rfl rfl rfl rfl rfl rfl (by omega) (Lv.set (b := 5) (v := c1) (by omega)) hi hL (fun v2 ev2 => ?_)
  refine zscr 282 283 284 285 286 287 2 (zQf (k := 282) 26 zQd_8 rfl rfl) (zQf (k := 283) 27 zQd_8 rfl rfl) (zQf (k := 284) 28 zQd_8 rfl rfl) (zQf (k := 285) 29 zQd_8 rfl rfl) (zQf (k := 286) 30 zQd_8 rfl rfl) rfl rfl rfl rfl rfl rfl (by omega) (Lv.set (b := 5) (v := c1) (by omega)) hi hL (fun v3 ev3 => ?_)
  obtain ⟨fs1, he1, -⟩ := zcell0 (c := 9) (n := 23) I1.1 I1.2.2.2.1 rfl rfl rfl
  refine zlcq (ct := zC187) (as := [.ref am, .int v2, .int v3]) (i := (54, 253, 2, 9)) I1 (zQf (k := 287) 31 zQd_8 rfl rfl) (k' := 288) rfl (by decide) (zcal54 (xs := [.int v3, .int v2]) (rest := []) (by omega) rfl rfl he1 rfl (Nat.le_of_ble_eq_true rfl) (M' := z_m253) rfl (Nat.le_of_ble_eq_true rfl)) (H 187 _ rfl) rfl (by show 2 + 1 ≤ d; omega) rfl (by decide +kernel) (by decide +kernel) (by decide +kernel) ⟨⟨am, 20, rfl, I1.2.2.2.1, Int.le_refl _, Int.le_refl _⟩, zFull_ok _, zFull_ok _, trivial⟩ sq_253 rfl (fun ty2 h2 w2 x2 y2 I2 V2 G2 cx2 cy2 l2 => ?_)
  have cx2 : x2 ≤ 0 := cx2
  have cy2 : y2 ≤ 0 := cy2
  match w2, V2, G2 with
  | some w2, V2, G2 =>
  obtain ⟨c2, rfl, -⟩ := V2
  have G2 : p_253 am v2 v3 (za h1) c2 (za h2) := by
    obtain ⟨r9, er9, g9⟩ := G2
    have er9 : r9 = c2 := by cases er9; rfl
    rw [er9] at g9
    exact g9
  have ee0 : v2 = v0 := by rw [ev2, ev0]
  have ee1 : v3 = v1 := by rw [ev3, ev1]
  rw [ee0, ee1] at G2
  have Z2 : zHld (za h2) ∧ zLik (za h2) c1 c2 := by
    obtain ⟨⟨rfl, rfl, rfl⟩, -⟩ := I.lx
    obtain ⟨p0, w0, K0, R0⟩ := I.hd
    exact zq_10 w0 K0 R0 G1 G2
  have I2 := I2.w Z2.1
  have GE : ∃ t : Int32, zv h2 am 0 = .int t ∧ t.toInt = c1.toInt ∧ (c1.toInt = 0 → zv h2 ao 0 = .long c2.toInt64) := by
    obtain ⟨⟨rfl, rfl, rfl⟩, -⟩ := I.lx
    exact Z2.2
  have zx2 : x2 = 0 := by omega
  have zy2 : y2 = 0 := by omega
  subst zx2
  subst zy2
  show z_ok sx d 343 288 (z_set1 lo 5 (.int c1)) [.int c2] h2 _
  refine zh_ist zJ_343 (a := 6) (b := 0) (z := 0) (zQf (k := 288) 0 zQd_9 rfl rfl) (k' := 289) rfl ?_
  refine zgoto (zQf (k := 289) 1 zQd_9 rfl rfl) ?_
  exact K.use I2 ((Lv.set (b := 5) (v := c1) (by omega)).set (b := 6) (v := c2) (by omega)) (by omega) (by omega) (by omega)
set_option maxRecDepth 100000 in
theorem zcs_11 {sx : zX} {d : Nat} {ty : List Nat} {lo : zL} {h : zH} {Ψ : zO → zH → Nat → Nat → Prop} {ax am ao i : Nat} {N : Int} (H : ∀ (c : Nat) (c' : zCt), zCtl[c]? = some c' → zVd z_tt zE1 c') (hd : 60 ≤ d) (hi : i + 6 ≤ sx.1) (hL : sx.1 ≤ 3072) (hB : h.length + 6 ≤ zB) (I : zIw ty h ax am ao N) (Lv : zLv lo ax am ao i) (K : zKc sx d ax am ao i h Ψ) : z_ok sx d 343 290 lo [] h Ψ := by
  refine zh_ald zJ_343 (k' := 291) (zQf (k := 290) 2 zQd_9 rfl rfl) rfl Lv.2.1 ?_
  refine zscr 291 292 293 294 295 296 1 (zQf (k := 291) 3 zQd_9 rfl rfl) (zQf (k := 292) 4 zQd_9 rfl rfl) (zQf (k := 293) 5 zQd_9 rfl rfl) (zQf (k := 294) 6 zQd_9 rfl rfl) (zQf (k := 295) 7 zQd_9 rfl rfl) rfl rfl rfl rfl rfl rfl (by omega) Lv hi hL (fun v0 ev0 => ?_)
  refine zscr 296 297 298 299 300 301 2 (zQf (k := 296) 8 zQd_9 rfl rfl) (zQf (k := 297) 9 zQd_9 rfl rfl) (zQf (k := 298) 10 zQd_9 rfl rfl) (zQf (k := 299) 11 zQd_9 rfl rfl) (zQf (k := 300) 12 zQd_9 rfl rfl) rfl rfl rfl rfl rfl rfl (by omega) Lv hi hL (fun v1 ev1 => ?_)
  refine zh_ald zJ_343 (k' := 302) (zQf (k := 301) 13 zQd_9 rfl rfl) rfl Lv.2.2.2.1 ?_
  refine zlcq (ct := zC282) (as := [.ref ax, .int v0, .int v1, .ref ao]) (i := (72, 323, 4, 0)) I.v (zQf (k := 302) 14 zQd_9 rfl rfl) (k' := 303) rfl (by decide) (zcal72 (xs := [.ref ao, .int v1, .int v0, .ref ax]) (rest := []) (by omega) rfl rfl (Nat.le_of_ble_eq_true rfl) (M' := z_m323) rfl (Nat.le_of_ble_eq_true rfl)) (H 282 _ rfl) rfl (by show 10 + 1 ≤ d; omega) rfl (by decide +kernel) (by decide +kernel) (by decide +kernel) ⟨⟨ax, 1, rfl, I.2.2.1, Int.le_refl _, Int.le_refl _⟩, zFull_ok _, zFull_ok _, ⟨ao, 33, rfl, I.2.2.2.2.1, Int.le_refl _, Int.le_refl _⟩, trivial⟩ sq_323 rfl (fun ty1 h1 w1 x1 y1 I1 V1 G1 cx1 cy1 l1 => ?_)
  have cx1 : x1 ≤ 1 := cx1
  have cy1 : y1 ≤ 6 := cy1
  match w1, V1, G1 with
  | some w1, V1, G1 =>
  obtain ⟨c1, rfl, -⟩ := V1
  have G1 : p_323 ax v0 v1 ao (za h) c1 (za h1) := by
    obtain ⟨r9, er9, g9⟩ := G1
    have er9 : r9 = c1 := by cases er9; rfl
    rw [er9] at g9
    exact g9
  show z_ok sx d 343 303 lo [.int c1] h1 _
  refine zh_ist zJ_343 (a := 5) (b := 0) (z := 0) (zQf (k := 303) 15 zQd_9 rfl rfl) (k' := 304) rfl ?_
  refine zh_ald zJ_343 (k' := 305) (zQf (k := 304) 16 zQd_9 rfl rfl) rfl (Lv.set (b := 5) (v := c1) (by omega)).2.2.1 ?_
  refine zscr 305 306 307 308 309 310 1 (zQf (k := 305) 17 zQd_9 rfl rfl) (zQf (k := 306) 18 zQd_9 rfl rfl) (zQf (k := 307) 19 zQd_9 rfl rfl) (zQf (k := 308) 20 zQd_9 rfl rfl) (zQf (k := 309) 21 zQd_9 rfl rfl) rfl rfl rfl rfl rfl rfl (by omega) (Lv.set (b := 5) (v := c1) (by omega)) hi hL (fun v2 ev2 => ?_)
  refine zscr 310 311 312 313 314 315 2 (zQf (k := 310) 22 zQd_9 rfl rfl) (zQf (k := 311) 23 zQd_9 rfl rfl) (zQf (k := 312) 24 zQd_9 rfl rfl) (zQf (k := 313) 25 zQd_9 rfl rfl) (zQf (k := 314) 26 zQd_9 rfl rfl) rfl rfl rfl rfl rfl rfl (by omega) (Lv.set (b := 5) (v := c1) (by omega)) hi hL (fun v3 ev3 => ?_)
  obtain ⟨fs1, he1, -⟩ := zcell0 (c := 9) (n := 23) I1.1 I1.2.2.2.1 rfl rfl rfl
  refine zlcq (ct := zC188) (as := [.ref am, .int v2, .int v3]) (i := (54, 255, 2, 9)) I1 (zQf (k := 315) 27 zQd_9 rfl rfl) (k' := 316) rfl (by decide) (zcal54 (xs := [.int v3, .int v2]) (rest := []) (by omega) rfl rfl he1 rfl (Nat.le_of_ble_eq_true rfl) (M' := z_m255) rfl (Nat.le_of_ble_eq_true rfl)) (H 188 _ rfl) rfl (by show 2 + 1 ≤ d; omega) rfl (by decide +kernel) (by decide +kernel) (by decide +kernel) ⟨⟨am, 20, rfl, I1.2.2.2.1, Int.le_refl _, Int.le_refl _⟩, zFull_ok _, zFull_ok _, trivial⟩ sq_255 rfl (fun ty2 h2 w2 x2 y2 I2 V2 G2 cx2 cy2 l2 => ?_)
  have cx2 : x2 ≤ 0 := cx2
  have cy2 : y2 ≤ 0 := cy2
  match w2, V2, G2 with
  | some w2, V2, G2 =>
  obtain ⟨c2, rfl, -⟩ := V2
  have G2 : p_255 am v2 v3 (za h1) c2 (za h2) := by
    obtain ⟨r9, er9, g9⟩ := G2
    have er9 : r9 = c2 := by cases er9; rfl
    rw [er9] at g9
    exact g9
  have ee0 : v2 = v0 := by rw [ev2, ev0]
  have ee1 : v3 = v1 := by rw [ev3, ev1]
  rw [ee0, ee1] at G2
  have Z2 : zHld (za h2) ∧ zLik (za h2) c1 c2 := by
    obtain ⟨⟨rfl, rfl, rfl⟩, -⟩ := I.lx
    obtain ⟨p0, w0, K0, R0⟩ := I.hd
    exact zq_11 w0 K0 R0 G1 G2
  have I2 := I2.w Z2.1
  have GE : ∃ t : Int32, zv h2 am 0 = .int t ∧ t.toInt = c1.toInt ∧ (c1.toInt = 0 → zv h2 ao 0 = .long c2.toInt64) := by
    obtain ⟨⟨rfl, rfl, rfl⟩, -⟩ := I.lx
    exact Z2.2
  have zx2 : x2 = 0 := by omega
  have zy2 : y2 = 0 := by omega
  subst zx2
  subst zy2
  show z_ok sx d 343 316 (z_set1 lo 5 (.int c1)) [.int c2] h2 _
  refine zh_ist zJ_343 (a := 6) (b := 0) (z := 0) (zQf (k := 316) 28 zQd_9 rfl rfl) (k' := 317) rfl ?_
  refine zgoto (zQf (k := 317) 29 zQd_9 rfl rfl) ?_
  exact K.use I2 ((Lv.set (b := 5) (v := c1) (by omega)).set (b := 6) (v := c2) (by omega)) (by omega) (by omega) (by omega)
end
