/-! the tables are right, by the kernel, method by method -/
noncomputable def z_ck4 : List zMi → List (List zI) → List (List zJ) → List (List zHd) → Prop
  | [], [], [], [] => True
  | m :: ms, c :: cs, i :: is, h :: hs => z_ckM m c i h = true ∧ z_ck4 ms cs is hs
  | _, _, _, _ => False
theorem z_ck4_app : ∀ {a a' : List zMi} {b b' : List (List zI)} {c c' : List (List zJ)} {d d' : List (List zHd)}, z_ck4 a b c d → z_ck4 a' b' c' d' → z_ck4 (a ++ a') (b ++ b') (c ++ c') (d ++ d')
  | [], _, [], _, [], _, [], _, _, h2 => h2
  | _ :: _, _, _ :: _, _, _ :: _, _, _ :: _, _, h1, h2 => ⟨h1.1, z_ck4_app h1.2 h2⟩
theorem z_ck4_at : ∀ {a : List zMi} {b : List (List zI)} {c : List (List zJ)} {d : List (List zHd)}, z_ck4 a b c d → ∀ (j : Nat) (M : zMi) (cs : List zI) (is : List zJ) (hs : List zHd), a[j]? = some M → b[j]? = some cs → c[j]? = some is → d[j]? = some hs → z_ckM M cs is hs = true
  | [], [], [], [], _, j, M, cs, is, hs, h1, _, _, _ => by simp at h1
  | _ :: _, _ :: _, _ :: _, _ :: _, h, 0, M, cs, is, hs, h1, h2, h3, h4 => by
    simp only [List.getElem?_cons_zero, Option.some.injEq] at h1 h2 h3 h4
    subst h1; subst h2; subst h3; subst h4
    exact h.1
  | _ :: _, _ :: _, _ :: _, _ :: _, h, j + 1, M, cs, is, hs, h1, h2, h3, h4 => by
    simp only [List.getElem?_cons_succ] at h1 h2 h3 h4
    exact z_ck4_at h.2 j M cs is hs h1 h2 h3 h4
theorem z_ck4_len : ∀ {a : List zMi} {b : List (List zI)} {c : List (List zJ)} {d : List (List zHd)}, z_ck4 a b c d → b.length = a.length ∧ c.length = a.length ∧ d.length = a.length
  | [], [], [], [], _ => ⟨rfl, rfl, rfl⟩
  | _ :: _, _ :: _, _ :: _, _ :: _, h => by
    obtain ⟨h1, h2, h3⟩ := z_ck4_len h.2
    exact ⟨by simp [h1], by simp [h2], by simp [h3]⟩
theorem zt_0 : z_ckM z_m0 z_c0 z_i0 z_h0 = true := z_ckF_ok (c := 0) rfl rfl (plainFor_of_name zpn_0) rfl (by decide +kernel)
theorem zt_1 : z_ckM z_m1 z_c1 z_i1 z_h1 = true := z_ckF_ok (c := 0) rfl rfl (plainFor_of_name zpn_0) rfl (by decide +kernel)
theorem zt_2 : z_ckM z_m2 z_c2 z_i2 z_h2 = true := z_ckF_ok (c := 0) rfl rfl (plainFor_of_name zpn_0) rfl (by decide +kernel)
theorem zt_3 : z_ckM z_m3 z_c3 z_i3 z_h3 = true := z_ckF_ok (c := 0) rfl rfl (plainFor_of_name zpn_0) rfl (by decide +kernel)
theorem zt_4 : z_ckM z_m4 z_c4 z_i4 z_h4 = true := z_ckF_ok (c := 0) rfl rfl (plainFor_of_name zpn_0) rfl (by decide +kernel)
theorem zt_5 : z_ckM z_m5 z_c5 z_i5 z_h5 = true := z_ckF_ok (c := 0) rfl rfl (plainFor_of_name zpn_0) rfl (by decide +kernel)
theorem zt_6 : z_ckM z_m6 z_c6 z_i6 z_h6 = true := z_ckF_ok (c := 0) rfl rfl (plainFor_of_name zpn_0) rfl (by decide +kernel)
theorem zt_7 : z_ckM z_m7 z_c7 z_i7 z_h7 = true := z_ckF_ok (c := 1) rfl rfl (plainFor_of_name zpn_1) rfl (by decide +kernel)
theorem zt_8 : z_ckM z_m8 z_c8 z_i8 z_h8 = true := z_ckF_ok (c := 1) rfl rfl (plainFor_of_name zpn_1) rfl (by decide +kernel)
theorem zt_9 : z_ckM z_m9 z_c9 z_i9 z_h9 = true := z_ckF_ok (c := 1) rfl rfl (plainFor_of_name zpn_1) rfl (by decide +kernel)
theorem zt_10 : z_ckM z_m10 z_c10 z_i10 z_h10 = true := z_ckF_ok (c := 1) rfl rfl (plainFor_of_name zpn_1) rfl (by decide +kernel)
theorem zt_11 : z_ckM z_m11 z_c11 z_i11 z_h11 = true := z_ckF_ok (c := 1) rfl rfl (plainFor_of_name zpn_1) rfl (by decide +kernel)
theorem zt_12 : z_ckM z_m12 z_c12 z_i12 z_h12 = true := z_ckF_ok (c := 1) rfl rfl (plainFor_of_name zpn_1) rfl (by decide +kernel)
theorem zt_13 : z_ckM z_m13 z_c13 z_i13 z_h13 = true := z_ckF_ok (c := 1) rfl rfl (plainFor_of_name zpn_1) rfl (by decide +kernel)
theorem zt_14 : z_ckM z_m14 z_c14 z_i14 z_h14 = true := z_ckF_ok (c := 1) rfl rfl (plainFor_of_name zpn_1) rfl (by decide +kernel)
theorem zt_15 : z_ckM z_m15 z_c15 z_i15 z_h15 = true := z_ckF_ok (c := 1) rfl rfl (plainFor_of_name zpn_1) rfl (by decide +kernel)
theorem zt_16 : z_ckM z_m16 z_c16 z_i16 z_h16 = true := z_ckF_ok (c := 1) rfl rfl (plainFor_of_name zpn_1) rfl (by decide +kernel)
theorem zt_17 : z_ckM z_m17 z_c17 z_i17 z_h17 = true := z_ckF_ok (c := 1) rfl rfl (plainFor_of_name zpn_1) rfl (by decide +kernel)
theorem zt_18 : z_ckM z_m18 z_c18 z_i18 z_h18 = true := z_ckF_ok (c := 1) rfl rfl (plainFor_of_name zpn_1) rfl (by decide +kernel)
theorem zt_19 : z_ckM z_m19 z_c19 z_i19 z_h19 = true := z_ckF_ok (c := 1) rfl rfl (plainFor_of_name zpn_1) rfl (by decide +kernel)
theorem zt_20 : z_ckM z_m20 z_c20 z_i20 z_h20 = true := z_ckF_ok (c := 1) rfl rfl (plainFor_of_name zpn_1) rfl (by decide +kernel)
theorem zt_21 : z_ckM z_m21 z_c21 z_i21 z_h21 = true := z_ckF_ok (c := 1) rfl rfl (plainFor_of_name zpn_1) rfl (by decide +kernel)
theorem zt_22 : z_ckM z_m22 z_c22 z_i22 z_h22 = true := z_ckF_ok (c := 2) rfl rfl (plainFor_of_name zpn_2) rfl (by decide +kernel)
theorem zt_23 : z_ckM z_m23 z_c23 z_i23 z_h23 = true := z_ckF_ok (c := 2) rfl rfl (plainFor_of_name zpn_2) rfl (by decide +kernel)
theorem zt_24 : z_ckM z_m24 z_c24 z_i24 z_h24 = true := z_ckF_ok (c := 2) rfl rfl (plainFor_of_name zpn_2) rfl (by decide +kernel)
theorem zt_25 : z_ckM z_m25 z_c25 z_i25 z_h25 = true := z_ckF_ok (c := 2) rfl rfl (plainFor_of_name zpn_2) rfl (by decide +kernel)
theorem zt_26 : z_ckM z_m26 z_c26 z_i26 z_h26 = true := z_ckF_ok (c := 2) rfl rfl (plainFor_of_name zpn_2) rfl (by decide +kernel)
theorem zt_27 : z_ckM z_m27 z_c27 z_i27 z_h27 = true := z_ckF_ok (c := 2) rfl rfl (plainFor_of_name zpn_2) rfl (by decide +kernel)
theorem zt_28 : z_ckM z_m28 z_c28 z_i28 z_h28 = true := z_ckF_ok (c := 2) rfl rfl (plainFor_of_name zpn_2) rfl (by decide +kernel)
theorem zt_29 : z_ckM z_m29 z_c29 z_i29 z_h29 = true := z_ckF_ok (c := 2) rfl rfl (plainFor_of_name zpn_2) rfl (by decide +kernel)
theorem zt_30 : z_ckM z_m30 z_c30 z_i30 z_h30 = true := z_ckF_ok (c := 2) rfl rfl (plainFor_of_name zpn_2) rfl (by decide +kernel)
theorem zt_31 : z_ckM z_m31 z_c31 z_i31 z_h31 = true := z_ckF_ok (c := 2) rfl rfl (plainFor_of_name zpn_2) rfl (by decide +kernel)
theorem zt_32 : z_ckM z_m32 z_c32 z_i32 z_h32 = true := z_ckF_ok (c := 2) rfl rfl (plainFor_of_name zpn_2) rfl (by decide +kernel)
theorem zt_33 : z_ckM z_m33 z_c33 z_i33 z_h33 = true := z_ckF_ok (c := 2) rfl rfl (plainFor_of_name zpn_2) rfl (by decide +kernel)
theorem zt_34 : z_ckM z_m34 z_c34 z_i34 z_h34 = true := z_ckF_ok (c := 2) rfl rfl (plainFor_of_name zpn_2) rfl (by decide +kernel)
theorem zt_35 : z_ckM z_m35 z_c35 z_i35 z_h35 = true := z_ckF_ok (c := 2) rfl rfl (plainFor_of_name zpn_2) rfl (by decide +kernel)
theorem zt_36 : z_ckM z_m36 z_c36 z_i36 z_h36 = true := z_ckF_ok (c := 2) rfl rfl (plainFor_of_name zpn_2) rfl (by decide +kernel)
theorem zt_37 : z_ckM z_m37 z_c37 z_i37 z_h37 = true := z_ckF_ok (c := 2) rfl rfl (plainFor_of_name zpn_2) rfl (by decide +kernel)
theorem zt_38 : z_ckM z_m38 z_c38 z_i38 z_h38 = true := z_ckF_ok (c := 2) rfl rfl (plainFor_of_name zpn_2) rfl (by decide +kernel)
theorem zt_39 : z_ckM z_m39 z_c39 z_i39 z_h39 = true := z_ckF_ok (c := 2) rfl rfl (plainFor_of_name zpn_2) rfl (by decide +kernel)
theorem zt_40 : z_ckM z_m40 z_c40 z_i40 z_h40 = true := z_ckF_ok (c := 2) rfl rfl (plainFor_of_name zpn_2) rfl (by decide +kernel)
theorem zt_41 : z_ckM z_m41 z_c41 z_i41 z_h41 = true := z_ckF_ok (c := 3) rfl rfl (plainFor_of_name zpn_3) rfl (by decide +kernel)
theorem zt_42 : z_ckM z_m42 z_c42 z_i42 z_h42 = true := z_ckF_ok (c := 3) rfl rfl (plainFor_of_name zpn_3) rfl (by decide +kernel)
theorem zt_g0 : z_ck4 z_ms_0 z_cs_0 z_is_0 z_hs_0 := ⟨zt_0, zt_1, zt_2, zt_3, zt_4, zt_5, zt_6, zt_7, zt_8, zt_9, zt_10, zt_11, zt_12, zt_13, zt_14, zt_15, zt_16, zt_17, zt_18, zt_19, zt_20, zt_21, zt_22, zt_23, zt_24, zt_25, zt_26, zt_27, zt_28, zt_29, zt_30, zt_31, zt_32, zt_33, zt_34, zt_35, zt_36, zt_37, zt_38, zt_39, zt_40, zt_41, zt_42, trivial⟩
