/-! the law's loop; printed with wip/gen/gen_loop.py -/
set_option maxRecDepth 100000 in
theorem zsw_all {sx : zX} {d : Nat} {ty : List Nat} {lo : zL} {h : zH} {Ψ : zO → zH → Nat → Nat → Prop} {ax am ao i : Nat} {N : Int} (H : ∀ (c : Nat) (c' : zCt), zCtl[c]? = some c' → zVd z_tt zE1 c') (hd : 60 ≤ d) (hi : i + 6 ≤ sx.1) (hL : sx.1 ≤ 3072) (hB : h.length + 6 ≤ zB) (I : zIw ty h ax am ao N) (Lv : zLv lo ax am ao i) (K : zKc sx d ax am ao i h Ψ) : ∀ m : Nat, z_ok sx d 343 (((([25, 82, 99, 107, 115, 122, 157, 185, 223, 251, 279, 307, 335, 353, 371, 389, 397, 404, 422, 429, 457, 464, 471, 478, 485, 502, 530, 548, 586, 612, 619, 626, 644, 651, 679, 697, 715, 733, 740, 747, 783, 819, 855, 883, 900, 907, 912, 919] : List Nat))[m]?).getD 936) lo [] h Ψ
  | 0 => zcs_0 H hd hi hL hB I Lv K
  | 1 => zcs_1 H hd hi hL hB I Lv K
  | 2 => zcs_2 H hd hi hL hB I Lv K
  | 3 => zcs_3 H hd hi hL hB I Lv K
  | 4 => zcs_4 H hd hi hL hB I Lv K
  | 5 => zcs_5 H hd hi hL hB I Lv K
  | 6 => zcs_6 H hd hi hL hB I Lv K
  | 7 => zcs_7 H hd hi hL hB I Lv K
  | 8 => zcs_8 H hd hi hL hB I Lv K
  | 9 => zcs_9 H hd hi hL hB I Lv K
  | 10 => zcs_10 H hd hi hL hB I Lv K
  | 11 => zcs_11 H hd hi hL hB I Lv K
  | 12 => zcs_12 H hd hi hL hB I Lv K
  | 13 => zcs_13 H hd hi hL hB I Lv K
  | 14 => zcs_14 H hd hi hL hB I Lv K
  | 15 => zcs_15 H hd hi hL hB I Lv K
  | 16 => zcs_16 H hd hi hL hB I Lv K
  | 17 => zcs_17 H hd hi hL hB I Lv K
  | 18 => zcs_18 H hd hi hL hB I Lv K
  | 19 => zcs_19 H hd hi hL hB I Lv K
  | 20 => zcs_20 H hd hi hL hB I Lv K
  | 21 => zcs_21 H hd hi hL hB I Lv K
  | 22 => zcs_22 H hd hi hL hB I Lv K
  | 23 => zcs_23 H hd hi hL hB I Lv K
  | 24 => zcs_24 H hd hi hL hB I Lv K
  | 25 => zcs_25 H hd hi hL hB I Lv K
  | 26 => zcs_26 H hd hi hL hB I Lv K
  | 27 => zcs_27 H hd hi hL hB I Lv K
  | 28 => zcs_28 H hd hi hL hB I Lv K
  | 29 => zcs_29 H hd hi hL hB I Lv K
  | 30 => zcs_30 H hd hi hL hB I Lv K
  | 31 => zcs_31 H hd hi hL hB I Lv K
  | 32 => zcs_32 H hd hi hL hB I Lv K
  | 33 => zcs_33 H hd hi hL hB I Lv K
  | 34 => zcs_34 H hd hi hL hB I Lv K
  | 35 => zcs_35 H hd hi hL hB I Lv K
  | 36 => zcs_36 H hd hi hL hB I Lv K
  | 37 => zcs_37 H hd hi hL hB I Lv K
  | 38 => zcs_38 H hd hi hL hB I Lv K
  | 39 => zcs_39 H hd hi hL hB I Lv K
  | 40 => zcs_40 H hd hi hL hB I Lv K
  | 41 => zcs_41 H hd hi hL hB I Lv K
  | 42 => zcs_42 H hd hi hL hB I Lv K
  | 43 => zcs_43 H hd hi hL hB I Lv K
  | 44 => zcs_44 H hd hi hL hB I Lv K
  | 45 => zcs_45 H hd hi hL hB I Lv K
  | 46 => zcs_46 H hd hi hL hB I Lv K
  | 47 => zcs_47 H hd hi hL hB I Lv K
  | n + 48 => z_ok.imp (K ty lo h N 0 0 I Lv (by omega) (by omega) (by omega)) (fun o h9 a b q => q)
theorem zcmp_gt {x y : Int32} : z_cmp 4 x y = true ↔ y.toInt < x.toInt := by
  show decide (y < x) = true ↔ _
  rw [decide_eq_true_eq, Int32.lt_iff_toInt_lt]
theorem zLv.next {lo : zL} {ax am ao i : Nat} {x : Int32} (L : zLv lo ax am ao i) (ex : x.toInt = ((i + 6 : Nat) : Int)) : zLv (z_set1 lo 4 (.int x)) ax am ao (i + 6) := by
  obtain ⟨g0, g1, g2, g3, -⟩ := L
  exact ⟨zget_set1_ne g0 (by omega) rfl, zget_set1_ne g1 (by omega) rfl, zget_set1_ne g2 (by omega) rfl, zget_set1_ne g3 (by omega) rfl, x, zget_self, ex⟩
set_option maxRecDepth 100000 in
theorem zLp_343 {sx : zX} {d ax am ao : Nat} (H : ∀ (c : Nat) (c' : zCt), zCtl[c]? = some c' → zVd z_tt zE1 c') (hd : 60 ≤ d) (hL : sx.1 ≤ 3072) : ∀ (r i : Nat) (ty : List Nat) (lo : zL) (h : zH) (N : Int), sx.1 ≤ i + 6 * r + 5 → i ≤ 4000 → h.length + 7 * r ≤ zB → zIw ty h ax am ao N → zLv lo ax am ao i → z_ok sx d 343 13 lo [] h (fun o _ x y => o = .inl (some (.int 1)) ∧ x ≤ 7 * r ∧ y ≤ 1000 * r)
  | r, i, ty, lo, h, N, hr, hi4, hB, I, Lv => by
    obtain ⟨g0, g1, g2, g3, x, g4, ex⟩ := Lv
    refine zh_ild zJ_343 (a := 4) (b := 0) (z := 0) rfl (k' := 14) rfl g4 ?_
    refine zh_ald zJ_343 (a := 0) (b := 0) (z := 0) rfl (k' := 15) rfl g0 ?_
    refine zh zJ_343 (i := (66, 0, 0, 0)) rfl rfl (k' := 16) (lo' := lo) (st' := [.int (Int32.ofNat sx.1), .int x]) (h' := h) (by
      show zo_slen sx d 0 0 0 15 lo [.ref zS, .int x] h = _
      unfold zo_slen
      exact if_pos rfl) ?_
    refine zh zJ_343 (i := (0, 0, 0, 6)) rfl rfl (k' := 17) (lo' := lo) (st' := [.int (Int32.ofInt (6)), .int (Int32.ofNat sx.1), .int x]) (h' := h) rfl ?_
    refine zh zJ_343 (i := (9, 0, 0, 0)) rfl rfl (k' := 18) (lo' := lo) (st' := [.int (Int32.ofNat sx.1 - Int32.ofInt (6)), .int x]) (h' := h) rfl ?_
    have eL : (Int32.ofNat sx.1).toInt = (sx.1 : Int) := Int32.toInt_ofNat_of_lt (by omega)
    have e6 : (Int32.ofNat sx.1 - Int32.ofInt (6)).toInt = (sx.1 : Int) - 6 := zI_sub eL (zI_c (by decide) (by decide)) (by omega) (by omega)
    refine zh_icmp zJ_343 (a := 938) (b := 4) (z := 0) rfl (fun hc => ?_) (fun hc => ?_)
    · refine zh zJ_343 (i := (0, 0, 0, 1)) rfl rfl (k' := 939) (lo' := lo) (st' := [.int (Int32.ofInt (1))]) (h' := h) rfl ?_
      refine zh_iret zJ_343 (a := 0) (b := 0) (z := 0) rfl (Or.inr ⟨rfl, Or.inr rfl⟩) ?_
      exact ⟨rfl, Nat.zero_le _, Nat.zero_le _⟩
    · have hle : (i : Int) ≤ (sx.1 : Int) - 6 := by
        have := mt zcmp_gt.mpr hc
        omega
      have hi6 : i + 6 ≤ sx.1 := by omega
      refine zh_ald zJ_343 (a := 0) (b := 0) (z := 0) rfl (k' := 20) rfl g0 ?_
      refine zh_ild zJ_343 (a := 4) (b := 0) (z := 0) rfl (k' := 21) rfl g4 ?_
      refine zh zJ_343 (i := (65, 0, 0, 0)) rfl rfl (k' := 22) (lo' := lo) (st' := [.int (sx.2 i)]) (h' := h) (by
        show zo_sald sx d 0 0 0 21 lo [.int x, .ref zS] h = _
        unfold zo_sald
        dsimp only
        rw [if_pos ⟨rfl, (z_inn (by omega) (by omega)).1⟩, znat ex]) ?_
      refine zh zJ_343 (i := (0, 0, 0, 63)) rfl rfl (k' := 23) (lo' := lo) (st' := [.int (Int32.ofInt (63)), .int (sx.2 i)]) (h' := h) rfl ?_
      refine zh zJ_343 (i := (16, 0, 0, 0)) rfl rfl (k' := 24) (lo' := lo) (st' := [.int (sx.2 i &&& Int32.ofInt (63))]) (h' := h) rfl ?_
      have hand := zand_ok (sx.2 i) (Int32.ofInt (63)) (by decide)
      generalize sx.2 i &&& Int32.ofInt (63) = c at hand ⊢
      refine zh zJ_343 (i := (35, 8, 0, 0)) rfl rfl (k' := (((([25, 82, 99, 107, 115, 122, 157, 185, 223, 251, 279, 307, 335, 353, 371, 389, 397, 404, 422, 429, 457, 464, 471, 478, 485, 502, 530, 548, 586, 612, 619, 626, 644, 651, 679, 697, 715, 733, 740, 747, 783, 819, 855, 883, 900, 907, 912, 919] : List Nat))[c.toInt.toNat]?).getD 936)) (lo' := lo) (st' := []) (h' := h) (by
        show zn (z_swt (0, _, 936) c) lo [] h = _
        unfold z_swt
        rw [if_neg (show ¬ c.toInt < 0 by omega), Int.sub_zero]) ?_
      obtain ⟨r, rfl⟩ : ∃ r', r = r' + 1 := ⟨r - 1, by omega⟩
      refine zsw_all H hd hi6 hL (by omega) I ⟨g0, g1, g2, g3, x, g4, ex⟩ (fun ty' lo' h' N' x1 y1 I' Lv' hx hy hl => ?_) c.toInt.toNat
      obtain ⟨k0, k1, k2, k3, u, k4, eu⟩ := Lv'
      refine zh_iinc zJ_343 (a := 4) (b := 0) (z := 6) rfl (k' := 937) rfl k4 ?_
      refine zgoto rfl ?_
      refine z_ok.imp (zLp_343 H hd hL r (i + 6) ty' _ h' N' (by omega) (by omega) (by omega) I' (zLv.next ⟨k0, k1, k2, k3, u, k4, eu⟩ (by rw [zI_add eu (zI_c (by decide) (by decide)) (by omega) (by omega)]; omega))) (fun o h9 a b q => ?_)
      exact ⟨q.1, by have := q.2.1; omega, by have := q.2.2; omega⟩
termination_by r => r
decreasing_by omega
