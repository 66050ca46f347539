/-! findsRoom: its inner loop -/
noncomputable def zIv (ty0 : List Nat) (h0 : zH) (a : Nat) (ty : List Nat) (h : zH) (lo : zL) (s : Int32) (cf : Nat → Int32) (r : Int32) : Prop := zExt ty0 ty ∧ zTY z_tt ty h ∧ zE1 ty h ∧ zFm zMlf ty0 h0 h ∧ zSe h a s cf ∧ zChn s cf ∧ z_get lo 0 = some (.ref a) ∧ z_get lo 2 = some (.int r) ∧ (r.toInt = -1 ∨ (0 ≤ r.toInt ∧ r.toInt < 6 ∧ zbit s r = true))
set_option maxRecDepth 100000 in
theorem zLi_286 {sx : zX} {d a : Nat} {ty0 : List Nat} {h0 : zH} {x3 : Int32} {Ψ : zO → zH → Nat → Nat → Prop} (hd : 15 ≤ d) (H : ∀ c, c < 240 → ∀ c', zCtl[c]? = some c' → zVd z_tt zE1 c') (ha0 : ty0[a]? = some 20) (kk : ∀ (ty : List Nat) (h : zH) (lo : zL) (s : Int32) (cf : Nat → Int32) (r : Int32), zIv ty0 h0 a ty h lo s cf r → z_get lo 3 = some (.int x3) → z_ok sx d 286 48 lo [] h Ψ) : ∀ (m : Nat) (ty : List Nat) (h : zH) (lo : zL) (s : Int32) (cf : Nat → Int32) (r x4 : Int32) (i : Nat), zIv ty0 h0 a ty h lo s cf r → z_get lo 3 = some (.int x3) → z_get lo 4 = some (.int x4) → x4.toInt = (i : Int) → i + m = 24 → z_ok sx d 286 18 lo [] h Ψ
  | m, ty, h, lo, s, cf, r, x4, i, I, g3, g4, e4, hm => by
    obtain ⟨X, T, E, F, S, C, g0, g2, V⟩ := id I
    have ih : ∀ (ty : List Nat) (h : zH) (lo : zL) (s : Int32) (cf : Nat → Int32) (r : Int32), zIv ty0 h0 a ty h lo s cf r → z_get lo 3 = some (.int x3) → z_get lo 4 = some (.int x4) → 0 < m → z_ok sx d 286 46 lo [] h Ψ := fun ty h lo s cf r I g3 g4 h0m => by
      obtain ⟨b1, b2, b3, b4, b5, b6, b7, b8, b9⟩ := I
      refine zh_iinc zJ_286 (a := 4) (b := 0) (z := 1) rfl (k' := 47) rfl g4 ?_
      refine zh zJ_286 (i := (30, 18, 0, 0)) rfl rfl (k' := 18) (lo' := z_set1 lo 4 (.int (x4 + Int32.ofInt 1))) (st' := []) (h' := h) rfl ?_
      cases m with
      | zero => omega
      | succ m => exact zLi_286 hd H ha0 kk m ty h _ s cf r _ (i + 1) ⟨b1, b2, b3, b4, b5, b6, zget_set1_ne b7 (by decide) rfl, zget_set1_ne b8 (by decide) rfl, b9⟩ (zget_set1_ne g3 (by decide) rfl) zget_self (zinc e4 (by omega)) (by omega)
    refine zh_ild zJ_286 (a := 4) (b := 0) (z := 0) rfl (k' := 19) rfl g4 ?_
    refine zh zJ_286 (i := (0, 0, 0, 24)) rfl rfl (k' := 20) (lo' := lo) (st' := [.int (Int32.ofInt (24)), .int x4]) (h' := h) rfl ?_
    refine zh_icmp zJ_286 (a := 48) (b := 3) (z := 0) rfl (fun _ => kk ty h lo s cf r I g3) (fun hc => ?_)
    have h24 : x4.toInt < 24 := by
      have : ¬ (Int32.ofInt (24)).toInt ≤ x4.toInt := fun e => hc (zcmp_ge.mpr e)
      rw [show (Int32.ofInt (24)).toInt = 24 from rfl] at this
      omega
    refine zh_ild zJ_286 (a := 2) (b := 0) (z := 0) rfl (k' := 22) rfl g2 ?_
    refine zh zJ_286 (i := (0, 0, 0, -1)) rfl rfl (k' := 23) (lo' := lo) (st' := [.int (Int32.ofInt (-1)), .int r]) (h' := h) rfl ?_
    refine zh_icmp zJ_286 (a := 48) (b := 1) (z := 0) rfl (fun _ => kk ty h lo s cf r I g3) (fun hc2 => ?_)
    obtain ⟨fs, he, hl⟩ := zcell0 (c := 9) (n := 23) T (X a 20 ha0) rfl rfl rfl
    obtain ⟨e1, ec1, wc, k1, k2, k3, k4, k5⟩ := id S
    rw [he] at k1
    cases k1
    have k2 : fs[22]? = some (.int s) := k2
    obtain ⟨wd, hd1, hd2⟩ := zfd2 (b := 18) (u := 29) T (X a 20 ha0) he (by omega) (by decide +kernel)
    obtain ⟨fd, hfd⟩ := zcell1 (n := 24) T hd2 rfl rfl
    have hg := zint (zel (A := (0, -1, 5)) (lo := 0) (hi := 23) (i := x4.toNatClampNeg) T hd2 hfd (by rw [znat e4]; omega) (by decide +kernel) (by omega) (by rw [znat e4]; omega))
    refine zh_ald zJ_286 (a := 0) (b := 0) (z := 0) rfl (k' := 25) rfl g0 ?_
    refine zh_get zJ_286 (b := 18) (c := 9) (z := 0) rfl (k' := 26) rfl he hd1 ?_
    refine zh_ild zJ_286 (a := 4) (b := 0) (z := 0) rfl (k' := 27) rfl g4 ?_
    refine zh_iald zJ_286 (z := 0) rfl (k' := 28) rfl hfd (by omega) (by omega) ?_
    refine zh zJ_286 (i := (0, 0, 0, -1)) rfl rfl (k' := 29) (lo' := lo) (st' := [.int (Int32.ofInt (-1)), .int (fd x4.toNatClampNeg)]) (h' := h) rfl ?_
    refine zh_icmp zJ_286 (a := 46) (b := 0) (z := 0) rfl (fun _ => ih ty h lo s cf r I g3 g4 (by omega)) (fun hc3 => ?_)
    have hne : (fd x4.toNatClampNeg).toInt ≠ -1 := fun e => hc3 (zcmp_eq.mpr (by rw [e]; rfl))
    refine zh_ald zJ_286 (a := 0) (b := 0) (z := 0) rfl (k' := 31) rfl g0 ?_
    refine zh_get zJ_286 (b := 22) (c := 9) (z := 0) rfl (k' := 32) rfl he k2 ?_
    refine zh_ald zJ_286 (a := 0) (b := 0) (z := 0) rfl (k' := 33) rfl g0 ?_
    refine zh_get zJ_286 (b := 18) (c := 9) (z := 0) rfl (k' := 34) rfl he hd1 ?_
    refine zh_ild zJ_286 (a := 4) (b := 0) (z := 0) rfl (k' := 35) rfl g4 ?_
    refine zh_iald zJ_286 (z := 0) rfl (k' := 36) rfl hfd (by omega) (by omega) ?_
    refine zh_run zJ_286 (i := (55, 178, 2, 0)) (rest := []) (as := [.int s, .int (fd x4.toNatClampNeg)]) rfl (by decide) (zcal55 (xs := [.int (fd x4.toNatClampNeg), .int s]) (by omega) rfl rfl (Nat.le_of_ble_eq_true rfl) (M' := z_m178) rfl (Nat.le_of_ble_eq_true rfl)) zR_178 (fun o h' x9 y9 q => ?_)
    obtain ⟨rfl, rfl, rfl, rfl⟩ := q
    refine ⟨_, rfl, rfl, rfl, ?_⟩
    show z_ok sx d 286 37 lo [.int (if zbit s (fd x4.toNatClampNeg) = true then 1 else 0)] h' _
    refine zh_if zJ_286 (a := 46) (b := 0) (z := 0) rfl (fun _ => ih ty h' lo s cf r I g3 g4 (by omega)) (fun hc4 => ?_)
    have hbt : zbit s (fd x4.toNatClampNeg) = true := by
      by_cases e : zbit s (fd x4.toNatClampNeg) = true
      · exact e
      · exact absurd (by rw [if_neg e]; exact zcmp_eq.mpr rfl) hc4
    refine zh_ald zJ_286 (a := 0) (b := 0) (z := 0) rfl (k' := 39) rfl g0 ?_
    refine zh_ild zJ_286 (a := 4) (b := 0) (z := 0) rfl (k' := 40) rfl g4 ?_
    refine zh_ald zJ_286 (a := 0) (b := 0) (z := 0) rfl (k' := 41) rfl g0 ?_
    refine zh_get zJ_286 (b := 18) (c := 9) (z := 0) rfl (k' := 42) rfl he hd1 ?_
    refine zh_ild zJ_286 (a := 4) (b := 0) (z := 0) rfl (k' := 43) rfl g4 ?_
    refine zh_iald zJ_286 (z := 0) rfl (k' := 44) rfl hfd (by omega) (by omega) ?_
    refine zh_run zJ_286 (i := (54, 285, 2, 9)) (rest := []) (as := [.ref a, .int x4, .int (fd x4.toNatClampNeg)]) rfl (by decide) (zcal54 (xs := [.int (fd x4.toNatClampNeg), .int x4]) (by omega) rfl rfl he rfl (Nat.le_of_ble_eq_true rfl) (M' := z_m285) rfl (Nat.le_of_ble_eq_true rfl)) (zR_285 (by omega) H (X a 20 ha0) (by omega) (by omega) T E S C (Or.inr ⟨by omega, by omega, hbt⟩)) (fun o h2 x9 y9 q => ?_)
    obtain ⟨rfl, rfl, ty2, r2, s2, cf2, q1, q2, q3, q4, rfl, q6, q7, q8⟩ := q
    refine ⟨_, rfl, rfl, rfl, ?_⟩
    show z_ok sx d 286 45 lo [.int r2] h2 _
    refine zh_ist zJ_286 (a := 2) (b := 0) (z := 0) rfl (k' := 46) rfl ?_
    exact ih ty2 h2 _ s2 cf2 r2 ⟨X.tr q1, q2, q3, F.tr X q4, q6, q7, zget_set1_ne g0 (by decide) rfl, zget_self, q8⟩ (zget_set1_ne g3 (by decide) rfl) (zget_set1_ne g4 (by decide) rfl) (by omega)
