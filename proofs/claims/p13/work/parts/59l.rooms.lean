section
/-! looksFor from its entry -/
set_option maxRecDepth 100000 in
theorem zR_285 {sx : zX} {d a : Nat} {ty : List Nat} {h : zH} {hr v s : Int32} {cf : Nat → Int32} (hd : 14 ≤ d) (H : ∀ c, c < 240 → ∀ c', zCtl[c]? = some c' → zVd z_tt zE1 c') (ha : ty[a]? = some 20) (r1 : 0 ≤ hr.toInt) (r2 : hr.toInt ≤ 23) (T : zTY z_tt ty h) (E : zE1 ty h) (S : zSe h a s cf) (C : zChn s cf) (V : v.toInt = -1 ∨ (0 ≤ v.toInt ∧ v.toInt < 6 ∧ zbit s v = true)) : z_ok sx d 285 0 [(0, .ref a), (1, .int hr), (2, .int v)] [] h (zPlf ty h a) := by
  refine zh zJ_285 (i := (0, 0, 0, 0)) rfl rfl (k' := 1) (lo' := [(0, .ref a), (1, .int hr), (2, .int v)]) (st' := [.int (Int32.ofInt 0)]) (h' := h) rfl ?_
  refine zh zJ_285 (i := (4, 3, 0, 0)) rfl rfl (k' := 2) (lo' := [(3, .int (Int32.ofInt 0)), (0, .ref a), (1, .int hr), (2, .int v)]) (st' := []) (h' := h) rfl ?_
  exact zLp_285 hd H ha r1 r2 7 ty h 0 _ s cf zExt.rf T E zFm.rf rfl rfl S C V
/-- the chain is followed to its end -/
noncomputable def zMch : List zMod := [(29, 0, 23)]
set_option maxRecDepth 100000 in
theorem zLp_287 {sx : zX} {d a : Nat} {ty ty0 : List Nat} {h0 : zH} {s : Int32} {cf : Nat → Int32} {rk : Int → Nat} (X : zExt ty0 ty) (ha : ty[a]? = some 20) (K : ∀ g : Int32, 0 ≤ g.toInt → g.toInt < 6 → zbit s g = true → ((cf g.toInt.toNat).toInt = -1 ∨ (0 ≤ (cf g.toInt.toNat).toInt ∧ (cf g.toInt.toNat).toInt < 6 ∧ zbit s (cf g.toInt.toNat) = true ∧ rk (cf g.toInt.toNat).toInt < rk g.toInt))) : ∀ (m : Nat) (h : zH) (lo : zL) (f : Int32), zTY z_tt ty h → zE1 ty h → zFm (zcM zC240) ty0 h0 h → zSe h a s cf → z_get lo 0 = some (.ref a) → z_get lo 2 = some (.int f) → (f.toInt = -1 ∨ (0 ≤ f.toInt ∧ f.toInt < 6 ∧ zbit s f = true ∧ rk f.toInt < m)) → z_ok sx d 287 17 lo [] h (zPo z_tt zE1 zC240 ty0 h0)
  | m, h, lo, f, T, E, F, S, g0, g2, V => by
    refine zh_ild zJ_287 (a := 2) (b := 0) (z := 0) rfl (k' := 18) rfl g2 ?_
    refine zh zJ_287 (i := (0, 0, 0, -1)) rfl rfl (k' := 19) (lo' := lo) (st' := [.int (Int32.ofInt (-1)), .int f]) (h' := h) rfl ?_
    refine zh_icmp zJ_287 (a := 36) (b := 0) (z := 0) rfl (fun hc => ?_) (fun hc => ?_)
    · refine zh zJ_287 (i := (0, 0, 0, 1)) rfl rfl (k' := 37) (lo' := lo) (st' := [.int (Int32.ofInt (1))]) (h' := h) rfl ?_
      refine zh_iret zJ_287 (a := 0) (b := 0) (z := 0) rfl (Or.inr ⟨rfl, Or.inr rfl⟩) ?_
      exact ⟨ty, X, T, E, F, ⟨_, rfl, by decide, by decide⟩, Nat.le_refl _, Nat.le_refl _⟩
    · have hne : f.toInt ≠ -1 := fun e => hc (zcmp_eq.mpr (by rw [e]; rfl))
      obtain ⟨f1, f2, fb, fr⟩ := V.resolve_left hne
      obtain ⟨fs, he, hl⟩ := zcell0 (c := 9) (n := 23) T ha rfl rfl rfl
      obtain ⟨e1, ec1, wc, k1, k2, k3, k4, k5⟩ := id S
      rw [he] at k1
      cases k1
      have k3 : fs[21]? = some (.ref wc) := k3
      have hwc : ty[wc]? = some 32 := by
        obtain ⟨w9, e9, h9⟩ := zfd2 (b := 21) (u := 32) T ha he (by omega) (by decide +kernel)
        rw [k3] at e9
        cases e9
        exact h9
      obtain ⟨wb, hb1, hb2⟩ := zfd2 (b := 20) (u := 31) T ha he (by omega) (by decide +kernel)
      obtain ⟨fby, hfb⟩ := zcell1 (n := 6) T hb2 rfl rfl
      obtain ⟨wd, hd1, hd2⟩ := zfd2 (b := 18) (u := 29) T ha he (by omega) (by decide +kernel)
      obtain ⟨fd, hfd⟩ := zcell1 (n := 24) T hd2 rfl rfl
      have fn : f.toNatClampNeg = f.toInt.toNat := rfl
      have hby := zint (zel (A := (0, 0, 23)) (lo := 0) (hi := 5) (i := f.toNatClampNeg) T hb2 hfb (by omega) (by decide +kernel) (by omega) (by omega))
      refine zh_ald zJ_287 (a := 0) (b := 0) (z := 0) rfl (k' := 21) rfl g0 ?_
      refine zh_get zJ_287 (b := 20) (c := 9) (z := 0) rfl (k' := 22) rfl he hb1 ?_
      refine zh_ild zJ_287 (a := 2) (b := 0) (z := 0) rfl (k' := 23) rfl g2 ?_
      refine zh_iald zJ_287 (z := 0) rfl (k' := 24) rfl hfb f1 (by omega) ?_
      generalize fby f.toNatClampNeg = hb at hby ⊢
      refine zh_ist zJ_287 (a := 3) (b := 0) (z := 0) rfl (k' := 25) rfl ?_
      have j0 := zget_set1_ne (a := 3) (v := .int hb) g0 (by decide) rfl
      have j2 := zget_set1_ne (a := 3) (v := .int hb) g2 (by decide) rfl
      refine zh_ald zJ_287 (a := 0) (b := 0) (z := 0) rfl (k' := 26) rfl j0 ?_
      refine zh_get zJ_287 (b := 18) (c := 9) (z := 0) rfl (k' := 27) rfl he hd1 ?_
      refine zh_ild zJ_287 (a := 3) (b := 0) (z := 0) rfl (k' := 28) rfl zget_self ?_
      refine zh_ild zJ_287 (a := 2) (b := 0) (z := 0) rfl (k' := 29) rfl j2 ?_
      have hbn : hb.toNatClampNeg = hb.toInt.toNat := rfl
      obtain ⟨T2, F2⟩ := zwr (ms := [(29, 0, 23)]) T hd2 hfd (i := hb.toNatClampNeg) (x := f) (by omega) (zst_ok (a := (0, -1, 5)) (ilo := 0) (ihi := 23) (by decide +kernel) ⟨f, rfl, by omega, by omega⟩ (by omega) (by omega)) (zcv_ok (lo := 0) (hi := 23) (by decide +kernel) (by omega) (by omega))
      have E2 := zE1_stable (ms := [(29, 0, 23)]) (by decide +kernel) ty h _ T T2 (T.len T2) F2 E
      have nda : wd ≠ a := fun e => by rw [e, ha] at hd2; cases hd2
      have ndc : wd ≠ wc := fun e => by rw [e, hwc] at hd2; cases hd2
      have S2 := S.keep T ha F2 (fun i _ _ ⟨q, hq, q1, _⟩ => by rw [List.mem_singleton.mp hq] at q1; cases q1) (fun i ⟨q, hq, q1, _⟩ => by rw [List.mem_singleton.mp hq] at q1; cases q1)
      have he2 := (zset_ne (h := h) (e := .inl (0, (24, .inl (upd fd hb.toNatClampNeg f)))) nda).trans he
      have k42 := (zset_ne (h := h) (e := .inl (0, (24, .inl (upd fd hb.toNatClampNeg f)))) ndc).trans k4
      have G2 : zFm (zcM zC240) ty0 h0 (h.set wd (.inl (0, (24, .inl (upd fd hb.toNatClampNeg f))))) := F.tr X (F2.mono (fun t i ⟨q, hq, q1⟩ => ⟨q, by rw [List.mem_singleton.mp hq]; decide +kernel, q1⟩))
      refine zh_iast zJ_287 (z := 0) rfl (k' := 30) rfl hfd (by omega) (by omega) ?_
      generalize h.set wd (.inl (0, (24, .inl (upd fd hb.toNatClampNeg f)))) = h2 at T2 F2 E2 S2 he2 k42 G2 ⊢
      obtain ⟨fc, hfc⟩ := zcell1 (n := 6) T2 hwc rfl rfl
      rw [hfc] at k42
      have k42 := Option.some.inj k42
      subst k42
      have ecf : fc f.toNatClampNeg = cf f.toInt.toNat := by
        have q := k5 f.toInt.toNat (by omega)
        rw [z_rd0, if_pos (by omega)] at q
        exact Value.int.inj (Option.some.inj q)
      refine zh_ald zJ_287 (a := 0) (b := 0) (z := 0) rfl (k' := 31) rfl j0 ?_
      refine zh_get zJ_287 (b := 21) (c := 9) (z := 0) rfl (k' := 32) rfl he2 k3 ?_
      refine zh_ild zJ_287 (a := 2) (b := 0) (z := 0) rfl (k' := 33) rfl j2 ?_
      refine zh_iald zJ_287 (z := 0) rfl (k' := 34) rfl hfc f1 (by omega) ?_
      rw [ecf]
      refine zh_ist zJ_287 (a := 2) (b := 0) (z := 0) rfl (k' := 35) rfl ?_
      refine zh zJ_287 (i := (30, 17, 0, 0)) rfl rfl (k' := 17) (lo' := z_set1 (z_set1 lo 3 (.int hb)) 2 (.int (cf f.toInt.toNat))) (st' := []) (h' := h2) rfl ?_
      cases m with
      | zero => omega
      | succ m =>
        refine zLp_287 X ha K m h2 _ _ T2 E2 G2 S2 (zget_set1_ne j0 (by decide) rfl) zget_self ?_
        rcases K f f1 f2 fb with q | ⟨q1, q2, q3, q4⟩
        · exact Or.inl q
        · exact Or.inr ⟨q1, q2, q3, by omega⟩
end
section
/-! findsRoom: its inner loop -/
noncomputable def zIv (ty0 : List Nat) (h0 : zH) (a : Nat) (ty : List Nat) (h : zH) (lo : zL) (s : Int32) (cf : Nat → Int32) (r : Int32) : Prop := zExt ty0 ty ∧ zTY z_tt ty h ∧ zE1 ty h ∧ zFm zMlf ty0 h0 h ∧ zSe h a s cf ∧ zChn s cf ∧ z_get lo 0 = some (.ref a) ∧ z_get lo 2 = some (.int r) ∧ (r.toInt = -1 ∨ (0 ≤ r.toInt ∧ r.toInt < 6 ∧ zbit s r = true))
set_option maxRecDepth 100000 in
theorem zLi_286 {sx : zX} {d a : Nat} {ty0 : List Nat} {h0 : zH} {x3 : Int32} {Ψ : zO → zH → Nat → Nat → Prop} (hd : 15 ≤ d) (H : ∀ c, c < 240 → ∀ c', zCtl[c]? = some c' → zVd z_tt zE1 c') (ha0 : ty0[a]? = some 20) (kk : ∀ (ty : List Nat) (h : zH) (lo : zL) (s : Int32) (cf : Nat → Int32) (r : Int32), zIv ty0 h0 a ty h lo s cf r → z_get lo 3 = some (.int x3) → z_ok sx d 286 48 lo [] h Ψ) : ∀ (m : Nat) (ty : List Nat) (h : zH) (lo : zL) (s : Int32) (cf : Nat → Int32) (r x4 : Int32) (i : Nat), zIv ty0 h0 a ty h lo s cf r → z_get lo 3 = some (.int x3) → z_get lo 4 = some (.int x4) → x4.toInt = (i : Int) → i + m = 24 → z_ok sx d 286 18 lo [] h Ψ
  | m, ty, h, lo, s, cf, r, x4, i, I, g3, g4, e4, hm => by
    obtain ⟨X, T, E, F, S, C, g0, g2, V⟩ := id I
    have ih : ∀ (ty : List Nat) (h : zH) (lo : zL) (s : Int32) (cf : Nat → Int32) (r : Int32), zIv ty0 h0 a ty h lo s cf r → z_get lo 3 = some (.int x3) → z_get lo 4 = some (.int x4) → 0 < m → z_ok sx d 286 46 lo [] h Ψ := fun ty h lo s cf r I g3 g4 h0m => by
      obtain ⟨b1, b2, b3, b4, b5, b6, b7, b8, b9⟩ := I
      refine zh_iinc zJ_286 (a := 4) (b := 0) (z := 1) rfl (k' := 47) rfl g4 ?_
      refine zh zJ_286 (i := (30, 18, 0, 0)) rfl rfl (k' := 18) (lo' := z_set1 lo 4 (.int (x4 + Int32.ofInt 1))) (st' := []) (h' := h) rfl ?_
      cases m with
      | zero => omega
      | succ m => exact zLi_286 hd H ha0 kk m ty h _ s cf r _ (i + 1) ⟨b1, b2, b3, b4, b5, b6, zget_set1_ne b7 (by decide) rfl, zget_set1_ne b8 (by decide) rfl, b9⟩ (zget_set1_ne g3 (by decide) rfl) zget_self (zinc e4 (by omega)) (by omega)
    refine zh_ild zJ_286 (a := 4) (b := 0) (z := 0) rfl (k' := 19) rfl g4 ?_
    refine zh zJ_286 (i := (0, 0, 0, 24)) rfl rfl (k' := 20) (lo' := lo) (st' := [.int (Int32.ofInt (24)), .int x4]) (h' := h) rfl ?_
    refine zh_icmp zJ_286 (a := 48) (b := 3) (z := 0) rfl (fun _ => kk ty h lo s cf r I g3) (fun hc => ?_)
    have h24 : x4.toInt < 24 := by
      have : ¬ (Int32.ofInt (24)).toInt ≤ x4.toInt := fun e => hc (zcmp_ge.mpr e)
      rw [show (Int32.ofInt (24)).toInt = 24 from rfl] at this
      omega
    refine zh_ild zJ_286 (a := 2) (b := 0) (z := 0) rfl (k' := 22) rfl g2 ?_
    refine zh zJ_286 (i := (0, 0, 0, -1)) rfl rfl (k' := 23) (lo' := lo) (st' := [.int (Int32.ofInt (-1)), .int r]) (h' := h) rfl ?_
    refine zh_icmp zJ_286 (a := 48) (b := 1) (z := 0) rfl (fun _ => kk ty h lo s cf r I g3) (fun hc2 => ?_)
    obtain ⟨fs, he, hl⟩ := zcell0 (c := 9) (n := 23) T (X a 20 ha0) rfl rfl rfl
    obtain ⟨e1, ec1, wc, k1, k2, k3, k4, k5⟩ := id S
    rw [he] at k1
    cases k1
    have k2 : fs[22]? = some (.int s) := k2
    obtain ⟨wd, hd1, hd2⟩ := zfd2 (b := 18) (u := 29) T (X a 20 ha0) he (by omega) (by decide +kernel)
    obtain ⟨fd, hfd⟩ := zcell1 (n := 24) T hd2 rfl rfl
    have hg := zint (zel (A := (0, -1, 5)) (lo := 0) (hi := 23) (i := x4.toNatClampNeg) T hd2 hfd (by rw [znat e4]; omega) (by decide +kernel) (by omega) (by rw [znat e4]; omega))
    refine zh_ald zJ_286 (a := 0) (b := 0) (z := 0) rfl (k' := 25) rfl g0 ?_
    refine zh_get zJ_286 (b := 18) (c := 9) (z := 0) rfl (k' := 26) rfl he hd1 ?_
    refine zh_ild zJ_286 (a := 4) (b := 0) (z := 0) rfl (k' := 27) rfl g4 ?_
    refine zh_iald zJ_286 (z := 0) rfl (k' := 28) rfl hfd (by omega) (by omega) ?_
    refine zh zJ_286 (i := (0, 0, 0, -1)) rfl rfl (k' := 29) (lo' := lo) (st' := [.int (Int32.ofInt (-1)), .int (fd x4.toNatClampNeg)]) (h' := h) rfl ?_
    refine zh_icmp zJ_286 (a := 46) (b := 0) (z := 0) rfl (fun _ => ih ty h lo s cf r I g3 g4 (by omega)) (fun hc3 => ?_)
    have hne : (fd x4.toNatClampNeg).toInt ≠ -1 := fun e => hc3 (zcmp_eq.mpr (by rw [e]; rfl))
    refine zh_ald zJ_286 (a := 0) (b := 0) (z := 0) rfl (k' := 31) rfl g0 ?_
    refine zh_get zJ_286 (b := 22) (c := 9) (z := 0) rfl (k' := 32) rfl he k2 ?_
    refine zh_ald zJ_286 (a := 0) (b := 0) (z := 0) rfl (k' := 33) rfl g0 ?_
    refine zh_get zJ_286 (b := 18) (c := 9) (z := 0) rfl (k' := 34) rfl he hd1 ?_
    refine zh_ild zJ_286 (a := 4) (b := 0) (z := 0) rfl (k' := 35) rfl g4 ?_
    refine zh_iald zJ_286 (z := 0) rfl (k' := 36) rfl hfd (by omega) (by omega) ?_
    refine zh_run zJ_286 (i := (55, 178, 2, 0)) (rest := []) (as := [.int s, .int (fd x4.toNatClampNeg)]) rfl (by decide) (zcal55 (xs := [.int (fd x4.toNatClampNeg), .int s]) (by omega) rfl rfl (Nat.le_of_ble_eq_true rfl) (M' := z_m178) rfl (Nat.le_of_ble_eq_true rfl)) zR_178 (fun o h' x9 y9 q => ?_)
    obtain ⟨rfl, rfl, rfl, rfl⟩ := q
    refine ⟨_, rfl, rfl, rfl, ?_⟩
    show z_ok sx d 286 37 lo [.int (if zbit s (fd x4.toNatClampNeg) = true then 1 else 0)] h' _
    refine zh_if zJ_286 (a := 46) (b := 0) (z := 0) rfl (fun _ => ih ty h' lo s cf r I g3 g4 (by omega)) (fun hc4 => ?_)
    have hbt : zbit s (fd x4.toNatClampNeg) = true := by
      by_cases e : zbit s (fd x4.toNatClampNeg) = true
      · exact e
      · exact absurd (by rw [if_neg e]; exact zcmp_eq.mpr rfl) hc4
    refine zh_ald zJ_286 (a := 0) (b := 0) (z := 0) rfl (k' := 39) rfl g0 ?_
    refine zh_ild zJ_286 (a := 4) (b := 0) (z := 0) rfl (k' := 40) rfl g4 ?_
    refine zh_ald zJ_286 (a := 0) (b := 0) (z := 0) rfl (k' := 41) rfl g0 ?_
    refine zh_get zJ_286 (b := 18) (c := 9) (z := 0) rfl (k' := 42) rfl he hd1 ?_
    refine zh_ild zJ_286 (a := 4) (b := 0) (z := 0) rfl (k' := 43) rfl g4 ?_
    refine zh_iald zJ_286 (z := 0) rfl (k' := 44) rfl hfd (by omega) (by omega) ?_
    refine zh_run zJ_286 (i := (54, 285, 2, 9)) (rest := []) (as := [.ref a, .int x4, .int (fd x4.toNatClampNeg)]) rfl (by decide) (zcal54 (xs := [.int (fd x4.toNatClampNeg), .int x4]) (by omega) rfl rfl he rfl (Nat.le_of_ble_eq_true rfl) (M' := z_m285) rfl (Nat.le_of_ble_eq_true rfl)) (zR_285 (by omega) H (X a 20 ha0) (by omega) (by omega) T E S C (Or.inr ⟨by omega, by omega, hbt⟩)) (fun o h2 x9 y9 q => ?_)
    obtain ⟨rfl, rfl, ty2, r2, s2, cf2, q1, q2, q3, q4, rfl, q6, q7, q8⟩ := q
    refine ⟨_, rfl, rfl, rfl, ?_⟩
    show z_ok sx d 286 45 lo [.int r2] h2 _
    refine zh_ist zJ_286 (a := 2) (b := 0) (z := 0) rfl (k' := 46) rfl ?_
    exact ih ty2 h2 _ s2 cf2 r2 ⟨X.tr q1, q2, q3, F.tr X q4, q6, q7, zget_set1_ne g0 (by decide) rfl, zget_self, q8⟩ (zget_set1_ne g3 (by decide) rfl) (zget_set1_ne g4 (by decide) rfl) (by omega)
end
section
/-! findsRoom -/
set_option maxRecDepth 100000 in
theorem zLo_286 {sx : zX} {d a : Nat} {ty0 : List Nat} {h0 : zH} (hd : 15 ≤ d) (H : ∀ c, c < 240 → ∀ c', zCtl[c]? = some c' → zVd z_tt zE1 c') (ha0 : ty0[a]? = some 20) : ∀ (m : Nat) (ty : List Nat) (h : zH) (lo : zL) (s : Int32) (cf : Nat → Int32) (r x3 : Int32) (i : Nat), zIv ty0 h0 a ty h lo s cf r → z_get lo 3 = some (.int x3) → x3.toInt = (i : Int) → i + m = 6 → z_ok sx d 286 10 lo [] h (zPlf ty0 h0 a)
  | m, ty, h, lo, s, cf, r, x3, i, I, g3, e3, hm => by
    obtain ⟨X, T, E, F, S, C, g0, g2, V⟩ := id I
    have h50 : z_ok sx d 286 50 lo [] h (zPlf ty0 h0 a) := by
      refine zh_ild zJ_286 (a := 2) (b := 0) (z := 0) rfl (k' := 51) rfl g2 ?_
      refine zh_iret zJ_286 (a := 0) (b := 0) (z := 0) rfl (Or.inl rfl) ?_
      exact ⟨rfl, rfl, ty, r, s, cf, X, T, E, F, rfl, S, C, V⟩
    refine zh_ild zJ_286 (a := 3) (b := 0) (z := 0) rfl (k' := 11) rfl g3 ?_
    refine zh zJ_286 (i := (0, 0, 0, 6)) rfl rfl (k' := 12) (lo' := lo) (st' := [.int (Int32.ofInt (6)), .int x3]) (h' := h) rfl ?_
    refine zh_icmp zJ_286 (a := 50) (b := 3) (z := 0) rfl (fun _ => h50) (fun hc => ?_)
    have h6 : x3.toInt < 6 := by
      have : ¬ (Int32.ofInt (6)).toInt ≤ x3.toInt := fun e => hc (zcmp_ge.mpr e)
      rw [show (Int32.ofInt (6)).toInt = 6 from rfl] at this
      omega
    refine zh_ild zJ_286 (a := 2) (b := 0) (z := 0) rfl (k' := 14) rfl g2 ?_
    refine zh zJ_286 (i := (0, 0, 0, -1)) rfl rfl (k' := 15) (lo' := lo) (st' := [.int (Int32.ofInt (-1)), .int r]) (h' := h) rfl ?_
    refine zh_icmp zJ_286 (a := 50) (b := 1) (z := 0) rfl (fun _ => h50) (fun hc2 => ?_)
    refine zh zJ_286 (i := (0, 0, 0, 0)) rfl rfl (k' := 17) (lo' := lo) (st' := [.int (Int32.ofInt (0))]) (h' := h) rfl ?_
    refine zh_ist zJ_286 (a := 4) (b := 0) (z := 0) rfl (k' := 18) rfl ?_
    refine zLi_286 (x3 := x3) hd H ha0 (fun ty9 h9 lo9 s9 cf9 r9 I9 g39 => ?_) 24 ty h _ s cf r (Int32.ofInt (0)) 0 ⟨X, T, E, F, S, C, zget_set1_ne g0 (by decide) rfl, zget_set1_ne g2 (by decide) rfl, V⟩ (zget_set1_ne g3 (by decide) rfl) zget_self rfl rfl
    obtain ⟨b1, b2, b3, b4, b5, b6, b7, b8, b9⟩ := I9
    refine zh_iinc zJ_286 (a := 3) (b := 0) (z := 1) rfl (k' := 49) rfl g39 ?_
    refine zh zJ_286 (i := (30, 10, 0, 0)) rfl rfl (k' := 10) (lo' := z_set1 lo9 3 (.int (x3 + Int32.ofInt 1))) (st' := []) (h' := h9) rfl ?_
    cases m with
    | zero => omega
    | succ m => exact zLo_286 hd H ha0 m ty9 h9 _ s9 cf9 r9 _ (i + 1) ⟨b1, b2, b3, b4, b5, b6, zget_set1_ne b7 (by decide) rfl, zget_set1_ne b8 (by decide) rfl, b9⟩ zget_self (zinc e3 (by omega)) (by omega)
set_option maxRecDepth 100000 in
theorem zR_286 {sx : zX} {d a : Nat} {ty : List Nat} {h : zH} {hr : Int32} (hd : 15 ≤ d) (H : ∀ c, c < 240 → ∀ c', zCtl[c]? = some c' → zVd z_tt zE1 c') (ha : ty[a]? = some 20) (r1 : 0 ≤ hr.toInt) (r2 : hr.toInt ≤ 23) (T : zTY z_tt ty h) (E : zE1 ty h) : z_ok sx d 286 0 [(0, .ref a), (1, .int hr)] [] h (zPlf ty h a) := by
  obtain ⟨fs, he, hl⟩ := zcell0 (c := 9) (n := 23) T ha rfl rfl rfl
  obtain ⟨wc, hc1, hc2⟩ := zfd2 (b := 21) (u := 32) T ha he (by omega) (by decide +kernel)
  obtain ⟨cf, hcf⟩ := zcell1 (n := 6) T hc2 rfl rfl
  obtain ⟨T1, F1⟩ := zwf' (ms := zMlf) (b := 22) (v := .int (Int32.ofInt (0))) (V := zFull) T ha he (by omega) (zFull_ok _) (by decide +kernel) (by decide +kernel)
  have E1 := zE1_stable (ms := zMlf) (by decide +kernel) ty h _ T T1 (T.len T1) F1 E
  have he1 := zset_eq (e := .inr (9, fs.set 22 (.int (Int32.ofInt (0))))) he
  have nac : a ≠ wc := fun e => by rw [e, hc2] at ha; cases ha
  have hcf1 := (zset_ne (h := h) (e := .inr (9, fs.set 22 (.int (Int32.ofInt (0))))) nac).trans hcf
  have S1 : zSe (h.set a (.inr (9, fs.set 22 (.int (Int32.ofInt (0)))))) a 0 cf := ⟨_, _, wc, he1, List.getElem?_set_self (by omega), (List.getElem?_set_ne (by decide)).trans hc1, hcf1, fun i hi => by rw [z_rd0, if_pos hi]⟩
  refine zh zJ_286 (i := (2, 0, 0, 0)) rfl rfl (k' := 1) (lo' := [(0, .ref a), (1, .int hr)]) (st' := [.ref a]) (h' := h) rfl ?_
  refine zh zJ_286 (i := (0, 0, 0, 0)) rfl rfl (k' := 2) (lo' := [(0, .ref a), (1, .int hr)]) (st' := [.int (Int32.ofInt (0)), .ref a]) (h' := h) rfl ?_
  refine zh_put zJ_286 (b := 22) (c := 9) (z := 0) rfl (k' := 3) rfl he (by omega) rfl ?_
  generalize h.set a (.inr (9, fs.set 22 (.int (Int32.ofInt (0))))) = h1 at T1 F1 E1 he1 S1 ⊢
  refine zh zJ_286 (i := (2, 0, 0, 0)) rfl rfl (k' := 4) (lo' := [(0, .ref a), (1, .int hr)]) (st' := [.ref a]) (h' := h1) rfl ?_
  refine zh zJ_286 (i := (1, 1, 0, 0)) rfl rfl (k' := 5) (lo' := [(0, .ref a), (1, .int hr)]) (st' := [.int hr, .ref a]) (h' := h1) rfl ?_
  refine zh zJ_286 (i := (0, 0, 0, -1)) rfl rfl (k' := 6) (lo' := [(0, .ref a), (1, .int hr)]) (st' := [.int (Int32.ofInt (-1)), .int hr, .ref a]) (h' := h1) rfl ?_
  refine zh_run zJ_286 (i := (54, 285, 2, 9)) (rest := []) (as := [.ref a, .int hr, .int (Int32.ofInt (-1))]) rfl (by decide) (zcal54 (xs := [.int (Int32.ofInt (-1)), .int hr]) (by omega) rfl rfl he1 rfl (Nat.le_of_ble_eq_true rfl) (M' := z_m285) rfl (Nat.le_of_ble_eq_true rfl)) (zR_285 (by omega) H ha r1 r2 T1 E1 S1 (zChn_0 cf) (Or.inl rfl)) (fun o h2 x9 y9 q => ?_)
  obtain ⟨rfl, rfl, ty2, r, s2, cf2, q1, q2, q3, q4, rfl, q6, q7, q8⟩ := q
  refine ⟨_, rfl, rfl, rfl, ?_⟩
  show z_ok sx d 286 7 [(0, .ref a), (1, .int hr)] [.int r] h2 _
  refine zh zJ_286 (i := (4, 2, 0, 0)) rfl rfl (k' := 8) (lo' := [(2, .int r), (0, .ref a), (1, .int hr)]) (st' := []) (h' := h2) rfl ?_
  refine zh zJ_286 (i := (0, 0, 0, 0)) rfl rfl (k' := 9) (lo' := [(2, .int r), (0, .ref a), (1, .int hr)]) (st' := [.int (Int32.ofInt (0))]) (h' := h2) rfl ?_
  refine zh zJ_286 (i := (4, 3, 0, 0)) rfl rfl (k' := 10) (lo' := [(3, .int (Int32.ofInt (0))), (2, .int r), (0, .ref a), (1, .int hr)]) (st' := []) (h' := h2) rfl ?_
  exact zLo_286 hd H ha 6 ty2 h2 _ s2 cf2 r _ 0 ⟨q1, q2, q3, F1.tr zExt.rf q4, q6, q7, rfl, rfl, q8⟩ rfl rfl rfl
end
section
/-! isDealt -/
set_option maxRecDepth 100000 in
theorem zV_240 (H : ∀ c, c < 240 → ∀ c', zCtl[c]? = some c' → zVd z_tt zE1 c') : zVd z_tt zE1 zC240 := by
  intro sx d ty h as hd T E hA
  have hd : 20 ≤ d := hd
  match as, hA with
  | [v0, v1], hA =>
  obtain ⟨⟨a, t, rfl, ha, t1, t2⟩, ⟨hr, rfl, r1, r2⟩, -⟩ := hA
  have et : t = 20 := by omega
  subst et
  show z_ok sx d 287 0 [(0, .ref a), (1, .int hr)] [] h _
  obtain ⟨fs0, he0, hl0⟩ := zcell0 (c := 9) (n := 23) T ha rfl rfl rfl
  refine zh zJ_287 (i := (2, 0, 0, 0)) rfl rfl (k' := 1) (lo' := [(0, .ref a), (1, .int hr)]) (st' := [.ref a]) (h' := h) rfl ?_
  refine zh zJ_287 (i := (1, 1, 0, 0)) rfl rfl (k' := 2) (lo' := [(0, .ref a), (1, .int hr)]) (st' := [.int hr, .ref a]) (h' := h) rfl ?_
  refine zh_run zJ_287 (i := (54, 286, 1, 9)) (rest := []) (as := [.ref a, .int hr]) rfl (by decide) (zcal54 (xs := [.int hr]) (by omega) rfl rfl he0 rfl (Nat.le_of_ble_eq_true rfl) (M' := z_m286) rfl (Nat.le_of_ble_eq_true rfl)) (zR_286 (by omega) H ha r1 r2 T E) (fun o h2 x9 y9 q => ?_)
  obtain ⟨rfl, rfl, ty2, r, s, cf, X, T2, E2, F2, rfl, S2, C2, V2⟩ := q
  refine ⟨_, rfl, rfl, rfl, ?_⟩
  have G2 : zFm (zcM zC240) ty h h2 := F2.mono (fun t i ⟨q, hq, q1⟩ => by
    have hs : ∀ q ∈ zMlf, q ∈ zcM zC240 := by decide +kernel
    exact ⟨q, hs q hq, q1⟩)
  have hret : ∀ v : Int32, 0 ≤ v.toInt → v.toInt ≤ 1 → zPo z_tt zE1 zC240 ty h (.inl (some (.int v))) h2 0 0 := fun v b1 b2 => ⟨ty2, X, T2, E2, G2, ⟨v, rfl, b1, b2⟩, Nat.le_refl _, Nat.le_refl _⟩
  show z_ok sx d 287 3 [(0, .ref a), (1, .int hr)] [.int r] h2 _
  refine zh zJ_287 (i := (4, 2, 0, 0)) rfl rfl (k' := 4) (lo' := [(2, .int r), (0, .ref a), (1, .int hr)]) (st' := []) (h' := h2) rfl ?_
  refine zh zJ_287 (i := (1, 2, 0, 0)) rfl rfl (k' := 5) (lo' := [(2, .int r), (0, .ref a), (1, .int hr)]) (st' := [.int r]) (h' := h2) rfl ?_
  refine zh zJ_287 (i := (0, 0, 0, -1)) rfl rfl (k' := 6) (lo' := [(2, .int r), (0, .ref a), (1, .int hr)]) (st' := [.int (Int32.ofInt (-1)), .int r]) (h' := h2) rfl ?_
  refine zh_icmp zJ_287 (a := 9) (b := 1) (z := 0) rfl (fun hc => ?_) (fun hc => ?_)
  · have hne : r.toInt ≠ -1 := fun e => zcmp_ne.mp hc (by rw [e]; rfl)
    obtain ⟨f1, f2, fb⟩ := V2.resolve_left hne
    obtain ⟨fs, he, hl⟩ := zcell0 (c := 9) (n := 23) T2 (X a 20 ha) rfl rfl rfl
    obtain ⟨wg, hg1, hg2⟩ := zfd2 (b := 19) (u := 30) T2 (X a 20 ha) he (by omega) (by decide +kernel)
    obtain ⟨fg, hfg⟩ := zcell1 (n := 6) T2 hg2 rfl rfl
    have rn : r.toNatClampNeg = r.toInt.toNat := rfl
    refine zh zJ_287 (i := (2, 0, 0, 0)) rfl rfl (k' := 10) (lo' := [(2, .int r), (0, .ref a), (1, .int hr)]) (st' := [.ref a]) (h' := h2) rfl ?_
    refine zh_get zJ_287 (b := 19) (c := 9) (z := 0) rfl (k' := 11) rfl he hg1 ?_
    refine zh zJ_287 (i := (1, 2, 0, 0)) rfl rfl (k' := 12) (lo' := [(2, .int r), (0, .ref a), (1, .int hr)]) (st' := [.int r, .ref wg]) (h' := h2) rfl ?_
    refine zh zJ_287 (i := (28, 0, 0, 0)) rfl rfl (k' := 13) (lo' := [(2, .int r), (0, .ref a), (1, .int hr)]) (st' := [.int r, .ref wg, .int r, .ref wg]) (h' := h2) rfl ?_
    refine zh_iald zJ_287 (z := 0) rfl (k' := 14) rfl hfg f1 (by omega) ?_
    refine zh zJ_287 (i := (0, 0, 0, 1)) rfl rfl (k' := 15) (lo' := [(2, .int r), (0, .ref a), (1, .int hr)]) (st' := [.int (Int32.ofInt (1)), .int (fg r.toNatClampNeg), .int r, .ref wg]) (h' := h2) rfl ?_
    refine zh zJ_287 (i := (8, 0, 0, 0)) rfl rfl (k' := 16) (lo' := [(2, .int r), (0, .ref a), (1, .int hr)]) (st' := [.int (fg r.toNatClampNeg + Int32.ofInt (1)), .int r, .ref wg]) (h' := h2) rfl ?_
    obtain ⟨T3, F3⟩ := zwr (ms := [(30, 0, 5)]) T2 hg2 hfg (i := r.toNatClampNeg) (x := fg r.toNatClampNeg + Int32.ofInt (1)) (by omega) (zst_ok (a := zFull) (ilo := 0) (ihi := 5) (by decide +kernel) (zFull_ok _) (by omega) (by omega)) (zcv_ok (lo := 0) (hi := 5) (by decide +kernel) (by omega) (by omega))
    have E3 := zE1_stable (ms := [(30, 0, 5)]) (by decide +kernel) ty2 h2 _ T2 T3 (T2.len T3) F3 E2
    have S3 := S2.keep T2 (X a 20 ha) F3 (fun i _ _ ⟨q, hq, q1, _⟩ => by rw [List.mem_singleton.mp hq] at q1; cases q1) (fun i ⟨q, hq, q1, _⟩ => by rw [List.mem_singleton.mp hq] at q1; cases q1)
    have G3 := G2.tr X (F3.mono (ms' := zcM zC240) (fun t i ⟨q, hq, q1⟩ => ⟨q, by rw [List.mem_singleton.mp hq]; decide +kernel, q1⟩))
    refine zh_iast zJ_287 (z := 0) rfl (k' := 17) rfl hfg f1 (by omega) ?_
    obtain ⟨_, rk, N, K⟩ := C2
    exact zLp_287 (rk := rk) X (X a 20 ha) (fun g b1 b2 b3 => (K g b1 b2 b3).2) (rk r.toInt + 1) _ _ r T3 E3 G3 S3 rfl rfl (Or.inr ⟨f1, f2, fb, Nat.lt_succ_self _⟩)
  · refine zh zJ_287 (i := (0, 0, 0, 0)) rfl rfl (k' := 8) (lo' := [(2, .int r), (0, .ref a), (1, .int hr)]) (st' := [.int (Int32.ofInt (0))]) (h' := h2) rfl ?_
    refine zh_iret zJ_287 (a := 0) (b := 0) (z := 0) rfl (Or.inr ⟨rfl, Or.inl rfl⟩) ?_
    exact hret _ (by decide) (by decide)
end
section
/-! the reference's reader: its state, and steps by it; printed with wip/gen/gen_rd1.py -/
noncomputable def zPm : List zMod := [(20, 10, 10), (20, 12, 12), (20, 13, 13), (20, 16, 16), (21, 1237, 2085)]
noncomputable def zPF (fs : List Value) (w b E P Q D S : Nat) : Prop := fs.length = 23 ∧ fs[1]? = some (.ref w) ∧ fs[8]? = some (.ref b) ∧ (∃ x : Int32, fs[11]? = some (.int x) ∧ x.toInt = (E : Int)) ∧ (∃ x : Int32, fs[10]? = some (.int x) ∧ x.toInt = (P : Int)) ∧ (∃ x : Int32, fs[12]? = some (.int x) ∧ x.toInt = (Q : Int)) ∧ (∃ x : Int32, fs[13]? = some (.int x) ∧ x.toInt = (D : Int)) ∧ (∃ x : Int32, fs[16]? = some (.int x) ∧ x.toInt = (S : Int))
noncomputable def zPS (ty : List Nat) (h0 : zH) (a w b E P Q D S : Nat) (g : Nat → Int32) (h : zH) : Prop := zTY z_tt ty h ∧ zE1 ty h ∧ zFm zPm ty h0 h ∧ ty[a]? = some 20 ∧ ty[w]? = some 21 ∧ ty[b]? = some 26 ∧ h[w]? = some (.inl (0, (2086, .inl g))) ∧ ∃ fs, h[a]? = some (.inr (9, fs)) ∧ zPF fs w b E P Q D S
noncomputable def zRq (Q : Option Value → zH → Prop) : zO → zH → Nat → Nat → Prop := fun o h x y => ∃ v, o = .inl v ∧ x = 0 ∧ y = 0 ∧ Q v h
theorem zI_add {x y : Int32} {X Y : Int} (hx : x.toInt = X) (hy : y.toInt = Y) (h1 : -2147483648 ≤ X + Y) (h2 : X + Y ≤ 2147483647) : (x + y).toInt = X + Y := by
  rw [Int32.toInt_add, hx, hy]; exact z_bm h1 h2
theorem zI_sub {x y : Int32} {X Y : Int} (hx : x.toInt = X) (hy : y.toInt = Y) (h1 : -2147483648 ≤ X - Y) (h2 : X - Y ≤ 2147483647) : (x - y).toInt = X - Y := by
  rw [Int32.toInt_sub, hx, hy]; exact z_bm h1 h2
theorem zI_mul {x y : Int32} {X Y : Int} (hx : x.toInt = X) (hy : y.toInt = Y) (h1 : -2147483648 ≤ X * Y) (h2 : X * Y ≤ 2147483647) : (x * y).toInt = X * Y := by
  rw [Int32.toInt_mul, hx, hy]; exact z_bm h1 h2
theorem zI_c {n : Int} (h1 : -2147483648 ≤ n) (h2 : n ≤ 2147483647) : (Int32.ofInt n).toInt = n := z_of32 h1 h2
section ZRD
variable {ty : List Nat} {h0 : zH} {a w b E P Q D S : Nat} {g : Nat → Int32} {sx : zX} {d j k k' : Nat} {lo : zL} {st : List Value} {h : zH} {Ψ : zO → zH → Nat → Nat → Prop} {M : zMi} {cs : List zI} {hs : List zHd} {z : Int}
theorem zPS.bd (H : zPS ty h0 a w b E P Q D S g h) : E ≤ 400 ∧ P ≤ 400 ∧ Q ≤ 400 ∧ D ≤ 6 ∧ S ≤ 400 := by
  obtain ⟨T, -, -, ha, -, -, -, fs, he, hl, -, -, ⟨x11, g11, e11⟩, ⟨x10, g10, e10⟩, ⟨x12, g12, e12⟩, ⟨x13, g13, e13⟩, ⟨x16, g16, e16⟩⟩ := H
  obtain ⟨y11, q11, l11, u11⟩ := zfd0 (b := 11) (lo := 0) (hi := 400) T ha he (by omega) (by decide +kernel)
  rw [g11] at q11
  cases q11
  obtain ⟨y10, q10, l10, u10⟩ := zfd0 (b := 10) (lo := 0) (hi := 400) T ha he (by omega) (by decide +kernel)
  rw [g10] at q10
  cases q10
  obtain ⟨y12, q12, l12, u12⟩ := zfd0 (b := 12) (lo := 0) (hi := 400) T ha he (by omega) (by decide +kernel)
  rw [g12] at q12
  cases q12
  obtain ⟨y13, q13, l13, u13⟩ := zfd0 (b := 13) (lo := 0) (hi := 6) T ha he (by omega) (by decide +kernel)
  rw [g13] at q13
  cases q13
  obtain ⟨y16, q16, l16, u16⟩ := zfd0 (b := 16) (lo := 0) (hi := 400) T ha he (by omega) (by decide +kernel)
  rw [g16] at q16
  cases q16
  omega
theorem zPS.ac (H : zPS ty h0 a w b E P Q D S g h) : ∃ fs, h[a]? = some (.inr (9, fs)) := by
  obtain ⟨-, -, -, -, -, -, -, fs, he, -⟩ := H
  exact ⟨fs, he⟩
theorem zg11 (H : zPS ty h0 a w b E P Q D S g h) (J : zJ3 j M cs hs) (hi : cs[k]? = some (37, 9, 11, z)) (hk : k + 1 = k') (kk : ∀ x : Int32, x.toInt = (E : Int) → z_ok sx d j k' lo (.int x :: st) h Ψ) : z_ok sx d j k lo (.ref a :: st) h Ψ := by
  obtain ⟨T, E1, F, ha, hw, hb, hg, fs, he, hl, f1, f8, ⟨x11, g11, e11⟩, ⟨x10, g10, e10⟩, ⟨x12, g12, e12⟩, ⟨x13, g13, e13⟩, ⟨x16, g16, e16⟩⟩ := H
  exact zh_get J hi hk he g11 (kk x11 e11)
theorem zg10 (H : zPS ty h0 a w b E P Q D S g h) (J : zJ3 j M cs hs) (hi : cs[k]? = some (37, 9, 10, z)) (hk : k + 1 = k') (kk : ∀ x : Int32, x.toInt = (P : Int) → z_ok sx d j k' lo (.int x :: st) h Ψ) : z_ok sx d j k lo (.ref a :: st) h Ψ := by
  obtain ⟨T, E1, F, ha, hw, hb, hg, fs, he, hl, f1, f8, ⟨x11, g11, e11⟩, ⟨x10, g10, e10⟩, ⟨x12, g12, e12⟩, ⟨x13, g13, e13⟩, ⟨x16, g16, e16⟩⟩ := H
  exact zh_get J hi hk he g10 (kk x10 e10)
theorem zg12 (H : zPS ty h0 a w b E P Q D S g h) (J : zJ3 j M cs hs) (hi : cs[k]? = some (37, 9, 12, z)) (hk : k + 1 = k') (kk : ∀ x : Int32, x.toInt = (Q : Int) → z_ok sx d j k' lo (.int x :: st) h Ψ) : z_ok sx d j k lo (.ref a :: st) h Ψ := by
  obtain ⟨T, E1, F, ha, hw, hb, hg, fs, he, hl, f1, f8, ⟨x11, g11, e11⟩, ⟨x10, g10, e10⟩, ⟨x12, g12, e12⟩, ⟨x13, g13, e13⟩, ⟨x16, g16, e16⟩⟩ := H
  exact zh_get J hi hk he g12 (kk x12 e12)
theorem zg13 (H : zPS ty h0 a w b E P Q D S g h) (J : zJ3 j M cs hs) (hi : cs[k]? = some (37, 9, 13, z)) (hk : k + 1 = k') (kk : ∀ x : Int32, x.toInt = (D : Int) → z_ok sx d j k' lo (.int x :: st) h Ψ) : z_ok sx d j k lo (.ref a :: st) h Ψ := by
  obtain ⟨T, E1, F, ha, hw, hb, hg, fs, he, hl, f1, f8, ⟨x11, g11, e11⟩, ⟨x10, g10, e10⟩, ⟨x12, g12, e12⟩, ⟨x13, g13, e13⟩, ⟨x16, g16, e16⟩⟩ := H
  exact zh_get J hi hk he g13 (kk x13 e13)
theorem zg16 (H : zPS ty h0 a w b E P Q D S g h) (J : zJ3 j M cs hs) (hi : cs[k]? = some (37, 9, 16, z)) (hk : k + 1 = k') (kk : ∀ x : Int32, x.toInt = (S : Int) → z_ok sx d j k' lo (.int x :: st) h Ψ) : z_ok sx d j k lo (.ref a :: st) h Ψ := by
  obtain ⟨T, E1, F, ha, hw, hb, hg, fs, he, hl, f1, f8, ⟨x11, g11, e11⟩, ⟨x10, g10, e10⟩, ⟨x12, g12, e12⟩, ⟨x13, g13, e13⟩, ⟨x16, g16, e16⟩⟩ := H
  exact zh_get J hi hk he g16 (kk x16 e16)
theorem zg1 (H : zPS ty h0 a w b E P Q D S g h) (J : zJ3 j M cs hs) (hi : cs[k]? = some (37, 9, 1, z)) (hk : k + 1 = k') (kk : z_ok sx d j k' lo (.ref w :: st) h Ψ) : z_ok sx d j k lo (.ref a :: st) h Ψ := by
  obtain ⟨T, E1, F, ha, hw, hb, hg, fs, he, hl, f1, f8, ⟨x11, g11, e11⟩, ⟨x10, g10, e10⟩, ⟨x12, g12, e12⟩, ⟨x13, g13, e13⟩, ⟨x16, g16, e16⟩⟩ := H
  exact zh_get J hi hk he f1 kk
theorem zg8 (H : zPS ty h0 a w b E P Q D S g h) (J : zJ3 j M cs hs) (hi : cs[k]? = some (37, 9, 8, z)) (hk : k + 1 = k') (kk : z_ok sx d j k' lo (.ref b :: st) h Ψ) : z_ok sx d j k lo (.ref a :: st) h Ψ := by
  obtain ⟨T, E1, F, ha, hw, hb, hg, fs, he, hl, f1, f8, ⟨x11, g11, e11⟩, ⟨x10, g10, e10⟩, ⟨x12, g12, e12⟩, ⟨x13, g13, e13⟩, ⟨x16, g16, e16⟩⟩ := H
  exact zh_get J hi hk he f8 kk
theorem zp10 (H : zPS ty h0 a w b E P Q D S g h) (J : zJ3 j M cs hs) (hi : cs[k]? = some (38, 9, 10, 0)) (hk : k + 1 = k') {v : Int32} (V : Nat) (hv : v.toInt = (V : Int)) (hV : V ≤ 400) (kk : ∀ h', zPS ty h0 a w b E V Q D S g h' → z_ok sx d j k' lo st h' Ψ) : z_ok sx d j k lo (.int v :: .ref a :: st) h Ψ := by
  obtain ⟨T, E1, F, ha, hw, hb, hg, fs, he, hl, f1, f8, ⟨x11, g11, e11⟩, ⟨x10, g10, e10⟩, ⟨x12, g12, e12⟩, ⟨x13, g13, e13⟩, ⟨x16, g16, e16⟩⟩ := H
  obtain ⟨T', F'⟩ := zwf' (ms := zPm) (b := 10) (V := (0, 0, 400)) (v := .int v) T ha he (by omega) ⟨v, rfl, by omega, by omega⟩ (by decide +kernel) (by decide +kernel)
  have E' := zE1_stable (ms := zPm) (by decide +kernel) ty h _ T T' (T.len T') F' E1
  have hn : a ≠ w := fun e => by rw [e, hw] at ha; cases ha
  exact zh_put J hi hk he (by omega) rfl (kk _ ⟨T', E', F.tr zExt.rf F', ha, hw, hb, (zset_ne hn).trans hg, _, zset_eq he, by rw [List.length_set]; exact hl, (List.getElem?_set_ne (by decide)).trans f1, (List.getElem?_set_ne (by decide)).trans f8, ⟨x11, (List.getElem?_set_ne (by decide)).trans g11, e11⟩, ⟨v, List.getElem?_set_self (by omega), hv⟩, ⟨x12, (List.getElem?_set_ne (by decide)).trans g12, e12⟩, ⟨x13, (List.getElem?_set_ne (by decide)).trans g13, e13⟩, ⟨x16, (List.getElem?_set_ne (by decide)).trans g16, e16⟩⟩)
theorem zp12 (H : zPS ty h0 a w b E P Q D S g h) (J : zJ3 j M cs hs) (hi : cs[k]? = some (38, 9, 12, 0)) (hk : k + 1 = k') {v : Int32} (V : Nat) (hv : v.toInt = (V : Int)) (hV : V ≤ 400) (kk : ∀ h', zPS ty h0 a w b E P V D S g h' → z_ok sx d j k' lo st h' Ψ) : z_ok sx d j k lo (.int v :: .ref a :: st) h Ψ := by
  obtain ⟨T, E1, F, ha, hw, hb, hg, fs, he, hl, f1, f8, ⟨x11, g11, e11⟩, ⟨x10, g10, e10⟩, ⟨x12, g12, e12⟩, ⟨x13, g13, e13⟩, ⟨x16, g16, e16⟩⟩ := H
  obtain ⟨T', F'⟩ := zwf' (ms := zPm) (b := 12) (V := (0, 0, 400)) (v := .int v) T ha he (by omega) ⟨v, rfl, by omega, by omega⟩ (by decide +kernel) (by decide +kernel)
  have E' := zE1_stable (ms := zPm) (by decide +kernel) ty h _ T T' (T.len T') F' E1
  have hn : a ≠ w := fun e => by rw [e, hw] at ha; cases ha
  exact zh_put J hi hk he (by omega) rfl (kk _ ⟨T', E', F.tr zExt.rf F', ha, hw, hb, (zset_ne hn).trans hg, _, zset_eq he, by rw [List.length_set]; exact hl, (List.getElem?_set_ne (by decide)).trans f1, (List.getElem?_set_ne (by decide)).trans f8, ⟨x11, (List.getElem?_set_ne (by decide)).trans g11, e11⟩, ⟨x10, (List.getElem?_set_ne (by decide)).trans g10, e10⟩, ⟨v, List.getElem?_set_self (by omega), hv⟩, ⟨x13, (List.getElem?_set_ne (by decide)).trans g13, e13⟩, ⟨x16, (List.getElem?_set_ne (by decide)).trans g16, e16⟩⟩)
theorem zp13 (H : zPS ty h0 a w b E P Q D S g h) (J : zJ3 j M cs hs) (hi : cs[k]? = some (38, 9, 13, 0)) (hk : k + 1 = k') {v : Int32} (V : Nat) (hv : v.toInt = (V : Int)) (hV : V ≤ 6) (kk : ∀ h', zPS ty h0 a w b E P Q V S g h' → z_ok sx d j k' lo st h' Ψ) : z_ok sx d j k lo (.int v :: .ref a :: st) h Ψ := by
  obtain ⟨T, E1, F, ha, hw, hb, hg, fs, he, hl, f1, f8, ⟨x11, g11, e11⟩, ⟨x10, g10, e10⟩, ⟨x12, g12, e12⟩, ⟨x13, g13, e13⟩, ⟨x16, g16, e16⟩⟩ := H
  obtain ⟨T', F'⟩ := zwf' (ms := zPm) (b := 13) (V := (0, 0, 6)) (v := .int v) T ha he (by omega) ⟨v, rfl, by omega, by omega⟩ (by decide +kernel) (by decide +kernel)
  have E' := zE1_stable (ms := zPm) (by decide +kernel) ty h _ T T' (T.len T') F' E1
  have hn : a ≠ w := fun e => by rw [e, hw] at ha; cases ha
  exact zh_put J hi hk he (by omega) rfl (kk _ ⟨T', E', F.tr zExt.rf F', ha, hw, hb, (zset_ne hn).trans hg, _, zset_eq he, by rw [List.length_set]; exact hl, (List.getElem?_set_ne (by decide)).trans f1, (List.getElem?_set_ne (by decide)).trans f8, ⟨x11, (List.getElem?_set_ne (by decide)).trans g11, e11⟩, ⟨x10, (List.getElem?_set_ne (by decide)).trans g10, e10⟩, ⟨x12, (List.getElem?_set_ne (by decide)).trans g12, e12⟩, ⟨v, List.getElem?_set_self (by omega), hv⟩, ⟨x16, (List.getElem?_set_ne (by decide)).trans g16, e16⟩⟩)
theorem zp16 (H : zPS ty h0 a w b E P Q D S g h) (J : zJ3 j M cs hs) (hi : cs[k]? = some (38, 9, 16, 0)) (hk : k + 1 = k') {v : Int32} (V : Nat) (hv : v.toInt = (V : Int)) (hV : V ≤ 400) (kk : ∀ h', zPS ty h0 a w b E P Q D V g h' → z_ok sx d j k' lo st h' Ψ) : z_ok sx d j k lo (.int v :: .ref a :: st) h Ψ := by
  obtain ⟨T, E1, F, ha, hw, hb, hg, fs, he, hl, f1, f8, ⟨x11, g11, e11⟩, ⟨x10, g10, e10⟩, ⟨x12, g12, e12⟩, ⟨x13, g13, e13⟩, ⟨x16, g16, e16⟩⟩ := H
  obtain ⟨T', F'⟩ := zwf' (ms := zPm) (b := 16) (V := (0, 0, 400)) (v := .int v) T ha he (by omega) ⟨v, rfl, by omega, by omega⟩ (by decide +kernel) (by decide +kernel)
  have E' := zE1_stable (ms := zPm) (by decide +kernel) ty h _ T T' (T.len T') F' E1
  have hn : a ≠ w := fun e => by rw [e, hw] at ha; cases ha
  exact zh_put J hi hk he (by omega) rfl (kk _ ⟨T', E', F.tr zExt.rf F', ha, hw, hb, (zset_ne hn).trans hg, _, zset_eq he, by rw [List.length_set]; exact hl, (List.getElem?_set_ne (by decide)).trans f1, (List.getElem?_set_ne (by decide)).trans f8, ⟨x11, (List.getElem?_set_ne (by decide)).trans g11, e11⟩, ⟨x10, (List.getElem?_set_ne (by decide)).trans g10, e10⟩, ⟨x12, (List.getElem?_set_ne (by decide)).trans g12, e12⟩, ⟨x13, (List.getElem?_set_ne (by decide)).trans g13, e13⟩, ⟨v, List.getElem?_set_self (by omega), hv⟩⟩)
theorem zpw {p q : Nat} (H : zPS ty h0 a w b E P Q D S g h) (J : zJ3 j M cs hs) (hi : cs[k]? = some (40, p, q, z)) (hk : k + 1 = k') {x v : Int32} (X : Nat) (hx : x.toInt = (X : Int)) (h1 : 1237 ≤ X) (h2 : X ≤ 2085) (kk : ∀ h', zPS ty h0 a w b E P Q D S (upd g X v) h' → z_ok sx d j k' lo st h' Ψ) : z_ok sx d j k lo (.int v :: .int x :: .ref w :: st) h Ψ := by
  obtain ⟨T, E1, F, ha, hw, hb, hg, fs, he, hl, f1, f8, ⟨x11, g11, e11⟩, ⟨x10, g10, e10⟩, ⟨x12, g12, e12⟩, ⟨x13, g13, e13⟩, ⟨x16, g16, e16⟩⟩ := H
  obtain ⟨T', F'⟩ := zwr (ms := zPm) T hw hg (i := X) (x := v) (by omega) (zst_ok (a := zFull) (ilo := 1237) (ihi := 2085) (by decide +kernel) (zFull_ok _) (by omega) (by omega)) (zcv_ok (lo := 1237) (hi := 2085) (by decide +kernel) (by omega) (by omega))
  have E' := zE1_stable (ms := zPm) (by decide +kernel) ty h _ T T' (T.len T') F' E1
  have hn : w ≠ a := fun e => by rw [e, ha] at hw; cases hw
  have hX : x.toNatClampNeg = X := znat hx
  refine zh_iast J hi hk hg (by omega) (by omega) ?_
  rw [hX]
  exact kk _ ⟨T', E', F.tr zExt.rf F', ha, hw, hb, zset_eq hg, fs, (zset_ne hn).trans he, hl, f1, f8, ⟨x11, g11, e11⟩, ⟨x10, g10, e10⟩, ⟨x12, g12, e12⟩, ⟨x13, g13, e13⟩, ⟨x16, g16, e16⟩⟩
theorem zlwd {p q : Nat} (H : zPS ty h0 a w b E P Q D S g h) (J : zJ3 j M cs hs) (hi : cs[k]? = some (39, p, q, z)) (hk : k + 1 = k') {x : Int32} (X : Nat) (hx : x.toInt = (X : Int)) (h2 : X ≤ 2085) (kk : z_ok sx d j k' lo (.int (g X) :: st) h Ψ) : z_ok sx d j k lo (.int x :: .ref w :: st) h Ψ := by
  obtain ⟨T, E1, F, ha, hw, hb, hg, fs, he, hl, f1, f8, ⟨x11, g11, e11⟩, ⟨x10, g10, e10⟩, ⟨x12, g12, e12⟩, ⟨x13, g13, e13⟩, ⟨x16, g16, e16⟩⟩ := H
  have hX : x.toNatClampNeg = X := znat hx
  refine zh_iald J hi hk hg (by omega) (by omega) ?_
  rw [hX]
  exact kk
theorem zlb {p q : Nat} (H : zPS ty h0 a w b E P Q D S g h) (J : zJ3 j M cs hs) (hi : cs[k]? = some (41, p, q, z)) (hk : k + 1 = k') {x : Int32} (X : Nat) (hx : x.toInt = (X : Int)) (h2 : X < 400) (kk : ∀ c : Int32, z_ok sx d j k' lo (.int c :: st) h Ψ) : z_ok sx d j k lo (.int x :: .ref b :: st) h Ψ := by
  obtain ⟨T, E1, F, ha, hw, hb, hg, fs, he, hl, f1, f8, ⟨x11, g11, e11⟩, ⟨x10, g10, e10⟩, ⟨x12, g12, e12⟩, ⟨x13, g13, e13⟩, ⟨x16, g16, e16⟩⟩ := H
  obtain ⟨f, hf⟩ := zcell2 (n := 400) T hb rfl rfl
  exact zh_bald J hi hk hf (by omega) (by omega) (kk _)
theorem zldc {t p : Nat} (J : zJ3 j M cs hs) (hi : cs[k]? = some (58, t, p, z)) (hk : k + 1 = k') (ht : t < z_strs.length) (kk : z_ok sx d j k' lo (.ref (zB + t) :: st) h Ψ) : z_ok sx d j k lo st h Ψ := by
  refine zh J hi rfl ?_ kk
  show zo_ldcs sx d t p z k lo st h = _
  unfold zo_ldcs
  rw [if_pos ht, hk]
/-- a call of one of the reference's methods whose run is known -/
theorem zcl {j' n : Nat} {xs rest : List Value} {M' : zMi} {R : Option Value → zH → Prop} (H : zPS ty h0 a w b E P Q D S g h) (J : zJ3 j M cs hs) (hi : cs[k]? = some (54, j', n, 9)) (hk : k + 1 = k') (hd : 0 < d) (hst : st = xs ++ .ref a :: rest) (hx : xs.length = n) (hz : z_cat rest ≤ 8) (hM : z_ms[j']? = some M') (hl : (lg_sl (.ref a :: xs.reverse)).length ≤ M'.2.2.2.1) (r : z_ok sx (d - 1) j' 0 (lv_args 0 (.ref a :: xs.reverse)) [] h (zRq R)) (kk : ∀ v h', R v h' → z_ok sx d j k' lo (v.toList ++ rest) h' Ψ) : z_ok sx d j k lo st h Ψ := by
  obtain ⟨fs, he⟩ := H.ac
  refine zh_run (rest := rest) J hi (show (54 : Nat) ≠ 50 ∧ (54 : Nat) ≠ 51 ∧ (54 : Nat) ≠ 52 ∧ (54 : Nat) ≠ 53 ∧ (54 : Nat) ≠ 62 by decide) (zcal54 hd hst hx he rfl hz hM hl) r (fun o h' x y q => ?_)
  obtain ⟨v, rfl, rfl, rfl, q⟩ := q
  rw [hk]
  exact ⟨v, rfl, rfl, rfl, kk v h' q⟩
end ZRD
/-! what code of a line does to the top of its stack, in the draft -/
noncomputable def zPs (g : Nat → Int32) : Nat → Nat → Nat → Nat → Prop
  | 0, _, t, t' => t' = t
  | n + 1, i, t, t' => let s := (g (1286 + 2 * i)).toInt
    i < 400 ∧ (if s ≤ 8 then t < 400 ∧ zPs g n (i + 1) (t + 1) t' else if s = 12 then 1 ≤ t ∧ zPs g n (i + 1) t t' else 2 ≤ t ∧ zPs g n (i + 1) (t - 1) t')
theorem zPs_app {g : Nat → Int32} : ∀ {n i t t1 m t2 : Nat}, zPs g n i t t1 → zPs g m (i + n) t1 t2 → zPs g (n + m) i t t2
  | 0, i, t, t1, m, t2, h1, h2 => by
    have h1 : t1 = t := h1
    subst h1
    rw [Nat.zero_add]
    exact h2
  | n + 1, i, t, t1, m, t2, h1, h2 => by
    rw [show n + 1 + m = (n + m) + 1 by omega]
    rw [show i + (n + 1) = i + 1 + n by omega] at h2
    obtain ⟨a1, a2⟩ := h1
    refine ⟨a1, ?_⟩
    split
    · next h3 => rw [if_pos h3] at a2; exact ⟨a2.1, zPs_app a2.2 h2⟩
    · next h3 =>
      rw [if_neg h3] at a2
      split
      · next h4 => rw [if_pos h4] at a2; exact ⟨a2.1, zPs_app a2.2 h2⟩
      · next h4 => rw [if_neg h4] at a2; exact ⟨a2.1, zPs_app a2.2 h2⟩
theorem zPs_congr {g g' : Nat → Int32} : ∀ {n i t t' : Nat}, (∀ k, k < 1286 + 2 * (i + n) → g' k = g k) → zPs g n i t t' → zPs g' n i t t'
  | 0, _, _, _, _, h => h
  | n + 1, i, t, t', hc, h => by
    obtain ⟨a1, a2⟩ := h
    refine ⟨a1, ?_⟩
    have hc' : ∀ k, k < 1286 + 2 * (i + 1 + n) → g' k = g k := fun k hk => hc k (by omega)
    rw [hc (1286 + 2 * i) (by omega)]
    split
    · next h3 => rw [if_pos h3] at a2; exact ⟨a2.1, zPs_congr hc' a2.2⟩
    · next h3 =>
      rw [if_neg h3] at a2
      split
      · next h4 => rw [if_pos h4] at a2; exact ⟨a2.1, zPs_congr hc' a2.2⟩
      · next h4 => rw [if_neg h4] at a2; exact ⟨a2.1, zPs_congr hc' a2.2⟩
theorem zPs_le {g : Nat → Int32} : ∀ {n i t t' : Nat}, zPs g n i t t' → t' ≤ t + n
  | 0, _, _, _, h => by have h : _ = _ := h; omega
  | n + 1, i, t, t', h => by
    obtain ⟨a1, a2⟩ := h
    split at a2
    · have := zPs_le a2.2; omega
    · split at a2
      · have := zPs_le a2.2; omega
      · have := zPs_le a2.2; omega
noncomputable def zCd (S : Nat) (g : Nat → Int32) (S' : Nat) (g' : Nat → Int32) (n : Nat) : Prop := S ≤ S' ∧ (∀ k, k < 1286 + 2 * S → g' k = g k) ∧ ∀ t, t ≤ S → zPs g' (S' - S) S t (t + n)
noncomputable def zEm (g : Nat → Int32) (S : Nat) (u v : Int32) : Nat → Int32 := upd (upd g (1286 + 2 * S) u) (1287 + 2 * S) v
theorem zEm_lt {g : Nat → Int32} {S : Nat} {u v : Int32} {k : Nat} (h : k < 1286 + 2 * S) : zEm g S u v k = g k := by
  unfold zEm upd
  rw [if_neg (by omega), if_neg (by omega)]
theorem zEm_at {g : Nat → Int32} {S : Nat} {u v : Int32} : zEm g S u v (1286 + 2 * S) = u := by
  unfold zEm upd
  rw [if_neg (by omega), if_pos rfl]
theorem zCd.push {S : Nat} {g : Nat → Int32} {u v : Int32} (hS : S < 400) (hu : u.toInt ≤ 8) : zCd S g (S + 1) (zEm g S u v) 1 := by
  refine ⟨by omega, fun k hk => zEm_lt hk, fun t ht => ?_⟩
  rw [show S + 1 - S = 0 + 1 by omega]
  refine ⟨hS, ?_⟩
  rw [zEm_at, if_pos hu]
  exact ⟨by omega, rfl⟩
theorem zCd.two {S S1 S2 : Nat} {g g1 g2 : Nat → Int32} (h1 : zCd S g S1 g1 1) (h2 : zCd S1 g1 S2 g2 1) : zCd S g S2 g2 2 := by
  obtain ⟨a1, a2, a3⟩ := h1
  obtain ⟨b1, b2, b3⟩ := h2
  refine ⟨by omega, fun k hk => by rw [b2 k (by omega), a2 k hk], fun t ht => ?_⟩
  have c1 := zPs_congr (g' := g2) (fun k hk => b2 k (by omega)) (a3 t ht)
  have c2 := zPs_le c1
  have c3 := b3 (t + 1) (by omega)
  rw [show S1 = S + (S1 - S) by omega] at c3
  have := zPs_app c1 c3
  rw [show S1 - S + (S2 - (S + (S1 - S))) = S2 - S by omega] at this
  exact this
theorem zCd.one {S S1 : Nat} {g g1 : Nat → Int32} {n m : Nat} {u v : Int32} (h1 : zCd S g S1 g1 n) (hS : S1 < 400) (hs : ∀ t, zPs (zEm g1 S1 u v) 1 S1 (t + n) (t + m)) : zCd S g (S1 + 1) (zEm g1 S1 u v) m := by
  obtain ⟨a1, a2, a3⟩ := h1
  refine ⟨by omega, fun k hk => by rw [zEm_lt (by omega), a2 k hk], fun t ht => ?_⟩
  have c1 := zPs_congr (g' := zEm g1 S1 u v) (fun k hk => zEm_lt (by omega)) (a3 t ht)
  have c3 := hs t
  rw [show S1 + 1 - S = S1 - S + 1 by omega]
  refine zPs_app c1 ?_
  rw [show S + (S1 - S) = S1 by omega]
  exact c3
theorem zCd.bin {S S1 : Nat} {g g1 : Nat → Int32} {u v : Int32} (h1 : zCd S g S1 g1 2) (hS : S1 < 400) (hu : 8 < u.toInt) (hu2 : u.toInt ≠ 12) : zCd S g (S1 + 1) (zEm g1 S1 u v) 1 := h1.one hS (fun t => by
  refine ⟨hS, ?_⟩
  rw [zEm_at, if_neg (by omega), if_neg hu2]
  exact ⟨by omega, by show t + 1 = t + 2 - 1; omega⟩)
theorem zCd.not {S S1 : Nat} {g g1 : Nat → Int32} {u v : Int32} (h1 : zCd S g S1 g1 1) (hS : S1 < 400) (hu : u.toInt = 12) : zCd S g (S1 + 1) (zEm g1 S1 u v) 1 := h1.one hS (fun t => by
  refine ⟨hS, ?_⟩
  rw [zEm_at, if_neg (by omega), if_pos hu]
  exact ⟨by omega, rfl⟩)
/-- how a piece of the grammar ends -/
noncomputable def zGs (ty : List Nat) (h0 : zH) (a w b E P D S : Nat) (g : Nat → Int32) : Option Value → zH → Prop := fun r h' => ∃ (c : Int32) (P' Q' D' S' : Nat) (g' : Nat → Int32), r = some (.int c) ∧ zPS ty h0 a w b E P' Q' D' S' g' h' ∧ (c = 0 ∨ (c = 1 ∧ D' = D ∧ S' + P ≤ P' + S ∧ zCd S g S' g' 1))
/-- how a look at the tape ends -/
noncomputable def zLk (ty : List Nat) (h0 : zH) (a w b E P D S : Nat) (g : Nat → Int32) : Option Value → zH → Prop := fun r h' => ∃ (c : Int32) (P' Q' : Nat), r = some (.int c) ∧ zPS ty h0 a w b E P' Q' D S g h' ∧ P ≤ P' ∧ (c = 0 ∨ (c = 1 ∧ P + 1 ≤ P'))
end
section
/-! the reference's reader: looks at the tape; printed with wip/gen/gen_rd2.py -/
theorem zJ_201 : zJ3 201 z_m201 z_c201 z_h201 := ⟨rfl, rfl, rfl⟩
set_option maxRecDepth 100000 in
theorem zS_201 {sx : zX} {ty : List Nat} {h0 : zH} {a w b E : Nat} {P Q D S d : Nat} {g : Nat → Int32} {h : zH} (H : zPS ty h0 a w b E P Q D S g h) (u v : Int32) : z_ok sx d 201 0 (lv_args 0 [.ref a, .int u, .int v]) [] h (zRq (fun r h' => h' = h ∧ ∃ c : Int32, r = some (.int c) ∧ (c = 0 ∨ (c = 1 ∧ P < E)))) := by
  obtain ⟨bE, bP, bQ, bD, bS⟩ := H.bd
  show z_ok sx d 201 0 [(0, .ref a), (1, .int u), (2, .int v)] [] h _
  refine zh zJ_201 (i := (2, 0, 0, 0)) rfl rfl (k' := 1) (lo' := [(0, .ref a), (1, .int u), (2, .int v)]) (st' := [.ref a]) (h' := h) rfl ?_
  refine zg10 H zJ_201 rfl (k' := 2) rfl (fun x1 ex1 => ?_)
  refine zh zJ_201 (i := (2, 0, 0, 0)) rfl rfl (k' := 3) (lo' := [(0, .ref a), (1, .int u), (2, .int v)]) (st' := [.ref a, .int x1]) (h' := h) rfl ?_
  refine zg11 H zJ_201 rfl (k' := 4) rfl (fun x2 ex2 => ?_)
  refine zh_icmp zJ_201 (a := 21) (b := 3) (z := 0) rfl (fun hc3 => ?_) (fun hc3 => ?_)
  · refine zh zJ_201 (i := (0, 0, 0, 0)) rfl rfl (k' := 22) (lo' := [(0, .ref a), (1, .int u), (2, .int v)]) (st' := [.int (Int32.ofInt (0))]) (h' := h) rfl ?_
    refine zh_iret zJ_201 (a := 0) (b := 0) (z := 0) rfl (Or.inr ⟨rfl, Or.inl rfl⟩) ?_
    exact ⟨_, rfl, rfl, rfl, rfl, _, rfl, Or.inl rfl⟩
  · have hlt : P < E := by
      have := mt zcmp_ge.mpr hc3
      omega
    refine zh zJ_201 (i := (2, 0, 0, 0)) rfl rfl (k' := 6) (lo' := [(0, .ref a), (1, .int u), (2, .int v)]) (st' := [.ref a]) (h' := h) rfl ?_
    refine zg8 H zJ_201 rfl (k' := 7) rfl ?_
    refine zh zJ_201 (i := (2, 0, 0, 0)) rfl rfl (k' := 8) (lo' := [(0, .ref a), (1, .int u), (2, .int v)]) (st' := [.ref a, .ref b]) (h' := h) rfl ?_
    refine zg10 H zJ_201 rfl (k' := 9) rfl (fun x4 ex4 => ?_)
    refine zlb H zJ_201 rfl (k' := 10) rfl (P) ex4 (by omega) (fun c5 => ?_)
    refine zh zJ_201 (i := (1, 1, 0, 0)) rfl rfl (k' := 11) (lo' := [(0, .ref a), (1, .int u), (2, .int v)]) (st' := [.int u, .int c5]) (h' := h) rfl ?_
    refine zh_icmp zJ_201 (a := 21) (b := 2) (z := 0) rfl (fun hc6 => ?_) (fun hc6 => ?_)
    · refine zh zJ_201 (i := (0, 0, 0, 0)) rfl rfl (k' := 22) (lo' := [(0, .ref a), (1, .int u), (2, .int v)]) (st' := [.int (Int32.ofInt (0))]) (h' := h) rfl ?_
      refine zh_iret zJ_201 (a := 0) (b := 0) (z := 0) rfl (Or.inr ⟨rfl, Or.inl rfl⟩) ?_
      exact ⟨_, rfl, rfl, rfl, rfl, _, rfl, Or.inl rfl⟩
    · refine zh zJ_201 (i := (2, 0, 0, 0)) rfl rfl (k' := 13) (lo' := [(0, .ref a), (1, .int u), (2, .int v)]) (st' := [.ref a]) (h' := h) rfl ?_
      refine zg8 H zJ_201 rfl (k' := 14) rfl ?_
      refine zh zJ_201 (i := (2, 0, 0, 0)) rfl rfl (k' := 15) (lo' := [(0, .ref a), (1, .int u), (2, .int v)]) (st' := [.ref a, .ref b]) (h' := h) rfl ?_
      refine zg10 H zJ_201 rfl (k' := 16) rfl (fun x7 ex7 => ?_)
      refine zlb H zJ_201 rfl (k' := 17) rfl (P) ex7 (by omega) (fun c8 => ?_)
      refine zh zJ_201 (i := (1, 2, 0, 0)) rfl rfl (k' := 18) (lo' := [(0, .ref a), (1, .int u), (2, .int v)]) (st' := [.int v, .int c8]) (h' := h) rfl ?_
      refine zh_icmp zJ_201 (a := 21) (b := 4) (z := 0) rfl (fun hc9 => ?_) (fun hc9 => ?_)
      · refine zh zJ_201 (i := (0, 0, 0, 0)) rfl rfl (k' := 22) (lo' := [(0, .ref a), (1, .int u), (2, .int v)]) (st' := [.int (Int32.ofInt (0))]) (h' := h) rfl ?_
        refine zh_iret zJ_201 (a := 0) (b := 0) (z := 0) rfl (Or.inr ⟨rfl, Or.inl rfl⟩) ?_
        exact ⟨_, rfl, rfl, rfl, rfl, _, rfl, Or.inl rfl⟩
      · refine zh zJ_201 (i := (0, 0, 0, 1)) rfl rfl (k' := 20) (lo' := [(0, .ref a), (1, .int u), (2, .int v)]) (st' := [.int (Int32.ofInt (1))]) (h' := h) rfl ?_
        refine zh zJ_201 (i := (30, 22, 0, 0)) rfl rfl (k' := 22) (lo' := [(0, .ref a), (1, .int u), (2, .int v)]) (st' := [.int (Int32.ofInt (1))]) (h' := h) rfl ?_
        refine zh_iret zJ_201 (a := 0) (b := 0) (z := 0) rfl (Or.inr ⟨rfl, Or.inr rfl⟩) ?_
        exact ⟨_, rfl, rfl, rfl, rfl, _, rfl, Or.inr ⟨rfl, hlt⟩⟩
theorem zJ_202 : zJ3 202 z_m202 z_c202 z_h202 := ⟨rfl, rfl, rfl⟩
set_option maxRecDepth 100000 in
theorem zLp_202 {sx : zX} {ty : List Nat} {h0 : zH} {a w b E : Nat} {D S d P0 : Nat} {g : Nat → Int32} (hd : 2 ≤ d) : ∀ (r P Q : Nat) (h : zH), P + r = 400 → P0 ≤ P → zPS ty h0 a w b E P Q D S g h → z_ok sx d 202 0 [(0, .ref a)] [] h (zRq (fun v h' => v = none ∧ ∃ P', P0 ≤ P' ∧ zPS ty h0 a w b E P' P' D S g h'))
  | r, P, Q, h, hr, hP, H => by
    obtain ⟨bE, bP, bQ, bD, bS⟩ := H.bd
    refine zh zJ_202 (i := (2, 0, 0, 0)) rfl rfl (k' := 1) (lo' := [(0, .ref a)]) (st' := [.ref a]) (h' := h) rfl ?_
    refine zh zJ_202 (i := (0, 0, 0, 32)) rfl rfl (k' := 2) (lo' := [(0, .ref a)]) (st' := [.int (Int32.ofInt (32)), .ref a]) (h' := h) rfl ?_
    refine zh zJ_202 (i := (0, 0, 0, 32)) rfl rfl (k' := 3) (lo' := [(0, .ref a)]) (st' := [.int (Int32.ofInt (32)), .int (Int32.ofInt (32)), .ref a]) (h' := h) rfl ?_
    refine zcl (xs := [.int (Int32.ofInt (32)), .int (Int32.ofInt (32))]) (rest := []) H zJ_202 rfl (k' := 4) rfl (by omega) rfl rfl (Nat.le_of_ble_eq_true rfl) (M' := z_m201) rfl (Nat.le_of_ble_eq_true rfl) (zS_201 H _ _) (fun v h10 q => ?_)
    obtain ⟨rfl, c, rfl, hc⟩ := q
    show z_ok sx d 202 4 [(0, .ref a)] [.int c] h10 _
    refine zh_if zJ_202 (a := 12) (b := 0) (z := 0) rfl (fun hc11 => ?_) (fun hc11 => ?_)
    · refine zh zJ_202 (i := (2, 0, 0, 0)) rfl rfl (k' := 13) (lo' := [(0, .ref a)]) (st' := [.ref a]) (h' := h10) rfl ?_
      refine zh zJ_202 (i := (2, 0, 0, 0)) rfl rfl (k' := 14) (lo' := [(0, .ref a)]) (st' := [.ref a, .ref a]) (h' := h10) rfl ?_
      refine zg10 H zJ_202 rfl (k' := 15) rfl (fun x12 ex12 => ?_)
      refine zp12 H zJ_202 rfl (k' := 16) rfl (P) ex12 bP (fun h13 Hh13 => ?_)
      refine zh_vret zJ_202 (a := 0) (b := 0) (z := 0) rfl ?_
      exact ⟨_, rfl, rfl, rfl, rfl, P, hP, Hh13⟩
    · have hlt : P < E := (hc.resolve_left (fun e => hc11 (by rw [e]; rfl))).2
      refine zh zJ_202 (i := (2, 0, 0, 0)) rfl rfl (k' := 6) (lo' := [(0, .ref a)]) (st' := [.ref a]) (h' := h10) rfl ?_
      refine zh zJ_202 (i := (27, 0, 0, 0)) rfl rfl (k' := 7) (lo' := [(0, .ref a)]) (st' := [.ref a, .ref a]) (h' := h10) rfl ?_
      refine zg10 H zJ_202 rfl (k' := 8) rfl (fun x14 ex14 => ?_)
      refine zh zJ_202 (i := (0, 0, 0, 1)) rfl rfl (k' := 9) (lo' := [(0, .ref a)]) (st' := [.int (Int32.ofInt (1)), .int x14, .ref a]) (h' := h10) rfl ?_
      refine zh zJ_202 (i := (8, 0, 0, 0)) rfl rfl (k' := 10) (lo' := [(0, .ref a)]) (st' := [.int (x14 + (Int32.ofInt (1))), .ref a]) (h' := h10) rfl ?_
      refine zp10 H zJ_202 rfl (k' := 11) rfl (P + 1) (by rw [zI_add ex14 (zI_c (by decide) (by decide)) (by omega) (by omega)]; omega) (by omega) (fun h15 Hh15 => ?_)
      refine zh zJ_202 (i := (30, 0, 0, 0)) rfl rfl (k' := 0) (lo' := [(0, .ref a)]) (st' := []) (h' := h15) rfl ?_
      obtain ⟨r, rfl⟩ : ∃ r', r = r' + 1 := ⟨r - 1, by omega⟩
      exact zLp_202 hd r (P + 1) Q _ (by omega) (by omega) Hh15
theorem zS_202 {sx : zX} {ty : List Nat} {h0 : zH} {a w b E : Nat} {P Q D S d : Nat} {g : Nat → Int32} {h : zH} (hd : 2 ≤ d) (H : zPS ty h0 a w b E P Q D S g h) : z_ok sx d 202 0 (lv_args 0 [.ref a]) [] h (zRq (fun v h' => v = none ∧ ∃ P', P ≤ P' ∧ zPS ty h0 a w b E P' P' D S g h')) :=
  zLp_202 hd (400 - P) P Q h (by have := H.bd; omega) (Nat.le_refl _) H
theorem zJ_203 : zJ3 203 z_m203 z_c203 z_h203 := ⟨rfl, rfl, rfl⟩
set_option maxRecDepth 100000 in
theorem zLp_203 {sx : zX} {ty : List Nat} {h0 : zH} {a w b E : Nat} {Q D S d : Nat} {g : Nat → Int32} (hd : 2 ≤ d) : ∀ (r P : Nat) (h : zH), P + r = 400 → Q ≤ P → zPS ty h0 a w b E P Q D S g h → z_ok sx d 203 2 [(0, .ref a)] [] h (zRq (fun v h' => v = none ∧ ∃ P', Q ≤ P' ∧ zPS ty h0 a w b E P' Q D S g h'))
  | r, P, h, hr, hP, H => by
    obtain ⟨bE, bP, bQ, bD, bS⟩ := H.bd
    refine zh zJ_203 (i := (2, 0, 0, 0)) rfl rfl (k' := 3) (lo' := [(0, .ref a)]) (st' := [.ref a]) (h' := h) rfl ?_
    refine zh zJ_203 (i := (0, 0, 0, 97)) rfl rfl (k' := 4) (lo' := [(0, .ref a)]) (st' := [.int (Int32.ofInt (97)), .ref a]) (h' := h) rfl ?_
    refine zh zJ_203 (i := (0, 0, 0, 122)) rfl rfl (k' := 5) (lo' := [(0, .ref a)]) (st' := [.int (Int32.ofInt (122)), .int (Int32.ofInt (97)), .ref a]) (h' := h) rfl ?_
    refine zcl (xs := [.int (Int32.ofInt (122)), .int (Int32.ofInt (97))]) (rest := []) H zJ_203 rfl (k' := 6) rfl (by omega) rfl rfl (Nat.le_of_ble_eq_true rfl) (M' := z_m201) rfl (Nat.le_of_ble_eq_true rfl) (zS_201 H _ _) (fun v h16 q => ?_)
    obtain ⟨rfl, c, rfl, hc⟩ := q
    show z_ok sx d 203 6 [(0, .ref a)] [.int c] h16 _
    refine zh_if zJ_203 (a := 14) (b := 0) (z := 0) rfl (fun hc17 => ?_) (fun hc17 => ?_)
    · refine zh_vret zJ_203 (a := 0) (b := 0) (z := 0) rfl ?_
      exact ⟨_, rfl, rfl, rfl, rfl, P, hP, H⟩
    · have hlt : P < E := (hc.resolve_left (fun e => hc17 (by rw [e]; rfl))).2
      refine zh zJ_203 (i := (2, 0, 0, 0)) rfl rfl (k' := 8) (lo' := [(0, .ref a)]) (st' := [.ref a]) (h' := h16) rfl ?_
      refine zh zJ_203 (i := (27, 0, 0, 0)) rfl rfl (k' := 9) (lo' := [(0, .ref a)]) (st' := [.ref a, .ref a]) (h' := h16) rfl ?_
      refine zg10 H zJ_203 rfl (k' := 10) rfl (fun x18 ex18 => ?_)
      refine zh zJ_203 (i := (0, 0, 0, 1)) rfl rfl (k' := 11) (lo' := [(0, .ref a)]) (st' := [.int (Int32.ofInt (1)), .int x18, .ref a]) (h' := h16) rfl ?_
      refine zh zJ_203 (i := (8, 0, 0, 0)) rfl rfl (k' := 12) (lo' := [(0, .ref a)]) (st' := [.int (x18 + (Int32.ofInt (1))), .ref a]) (h' := h16) rfl ?_
      refine zp10 H zJ_203 rfl (k' := 13) rfl (P + 1) (by rw [zI_add ex18 (zI_c (by decide) (by decide)) (by omega) (by omega)]; omega) (by omega) (fun h19 Hh19 => ?_)
      refine zh zJ_203 (i := (30, 2, 0, 0)) rfl rfl (k' := 2) (lo' := [(0, .ref a)]) (st' := []) (h' := h19) rfl ?_
      obtain ⟨r, rfl⟩ : ∃ r', r = r' + 1 := ⟨r - 1, by omega⟩
      exact zLp_203 hd r (P + 1) _ (by omega) (by omega) Hh19
set_option maxRecDepth 100000 in
theorem zS_203 {sx : zX} {ty : List Nat} {h0 : zH} {a w b E : Nat} {P Q D S d : Nat} {g : Nat → Int32} {h : zH} (hd : 3 ≤ d) (H : zPS ty h0 a w b E P Q D S g h) : z_ok sx d 203 0 (lv_args 0 [.ref a]) [] h (zRq (fun v h' => v = none ∧ ∃ P' Q', P ≤ Q' ∧ Q' ≤ P' ∧ zPS ty h0 a w b E P' Q' D S g h')) := by
  show z_ok sx d 203 0 [(0, .ref a)] [] h _
  refine zh zJ_203 (i := (2, 0, 0, 0)) rfl rfl (k' := 1) (lo' := [(0, .ref a)]) (st' := [.ref a]) (h' := h) rfl ?_
  refine zcl (xs := []) (rest := []) H zJ_203 rfl (k' := 2) rfl (by omega) rfl rfl (Nat.le_of_ble_eq_true rfl) (M' := z_m202) rfl (Nat.le_of_ble_eq_true rfl) (zS_202 (by omega) H) (fun v h20 q => ?_)
  obtain ⟨rfl, P1, hP1, H1⟩ := q
  show z_ok sx d 203 2 [(0, .ref a)] [] h20 _
  refine z_ok.imp (zLp_203 (by omega) (400 - P1) P1 _ (by have := H1.bd; omega) (Nat.le_refl _) H1) (fun o h' x y q => ?_)
  obtain ⟨v, rfl, rfl, rfl, rfl, P', h1, h2⟩ := q
  exact ⟨_, rfl, rfl, rfl, rfl, P', P1, hP1, h1, h2⟩
set_option maxRecDepth 100000 in
theorem zS_204 {sx : zX} {ty : List Nat} {h0 : zH} {a w b E : Nat} {P Q D S d t : Nat} {g : Nat → Int32} {h : zH} {q : String × Nat × String × List Int32} (hd : 8 ≤ d) (hq : z_strs[t]? = some q) (hn : q.2.2.2.length ≤ 100) (hn1 : 1 ≤ q.2.2.2.length) (H : zPS ty h0 a w b E P Q D S g h) : z_ok sx d 204 0 (lv_args 0 [.ref a, .ref (zB + t)]) [] h (zRq (fun r h' => h' = h ∧ ∃ c : Int32, r = some (.int c) ∧ (c = 0 ∨ (c = 1 ∧ Q + 1 ≤ P)))) := by
  obtain ⟨bE, bP, bQ, bD, bS⟩ := H.bd
  show z_ok sx d 204 0 [(0, .ref a), (1, .ref (zB + t))] [] h _
  refine zh zJ_204 (i := (2, 0, 0, 0)) rfl rfl (k' := 1) (lo' := [(0, .ref a), (1, .ref (zB + t))]) (st' := [.ref a]) (h' := h) rfl ?_
  refine zg10 H zJ_204 rfl (k' := 2) rfl (fun x21 ex21 => ?_)
  refine zh zJ_204 (i := (2, 0, 0, 0)) rfl rfl (k' := 3) (lo' := [(0, .ref a), (1, .ref (zB + t))]) (st' := [.ref a, .int x21]) (h' := h) rfl ?_
  refine zg12 H zJ_204 rfl (k' := 4) rfl (fun x22 ex22 => ?_)
  refine zh zJ_204 (i := (9, 0, 0, 0)) rfl rfl (k' := 5) (lo' := [(0, .ref a), (1, .ref (zB + t))]) (st' := [.int (x21 - x22)]) (h' := h) rfl ?_
  refine zh zJ_204 (i := (2, 1, 0, 0)) rfl rfl (k' := 6) (lo' := [(0, .ref a), (1, .ref (zB + t))]) (st' := [.ref (zB + t), .int (x21 - x22)]) (h' := h) rfl ?_
  refine zh_slen zJ_204 (a := 0) (b := 0) (z := 0) rfl (k' := 7) rfl (by omega) (Nat.le_of_ble_eq_true rfl) hq rfl ?_
  refine zh_icmp zJ_204 (a := 10) (b := 1) (z := 0) rfl (fun hc23 => ?_) (fun hc23 => ?_)
  · refine zh zJ_204 (i := (0, 0, 0, 0)) rfl rfl (k' := 11) (lo' := [(0, .ref a), (1, .ref (zB + t))]) (st' := [.int (Int32.ofInt (0))]) (h' := h) rfl ?_
    refine zh zJ_204 (i := (4, 2, 0, 0)) rfl rfl (k' := 12) (lo' := [(2, .int (Int32.ofInt (0))), (0, .ref a), (1, .ref (zB + t))]) (st' := []) (h' := h) rfl ?_
    refine zh zJ_204 (i := (0, 0, 0, 0)) rfl rfl (k' := 13) (lo' := [(2, .int (Int32.ofInt (0))), (0, .ref a), (1, .ref (zB + t))]) (st' := [.int (Int32.ofInt (0))]) (h' := h) rfl ?_
    refine zh zJ_204 (i := (4, 3, 0, 0)) rfl rfl (k' := 14) (lo' := [(3, .int (Int32.ofInt (0))), (2, .int (Int32.ofInt (0))), (0, .ref a), (1, .ref (zB + t))]) (st' := []) (h' := h) rfl ?_
    refine zh zJ_204 (i := (1, 2, 0, 0)) rfl rfl (k' := 15) (lo' := [(3, .int (Int32.ofInt (0))), (2, .int (Int32.ofInt (0))), (0, .ref a), (1, .ref (zB + t))]) (st' := [.int (Int32.ofInt (0))]) (h' := h) rfl ?_
    refine zh_if zJ_204 (a := 37) (b := 0) (z := 0) rfl (fun hc24 => ?_) (fun hc24 => ?_)
    · refine zh zJ_204 (i := (1, 2, 0, 0)) rfl rfl (k' := 38) (lo' := [(3, .int (Int32.ofInt (0))), (2, .int (Int32.ofInt (0))), (0, .ref a), (1, .ref (zB + t))]) (st' := [.int (Int32.ofInt (0))]) (h' := h) rfl ?_
      refine zh_iret zJ_204 (a := 0) (b := 0) (z := 0) rfl (Or.inr ⟨rfl, Or.inl rfl⟩) ?_
      exact ⟨_, rfl, rfl, rfl, rfl, _, rfl, Or.inl rfl⟩
    · exact absurd (show z_cmp 0 (Int32.ofInt (0)) 0 = true from rfl) hc24
  · refine zh zJ_204 (i := (0, 0, 0, 1)) rfl rfl (k' := 9) (lo' := [(0, .ref a), (1, .ref (zB + t))]) (st' := [.int (Int32.ofInt (1))]) (h' := h) rfl ?_
    refine zh zJ_204 (i := (30, 11, 0, 0)) rfl rfl (k' := 11) (lo' := [(0, .ref a), (1, .ref (zB + t))]) (st' := [.int (Int32.ofInt (1))]) (h' := h) rfl ?_
    refine zh zJ_204 (i := (4, 2, 0, 0)) rfl rfl (k' := 12) (lo' := [(2, .int (Int32.ofInt (1))), (0, .ref a), (1, .ref (zB + t))]) (st' := []) (h' := h) rfl ?_
    refine zh zJ_204 (i := (0, 0, 0, 0)) rfl rfl (k' := 13) (lo' := [(2, .int (Int32.ofInt (1))), (0, .ref a), (1, .ref (zB + t))]) (st' := [.int (Int32.ofInt (0))]) (h' := h) rfl ?_
    refine zh zJ_204 (i := (4, 3, 0, 0)) rfl rfl (k' := 14) (lo' := [(3, .int (Int32.ofInt (0))), (2, .int (Int32.ofInt (1))), (0, .ref a), (1, .ref (zB + t))]) (st' := []) (h' := h) rfl ?_
    have hh : (x21 - x22).toInt = (Int32.ofNat q.2.2.2.length).toInt := by
      by_cases hh : (x21 - x22).toInt = (Int32.ofNat q.2.2.2.length).toInt
      · exact hh
      · exact absurd (zcmp_ne.mpr hh) hc23
    rw [zI_sub ex21 ex22 (by omega) (by omega), zofNat (by omega)] at hh
    obtain ⟨T, -, -, ha, hw, hb, hg, fs, he, hl, f1, f8, ⟨x11, g11, e11⟩, ⟨x10, g10, e10⟩, ⟨x12, g12, e12⟩, -⟩ := H
    obtain ⟨f, hf⟩ := zcell2 (n := 400) T hb rfl rfl
    exact zLp_204 hd hq hn he f8 g12 (by omega) (by omega) hf (fun c hc => ⟨_, rfl, rfl, rfl, rfl, c, rfl, hc.imp id (fun e => ⟨e, by omega⟩)⟩) _ 0 _ _ (Nat.zero_add _) rfl (Or.inr ⟨rfl, by omega⟩)
theorem zJ_205 : zJ3 205 z_m205 z_c205 z_h205 := ⟨rfl, rfl, rfl⟩
set_option maxRecDepth 100000 in
theorem zS_205 {sx : zX} {ty : List Nat} {h0 : zH} {a w b E : Nat} {P Q D S d t : Nat} {g : Nat → Int32} {h : zH} {q : String × Nat × String × List Int32} (hd : 9 ≤ d) (hq : z_strs[t]? = some q) (hn : q.2.2.2.length ≤ 100) (hn1 : 1 ≤ q.2.2.2.length) (H : zPS ty h0 a w b E P Q D S g h) : z_ok sx d 205 0 (lv_args 0 [.ref a, .ref (zB + t)]) [] h (zRq (zLk ty h0 a w b E P D S g)) := by
  show z_ok sx d 205 0 [(0, .ref a), (1, .ref (zB + t))] [] h _
  refine zh zJ_205 (i := (2, 0, 0, 0)) rfl rfl (k' := 1) (lo' := [(0, .ref a), (1, .ref (zB + t))]) (st' := [.ref a]) (h' := h) rfl ?_
  refine zcl (xs := []) (rest := []) H zJ_205 rfl (k' := 2) rfl (by omega) rfl rfl (Nat.le_of_ble_eq_true rfl) (M' := z_m203) rfl (Nat.le_of_ble_eq_true rfl) (zS_203 (by omega) H) (fun v h25 q => ?_)
  obtain ⟨rfl, P1, Q1, h1, h2, H1⟩ := q
  show z_ok sx d 205 2 [(0, .ref a), (1, .ref (zB + t))] [] h25 _
  refine zh zJ_205 (i := (2, 0, 0, 0)) rfl rfl (k' := 3) (lo' := [(0, .ref a), (1, .ref (zB + t))]) (st' := [.ref a]) (h' := h25) rfl ?_
  refine zh zJ_205 (i := (2, 1, 0, 0)) rfl rfl (k' := 4) (lo' := [(0, .ref a), (1, .ref (zB + t))]) (st' := [.ref (zB + t), .ref a]) (h' := h25) rfl ?_
  refine zcl (xs := [.ref (zB + t)]) (rest := []) H1 zJ_205 rfl (k' := 5) rfl (by omega) rfl rfl (Nat.le_of_ble_eq_true rfl) (M' := z_m204) rfl (Nat.le_of_ble_eq_true rfl) (zS_204 (by omega) hq hn hn1 H1) (fun v h26 q => ?_)
  obtain ⟨rfl, c, rfl, hc⟩ := q
  show z_ok sx d 205 5 [(0, .ref a), (1, .ref (zB + t))] [.int c] h26 _
  refine zh_if zJ_205 (a := 8) (b := 0) (z := 0) rfl (fun hc27 => ?_) (fun hc27 => ?_)
  · refine zh zJ_205 (i := (2, 0, 0, 0)) rfl rfl (k' := 9) (lo' := [(0, .ref a), (1, .ref (zB + t))]) (st' := [.ref a]) (h' := h26) rfl ?_
    refine zh zJ_205 (i := (2, 0, 0, 0)) rfl rfl (k' := 10) (lo' := [(0, .ref a), (1, .ref (zB + t))]) (st' := [.ref a, .ref a]) (h' := h26) rfl ?_
    refine zg12 H1 zJ_205 rfl (k' := 11) rfl (fun x28 ex28 => ?_)
    refine zp10 H1 zJ_205 rfl (k' := 12) rfl (Q1) ex28 (by have := H1.bd; omega) (fun h29 Hh29 => ?_)
    refine zh zJ_205 (i := (0, 0, 0, 0)) rfl rfl (k' := 13) (lo' := [(0, .ref a), (1, .ref (zB + t))]) (st' := [.int (Int32.ofInt (0))]) (h' := h29) rfl ?_
    refine zh_iret zJ_205 (a := 0) (b := 0) (z := 0) rfl (Or.inr ⟨rfl, Or.inl rfl⟩) ?_
    exact ⟨_, rfl, rfl, rfl, _, Q1, Q1, rfl, Hh29, h1, Or.inl rfl⟩
  · have hlt := (hc.resolve_left (fun e => hc27 (by rw [e]; rfl))).2
    refine zh zJ_205 (i := (0, 0, 0, 1)) rfl rfl (k' := 7) (lo' := [(0, .ref a), (1, .ref (zB + t))]) (st' := [.int (Int32.ofInt (1))]) (h' := h26) rfl ?_
    refine zh_iret zJ_205 (a := 0) (b := 0) (z := 0) rfl (Or.inr ⟨rfl, Or.inr rfl⟩) ?_
    exact ⟨_, rfl, rfl, rfl, _, P1, Q1, rfl, H1, by omega, Or.inr ⟨rfl, by omega⟩⟩
theorem zJ_206 : zJ3 206 z_m206 z_c206 z_h206 := ⟨rfl, rfl, rfl⟩
set_option maxRecDepth 100000 in
theorem zS_206 {sx : zX} {ty : List Nat} {h0 : zH} {a w b E : Nat} {P Q D S d : Nat} {g : Nat → Int32} {h : zH} (hd : 3 ≤ d) (u : Int32) (H : zPS ty h0 a w b E P Q D S g h) : z_ok sx d 206 0 (lv_args 0 [.ref a, .int u]) [] h (zRq (zLk ty h0 a w b E P D S g)) := by
  show z_ok sx d 206 0 [(0, .ref a), (1, .int u)] [] h _
  refine zh zJ_206 (i := (2, 0, 0, 0)) rfl rfl (k' := 1) (lo' := [(0, .ref a), (1, .int u)]) (st' := [.ref a]) (h' := h) rfl ?_
  refine zcl (xs := []) (rest := []) H zJ_206 rfl (k' := 2) rfl (by omega) rfl rfl (Nat.le_of_ble_eq_true rfl) (M' := z_m202) rfl (Nat.le_of_ble_eq_true rfl) (zS_202 (by omega) H) (fun v h30 q => ?_)
  obtain ⟨rfl, P1, h1, H1⟩ := q
  obtain ⟨bE, bP, bQ, bD, bS⟩ := H1.bd
  show z_ok sx d 206 2 [(0, .ref a), (1, .int u)] [] h30 _
  refine zh zJ_206 (i := (2, 0, 0, 0)) rfl rfl (k' := 3) (lo' := [(0, .ref a), (1, .int u)]) (st' := [.ref a]) (h' := h30) rfl ?_
  refine zh zJ_206 (i := (1, 1, 0, 0)) rfl rfl (k' := 4) (lo' := [(0, .ref a), (1, .int u)]) (st' := [.int u, .ref a]) (h' := h30) rfl ?_
  refine zh zJ_206 (i := (1, 1, 0, 0)) rfl rfl (k' := 5) (lo' := [(0, .ref a), (1, .int u)]) (st' := [.int u, .int u, .ref a]) (h' := h30) rfl ?_
  refine zcl (xs := [.int u, .int u]) (rest := []) H1 zJ_206 rfl (k' := 6) rfl (by omega) rfl rfl (Nat.le_of_ble_eq_true rfl) (M' := z_m201) rfl (Nat.le_of_ble_eq_true rfl) (zS_201 H1 _ _) (fun v h31 q => ?_)
  obtain ⟨rfl, c, rfl, hc⟩ := q
  show z_ok sx d 206 6 [(0, .ref a), (1, .int u)] [.int c] h31 _
  refine zh_if zJ_206 (a := 9) (b := 1) (z := 0) rfl (fun hc32 => ?_) (fun hc32 => ?_)
  · have hlt : P1 < E := (hc.resolve_left (fun e => zcmp_ne.mp hc32 (by rw [e]))).2
    refine zh zJ_206 (i := (2, 0, 0, 0)) rfl rfl (k' := 10) (lo' := [(0, .ref a), (1, .int u)]) (st' := [.ref a]) (h' := h31) rfl ?_
    refine zh zJ_206 (i := (27, 0, 0, 0)) rfl rfl (k' := 11) (lo' := [(0, .ref a), (1, .int u)]) (st' := [.ref a, .ref a]) (h' := h31) rfl ?_
    refine zg10 H1 zJ_206 rfl (k' := 12) rfl (fun x33 ex33 => ?_)
    refine zh zJ_206 (i := (0, 0, 0, 1)) rfl rfl (k' := 13) (lo' := [(0, .ref a), (1, .int u)]) (st' := [.int (Int32.ofInt (1)), .int x33, .ref a]) (h' := h31) rfl ?_
    refine zh zJ_206 (i := (8, 0, 0, 0)) rfl rfl (k' := 14) (lo' := [(0, .ref a), (1, .int u)]) (st' := [.int (x33 + (Int32.ofInt (1))), .ref a]) (h' := h31) rfl ?_
    refine zp10 H1 zJ_206 rfl (k' := 15) rfl (P1 + 1) (by rw [zI_add ex33 (zI_c (by decide) (by decide)) (by omega) (by omega)]; omega) (by omega) (fun h34 Hh34 => ?_)
    refine zh zJ_206 (i := (0, 0, 0, 1)) rfl rfl (k' := 16) (lo' := [(0, .ref a), (1, .int u)]) (st' := [.int (Int32.ofInt (1))]) (h' := h34) rfl ?_
    refine zh_iret zJ_206 (a := 0) (b := 0) (z := 0) rfl (Or.inr ⟨rfl, Or.inr rfl⟩) ?_
    exact ⟨_, rfl, rfl, rfl, _, P1 + 1, P1, rfl, Hh34, by omega, Or.inr ⟨rfl, by omega⟩⟩
  · refine zh zJ_206 (i := (0, 0, 0, 0)) rfl rfl (k' := 8) (lo' := [(0, .ref a), (1, .int u)]) (st' := [.int (Int32.ofInt (0))]) (h' := h31) rfl ?_
    refine zh_iret zJ_206 (a := 0) (b := 0) (z := 0) rfl (Or.inr ⟨rfl, Or.inl rfl⟩) ?_
    exact ⟨_, rfl, rfl, rfl, _, P1, P1, rfl, H1, h1, Or.inl rfl⟩
theorem zJ_207 : zJ3 207 z_m207 z_c207 z_h207 := ⟨rfl, rfl, rfl⟩
set_option maxRecDepth 100000 in
theorem zLp_207 {sx : zX} {ty : List Nat} {h0 : zH} {a w b E : Nat} {Q D S d P0 : Nat} {g : Nat → Int32} {u v : Int32} (hd : 2 ≤ d ∧ P0 ≤ Q) : ∀ (r P : Nat) (m : Int32) (h : zH), P + r = 400 → Q ≤ P → zPS ty h0 a w b E P Q D S g h → z_ok sx d 207 4 [(3, .int m), (0, .ref a), (1, .int u), (2, .int v)] [] h (zRq (fun r h' => ∃ (c : Int32) (P' Q' : Nat), r = some (.int c) ∧ zPS ty h0 a w b E P' Q' D S g h' ∧ P0 ≤ P' ∧ (c.toInt < 0 ∨ P0 + 1 ≤ P')))
  | r, P, m, h, hr, hP, H => by
    obtain ⟨bE, bP, bQ, bD, bS⟩ := H.bd
    have hd1 := hd.1
    have h00 := hd.2
    refine zh zJ_207 (i := (2, 0, 0, 0)) rfl rfl (k' := 5) (lo' := [(3, .int m), (0, .ref a), (1, .int u), (2, .int v)]) (st' := [.ref a]) (h' := h) rfl ?_
    refine zh zJ_207 (i := (0, 0, 0, 48)) rfl rfl (k' := 6) (lo' := [(3, .int m), (0, .ref a), (1, .int u), (2, .int v)]) (st' := [.int (Int32.ofInt (48)), .ref a]) (h' := h) rfl ?_
    refine zh zJ_207 (i := (0, 0, 0, 57)) rfl rfl (k' := 7) (lo' := [(3, .int m), (0, .ref a), (1, .int u), (2, .int v)]) (st' := [.int (Int32.ofInt (57)), .int (Int32.ofInt (48)), .ref a]) (h' := h) rfl ?_
    refine zcl (xs := [.int (Int32.ofInt (57)), .int (Int32.ofInt (48))]) (rest := []) H zJ_207 rfl (k' := 8) rfl (by omega) rfl rfl (Nat.le_of_ble_eq_true rfl) (M' := z_m201) rfl (Nat.le_of_ble_eq_true rfl) (zS_201 H _ _) (fun v h35 q => ?_)
    obtain ⟨rfl, c, rfl, hc⟩ := q
    show z_ok sx d 207 8 [(3, .int m), (0, .ref a), (1, .int u), (2, .int v)] [.int c] h35 _
    refine zh_if zJ_207 (a := 37) (b := 0) (z := 0) rfl (fun hc36 => ?_) (fun hc36 => ?_)
    · refine zh zJ_207 (i := (2, 0, 0, 0)) rfl rfl (k' := 38) (lo' := [(3, .int m), (0, .ref a), (1, .int u), (2, .int v)]) (st' := [.ref a]) (h' := h35) rfl ?_
      refine zg10 H zJ_207 rfl (k' := 39) rfl (fun x37 ex37 => ?_)
      refine zh zJ_207 (i := (2, 0, 0, 0)) rfl rfl (k' := 40) (lo' := [(3, .int m), (0, .ref a), (1, .int u), (2, .int v)]) (st' := [.ref a, .int x37]) (h' := h35) rfl ?_
      refine zg12 H zJ_207 rfl (k' := 41) rfl (fun x38 ex38 => ?_)
      refine zh_icmp zJ_207 (a := 55) (b := 0) (z := 0) rfl (fun hc39 => ?_) (fun hc39 => ?_)
      · refine zh zJ_207 (i := (0, 0, 0, -1)) rfl rfl (k' := 56) (lo' := [(3, .int m), (0, .ref a), (1, .int u), (2, .int v)]) (st' := [.int (Int32.ofInt (-1))]) (h' := h35) rfl ?_
        refine zh zJ_207 (i := (30, 58, 0, 0)) rfl rfl (k' := 58) (lo' := [(3, .int m), (0, .ref a), (1, .int u), (2, .int v)]) (st' := [.int (Int32.ofInt (-1))]) (h' := h35) rfl ?_
        refine zh_iret zJ_207 (a := 0) (b := 0) (z := 0) rfl (Or.inl rfl) ?_
        exact ⟨_, rfl, rfl, rfl, _, P, Q, rfl, H, by omega, Or.inl (by decide)⟩
      · have hne : Q < P := (by have := mt zcmp_eq.mpr hc39; omega)
        refine zh zJ_207 (i := (2, 0, 0, 0)) rfl rfl (k' := 43) (lo' := [(3, .int m), (0, .ref a), (1, .int u), (2, .int v)]) (st' := [.ref a]) (h' := h35) rfl ?_
        refine zg10 H zJ_207 rfl (k' := 44) rfl (fun x40 ex40 => ?_)
        refine zh zJ_207 (i := (2, 0, 0, 0)) rfl rfl (k' := 45) (lo' := [(3, .int m), (0, .ref a), (1, .int u), (2, .int v)]) (st' := [.ref a, .int x40]) (h' := h35) rfl ?_
        refine zg12 H zJ_207 rfl (k' := 46) rfl (fun x41 ex41 => ?_)
        refine zh zJ_207 (i := (9, 0, 0, 0)) rfl rfl (k' := 47) (lo' := [(3, .int m), (0, .ref a), (1, .int u), (2, .int v)]) (st' := [.int (x40 - x41)]) (h' := h35) rfl ?_
        refine zh zJ_207 (i := (0, 0, 0, 3)) rfl rfl (k' := 48) (lo' := [(3, .int m), (0, .ref a), (1, .int u), (2, .int v)]) (st' := [.int (Int32.ofInt (3)), .int (x40 - x41)]) (h' := h35) rfl ?_
        refine zh_icmp zJ_207 (a := 55) (b := 4) (z := 0) rfl (fun hc42 => ?_) (fun hc42 => ?_)
        · refine zh zJ_207 (i := (0, 0, 0, -1)) rfl rfl (k' := 56) (lo' := [(3, .int m), (0, .ref a), (1, .int u), (2, .int v)]) (st' := [.int (Int32.ofInt (-1))]) (h' := h35) rfl ?_
          refine zh zJ_207 (i := (30, 58, 0, 0)) rfl rfl (k' := 58) (lo' := [(3, .int m), (0, .ref a), (1, .int u), (2, .int v)]) (st' := [.int (Int32.ofInt (-1))]) (h' := h35) rfl ?_
          refine zh_iret zJ_207 (a := 0) (b := 0) (z := 0) rfl (Or.inl rfl) ?_
          exact ⟨_, rfl, rfl, rfl, _, P, Q, rfl, H, by omega, Or.inl (by decide)⟩
        · refine zh zJ_207 (i := (1, 3, 0, 0)) rfl rfl (k' := 50) (lo' := [(3, .int m), (0, .ref a), (1, .int u), (2, .int v)]) (st' := [.int m]) (h' := h35) rfl ?_
          refine zh zJ_207 (i := (1, 1, 0, 0)) rfl rfl (k' := 51) (lo' := [(3, .int m), (0, .ref a), (1, .int u), (2, .int v)]) (st' := [.int u, .int m]) (h' := h35) rfl ?_
          refine zh_icmp zJ_207 (a := 55) (b := 2) (z := 0) rfl (fun hc43 => ?_) (fun hc43 => ?_)
          · refine zh zJ_207 (i := (0, 0, 0, -1)) rfl rfl (k' := 56) (lo' := [(3, .int m), (0, .ref a), (1, .int u), (2, .int v)]) (st' := [.int (Int32.ofInt (-1))]) (h' := h35) rfl ?_
            refine zh zJ_207 (i := (30, 58, 0, 0)) rfl rfl (k' := 58) (lo' := [(3, .int m), (0, .ref a), (1, .int u), (2, .int v)]) (st' := [.int (Int32.ofInt (-1))]) (h' := h35) rfl ?_
            refine zh_iret zJ_207 (a := 0) (b := 0) (z := 0) rfl (Or.inl rfl) ?_
            exact ⟨_, rfl, rfl, rfl, _, P, Q, rfl, H, by omega, Or.inl (by decide)⟩
          · refine zh zJ_207 (i := (1, 3, 0, 0)) rfl rfl (k' := 53) (lo' := [(3, .int m), (0, .ref a), (1, .int u), (2, .int v)]) (st' := [.int m]) (h' := h35) rfl ?_
            refine zh zJ_207 (i := (1, 2, 0, 0)) rfl rfl (k' := 54) (lo' := [(3, .int m), (0, .ref a), (1, .int u), (2, .int v)]) (st' := [.int v, .int m]) (h' := h35) rfl ?_
            refine zh_icmp zJ_207 (a := 57) (b := 5) (z := 0) rfl (fun hc44 => ?_) (fun hc44 => ?_)
            · refine zh zJ_207 (i := (1, 3, 0, 0)) rfl rfl (k' := 58) (lo' := [(3, .int m), (0, .ref a), (1, .int u), (2, .int v)]) (st' := [.int m]) (h' := h35) rfl ?_
              refine zh_iret zJ_207 (a := 0) (b := 0) (z := 0) rfl (Or.inl rfl) ?_
              exact ⟨_, rfl, rfl, rfl, _, P, Q, rfl, H, by omega, Or.inr (by omega)⟩
            · refine zh zJ_207 (i := (0, 0, 0, -1)) rfl rfl (k' := 56) (lo' := [(3, .int m), (0, .ref a), (1, .int u), (2, .int v)]) (st' := [.int (Int32.ofInt (-1))]) (h' := h35) rfl ?_
              refine zh zJ_207 (i := (30, 58, 0, 0)) rfl rfl (k' := 58) (lo' := [(3, .int m), (0, .ref a), (1, .int u), (2, .int v)]) (st' := [.int (Int32.ofInt (-1))]) (h' := h35) rfl ?_
              refine zh_iret zJ_207 (a := 0) (b := 0) (z := 0) rfl (Or.inl rfl) ?_
              exact ⟨_, rfl, rfl, rfl, _, P, Q, rfl, H, by omega, Or.inl (by decide)⟩
    · have hlt : P < E := (hc.resolve_left (fun e => hc36 (by rw [e]; rfl))).2
      obtain ⟨r, rfl⟩ : ∃ r', r = r' + 1 := ⟨r - 1, by omega⟩
      refine zh zJ_207 (i := (2, 0, 0, 0)) rfl rfl (k' := 10) (lo' := [(3, .int m), (0, .ref a), (1, .int u), (2, .int v)]) (st' := [.ref a]) (h' := h35) rfl ?_
      refine zg10 H zJ_207 rfl (k' := 11) rfl (fun x45 ex45 => ?_)
      refine zh zJ_207 (i := (2, 0, 0, 0)) rfl rfl (k' := 12) (lo' := [(3, .int m), (0, .ref a), (1, .int u), (2, .int v)]) (st' := [.ref a, .int x45]) (h' := h35) rfl ?_
      refine zg12 H zJ_207 rfl (k' := 13) rfl (fun x46 ex46 => ?_)
      refine zh zJ_207 (i := (9, 0, 0, 0)) rfl rfl (k' := 14) (lo' := [(3, .int m), (0, .ref a), (1, .int u), (2, .int v)]) (st' := [.int (x45 - x46)]) (h' := h35) rfl ?_
      refine zh zJ_207 (i := (0, 0, 0, 3)) rfl rfl (k' := 15) (lo' := [(3, .int m), (0, .ref a), (1, .int u), (2, .int v)]) (st' := [.int (Int32.ofInt (3)), .int (x45 - x46)]) (h' := h35) rfl ?_
      refine zh_icmp zJ_207 (a := 28) (b := 3) (z := 0) rfl (fun hc47 => ?_) (fun hc47 => ?_)
      · refine zh zJ_207 (i := (1, 3, 0, 0)) rfl rfl (k' := 29) (lo' := [(3, .int m), (0, .ref a), (1, .int u), (2, .int v)]) (st' := [.int m]) (h' := h35) rfl ?_
        refine zh zJ_207 (i := (4, 3, 0, 0)) rfl rfl (k' := 30) (lo' := [(3, .int m), (0, .ref a), (1, .int u), (2, .int v)]) (st' := []) (h' := h35) rfl ?_
        refine zh zJ_207 (i := (2, 0, 0, 0)) rfl rfl (k' := 31) (lo' := [(3, .int m), (0, .ref a), (1, .int u), (2, .int v)]) (st' := [.ref a]) (h' := h35) rfl ?_
        refine zh zJ_207 (i := (27, 0, 0, 0)) rfl rfl (k' := 32) (lo' := [(3, .int m), (0, .ref a), (1, .int u), (2, .int v)]) (st' := [.ref a, .ref a]) (h' := h35) rfl ?_
        refine zg10 H zJ_207 rfl (k' := 33) rfl (fun x48 ex48 => ?_)
        refine zh zJ_207 (i := (0, 0, 0, 1)) rfl rfl (k' := 34) (lo' := [(3, .int m), (0, .ref a), (1, .int u), (2, .int v)]) (st' := [.int (Int32.ofInt (1)), .int x48, .ref a]) (h' := h35) rfl ?_
        refine zh zJ_207 (i := (8, 0, 0, 0)) rfl rfl (k' := 35) (lo' := [(3, .int m), (0, .ref a), (1, .int u), (2, .int v)]) (st' := [.int (x48 + (Int32.ofInt (1))), .ref a]) (h' := h35) rfl ?_
        refine zp10 H zJ_207 rfl (k' := 36) rfl (P + 1) (by rw [zI_add ex48 (zI_c (by decide) (by decide)) (by omega) (by omega)]; omega) (by omega) (fun h49 Hh49 => ?_)
        refine zh zJ_207 (i := (30, 4, 0, 0)) rfl rfl (k' := 4) (lo' := [(3, .int m), (0, .ref a), (1, .int u), (2, .int v)]) (st' := []) (h' := h49) rfl ?_
        exact zLp_207 hd r (P + 1) _ _ (by omega) (by omega) Hh49
      · refine zh zJ_207 (i := (0, 0, 0, 10)) rfl rfl (k' := 17) (lo' := [(3, .int m), (0, .ref a), (1, .int u), (2, .int v)]) (st' := [.int (Int32.ofInt (10))]) (h' := h35) rfl ?_
        refine zh zJ_207 (i := (1, 3, 0, 0)) rfl rfl (k' := 18) (lo' := [(3, .int m), (0, .ref a), (1, .int u), (2, .int v)]) (st' := [.int m, .int (Int32.ofInt (10))]) (h' := h35) rfl ?_
        refine zh zJ_207 (i := (10, 0, 0, 0)) rfl rfl (k' := 19) (lo' := [(3, .int m), (0, .ref a), (1, .int u), (2, .int v)]) (st' := [.int ((Int32.ofInt (10)) * m)]) (h' := h35) rfl ?_
        refine zh zJ_207 (i := (2, 0, 0, 0)) rfl rfl (k' := 20) (lo' := [(3, .int m), (0, .ref a), (1, .int u), (2, .int v)]) (st' := [.ref a, .int ((Int32.ofInt (10)) * m)]) (h' := h35) rfl ?_
        refine zg8 H zJ_207 rfl (k' := 21) rfl ?_
        refine zh zJ_207 (i := (2, 0, 0, 0)) rfl rfl (k' := 22) (lo' := [(3, .int m), (0, .ref a), (1, .int u), (2, .int v)]) (st' := [.ref a, .ref b, .int ((Int32.ofInt (10)) * m)]) (h' := h35) rfl ?_
        refine zg10 H zJ_207 rfl (k' := 23) rfl (fun x50 ex50 => ?_)
        refine zlb H zJ_207 rfl (k' := 24) rfl (P) ex50 (by omega) (fun c51 => ?_)
        refine zh zJ_207 (i := (8, 0, 0, 0)) rfl rfl (k' := 25) (lo' := [(3, .int m), (0, .ref a), (1, .int u), (2, .int v)]) (st' := [.int (((Int32.ofInt (10)) * m) + c51)]) (h' := h35) rfl ?_
        refine zh zJ_207 (i := (0, 0, 0, 48)) rfl rfl (k' := 26) (lo' := [(3, .int m), (0, .ref a), (1, .int u), (2, .int v)]) (st' := [.int (Int32.ofInt (48)), .int (((Int32.ofInt (10)) * m) + c51)]) (h' := h35) rfl ?_
        refine zh zJ_207 (i := (9, 0, 0, 0)) rfl rfl (k' := 27) (lo' := [(3, .int m), (0, .ref a), (1, .int u), (2, .int v)]) (st' := [.int ((((Int32.ofInt (10)) * m) + c51) - (Int32.ofInt (48)))]) (h' := h35) rfl ?_
        refine zh zJ_207 (i := (30, 29, 0, 0)) rfl rfl (k' := 29) (lo' := [(3, .int m), (0, .ref a), (1, .int u), (2, .int v)]) (st' := [.int ((((Int32.ofInt (10)) * m) + c51) - (Int32.ofInt (48)))]) (h' := h35) rfl ?_
        refine zh zJ_207 (i := (4, 3, 0, 0)) rfl rfl (k' := 30) (lo' := [(3, .int ((((Int32.ofInt (10)) * m) + c51) - (Int32.ofInt (48)))), (0, .ref a), (1, .int u), (2, .int v)]) (st' := []) (h' := h35) rfl ?_
        refine zh zJ_207 (i := (2, 0, 0, 0)) rfl rfl (k' := 31) (lo' := [(3, .int ((((Int32.ofInt (10)) * m) + c51) - (Int32.ofInt (48)))), (0, .ref a), (1, .int u), (2, .int v)]) (st' := [.ref a]) (h' := h35) rfl ?_
        refine zh zJ_207 (i := (27, 0, 0, 0)) rfl rfl (k' := 32) (lo' := [(3, .int ((((Int32.ofInt (10)) * m) + c51) - (Int32.ofInt (48)))), (0, .ref a), (1, .int u), (2, .int v)]) (st' := [.ref a, .ref a]) (h' := h35) rfl ?_
        refine zg10 H zJ_207 rfl (k' := 33) rfl (fun x52 ex52 => ?_)
        refine zh zJ_207 (i := (0, 0, 0, 1)) rfl rfl (k' := 34) (lo' := [(3, .int ((((Int32.ofInt (10)) * m) + c51) - (Int32.ofInt (48)))), (0, .ref a), (1, .int u), (2, .int v)]) (st' := [.int (Int32.ofInt (1)), .int x52, .ref a]) (h' := h35) rfl ?_
        refine zh zJ_207 (i := (8, 0, 0, 0)) rfl rfl (k' := 35) (lo' := [(3, .int ((((Int32.ofInt (10)) * m) + c51) - (Int32.ofInt (48)))), (0, .ref a), (1, .int u), (2, .int v)]) (st' := [.int (x52 + (Int32.ofInt (1))), .ref a]) (h' := h35) rfl ?_
        refine zp10 H zJ_207 rfl (k' := 36) rfl (P + 1) (by rw [zI_add ex52 (zI_c (by decide) (by decide)) (by omega) (by omega)]; omega) (by omega) (fun h53 Hh53 => ?_)
        refine zh zJ_207 (i := (30, 4, 0, 0)) rfl rfl (k' := 4) (lo' := [(3, .int ((((Int32.ofInt (10)) * m) + c51) - (Int32.ofInt (48)))), (0, .ref a), (1, .int u), (2, .int v)]) (st' := []) (h' := h53) rfl ?_
        exact zLp_207 hd r (P + 1) _ _ (by omega) (by omega) Hh53
set_option maxRecDepth 100000 in
theorem zS_207 {sx : zX} {ty : List Nat} {h0 : zH} {a w b E : Nat} {P Q D S d : Nat} {g : Nat → Int32} {h : zH} (hd : 3 ≤ d) (u v : Int32) (H : zPS ty h0 a w b E P Q D S g h) : z_ok sx d 207 0 (lv_args 0 [.ref a, .int u, .int v]) [] h (zRq (fun r h' => ∃ (c : Int32) (P' Q' : Nat), r = some (.int c) ∧ zPS ty h0 a w b E P' Q' D S g h' ∧ P ≤ P' ∧ (c.toInt < 0 ∨ P + 1 ≤ P'))) := by
  show z_ok sx d 207 0 [(0, .ref a), (1, .int u), (2, .int v)] [] h _
  refine zh zJ_207 (i := (2, 0, 0, 0)) rfl rfl (k' := 1) (lo' := [(0, .ref a), (1, .int u), (2, .int v)]) (st' := [.ref a]) (h' := h) rfl ?_
  refine zcl (xs := []) (rest := []) H zJ_207 rfl (k' := 2) rfl (by omega) rfl rfl (Nat.le_of_ble_eq_true rfl) (M' := z_m202) rfl (Nat.le_of_ble_eq_true rfl) (zS_202 (by omega) H) (fun v h54 q => ?_)
  obtain ⟨rfl, P1, h1, H1⟩ := q
  show z_ok sx d 207 2 [(0, .ref a), (1, .int u), (2, .int v)] [] h54 _
  refine zh zJ_207 (i := (0, 0, 0, 0)) rfl rfl (k' := 3) (lo' := [(0, .ref a), (1, .int u), (2, .int v)]) (st' := [.int (Int32.ofInt (0))]) (h' := h54) rfl ?_
  refine zh zJ_207 (i := (4, 3, 0, 0)) rfl rfl (k' := 4) (lo' := [(3, .int (Int32.ofInt (0))), (0, .ref a), (1, .int u), (2, .int v)]) (st' := []) (h' := h54) rfl ?_
  exact zLp_207 ⟨by omega, h1⟩ (400 - P1) P1 _ _ (by have := H1.bd; omega) (Nat.le_refl _) H1
theorem zJ_221 : zJ3 221 z_m221 z_c221 z_h221 := ⟨rfl, rfl, rfl⟩
set_option maxRecDepth 100000 in
theorem zS_221 {sx : zX} {ty : List Nat} {h0 : zH} {a w b E : Nat} {P Q D S d : Nat} {g : Nat → Int32} {h : zH} (u v : Int32) (hS : S < 400) (H : zPS ty h0 a w b E P Q D S g h) : z_ok sx d 221 0 (lv_args 0 [.ref a, .int u, .int v]) [] h (zRq (fun r h' => r = none ∧ zPS ty h0 a w b E P Q D (S + 1) (zEm g S u v) h')) := by
  show z_ok sx d 221 0 [(0, .ref a), (1, .int u), (2, .int v)] [] h _
  refine zh zJ_221 (i := (2, 0, 0, 0)) rfl rfl (k' := 1) (lo' := [(0, .ref a), (1, .int u), (2, .int v)]) (st' := [.ref a]) (h' := h) rfl ?_
  refine zg1 H zJ_221 rfl (k' := 2) rfl ?_
  refine zh zJ_221 (i := (0, 0, 0, 1286)) rfl rfl (k' := 3) (lo' := [(0, .ref a), (1, .int u), (2, .int v)]) (st' := [.int (Int32.ofInt (1286)), .ref w]) (h' := h) rfl ?_
  refine zh zJ_221 (i := (0, 0, 0, 2)) rfl rfl (k' := 4) (lo' := [(0, .ref a), (1, .int u), (2, .int v)]) (st' := [.int (Int32.ofInt (2)), .int (Int32.ofInt (1286)), .ref w]) (h' := h) rfl ?_
  refine zh zJ_221 (i := (2, 0, 0, 0)) rfl rfl (k' := 5) (lo' := [(0, .ref a), (1, .int u), (2, .int v)]) (st' := [.ref a, .int (Int32.ofInt (2)), .int (Int32.ofInt (1286)), .ref w]) (h' := h) rfl ?_
  refine zg16 H zJ_221 rfl (k' := 6) rfl (fun x55 ex55 => ?_)
  have k1 : (Int32.ofInt (1286) + Int32.ofInt (2) * x55).toInt = ((1286 + 2 * S : Nat) : Int) := by
    rw [zI_add (zI_c (by decide) (by decide)) (zI_mul (zI_c (by decide) (by decide)) ex55 (by omega) (by omega)) (by omega) (by omega)]
    omega
  refine zh zJ_221 (i := (10, 0, 0, 0)) rfl rfl (k' := 7) (lo' := [(0, .ref a), (1, .int u), (2, .int v)]) (st' := [.int ((Int32.ofInt (2)) * x55), .int (Int32.ofInt (1286)), .ref w]) (h' := h) rfl ?_
  refine zh zJ_221 (i := (8, 0, 0, 0)) rfl rfl (k' := 8) (lo' := [(0, .ref a), (1, .int u), (2, .int v)]) (st' := [.int ((Int32.ofInt (1286)) + ((Int32.ofInt (2)) * x55)), .ref w]) (h' := h) rfl ?_
  refine zh zJ_221 (i := (1, 1, 0, 0)) rfl rfl (k' := 9) (lo' := [(0, .ref a), (1, .int u), (2, .int v)]) (st' := [.int u, .int ((Int32.ofInt (1286)) + ((Int32.ofInt (2)) * x55)), .ref w]) (h' := h) rfl ?_
  refine zpw H zJ_221 rfl (k' := 10) rfl (1286 + 2 * S) k1 (by omega) (by omega) (fun h56 Hh56 => ?_)
  refine zh zJ_221 (i := (2, 0, 0, 0)) rfl rfl (k' := 11) (lo' := [(0, .ref a), (1, .int u), (2, .int v)]) (st' := [.ref a]) (h' := h56) rfl ?_
  refine zg1 Hh56 zJ_221 rfl (k' := 12) rfl ?_
  refine zh zJ_221 (i := (0, 0, 0, 1286)) rfl rfl (k' := 13) (lo' := [(0, .ref a), (1, .int u), (2, .int v)]) (st' := [.int (Int32.ofInt (1286)), .ref w]) (h' := h56) rfl ?_
  refine zh zJ_221 (i := (0, 0, 0, 2)) rfl rfl (k' := 14) (lo' := [(0, .ref a), (1, .int u), (2, .int v)]) (st' := [.int (Int32.ofInt (2)), .int (Int32.ofInt (1286)), .ref w]) (h' := h56) rfl ?_
  refine zh zJ_221 (i := (2, 0, 0, 0)) rfl rfl (k' := 15) (lo' := [(0, .ref a), (1, .int u), (2, .int v)]) (st' := [.ref a, .int (Int32.ofInt (2)), .int (Int32.ofInt (1286)), .ref w]) (h' := h56) rfl ?_
  refine zg16 Hh56 zJ_221 rfl (k' := 16) rfl (fun x57 ex57 => ?_)
  have k2 : (Int32.ofInt (1286) + Int32.ofInt (2) * x57 + Int32.ofInt (1)).toInt = ((1287 + 2 * S : Nat) : Int) := by
    rw [zI_add (zI_add (zI_c (by decide) (by decide)) (zI_mul (zI_c (by decide) (by decide)) ex57 (by omega) (by omega)) (by omega) (by omega)) (zI_c (by decide) (by decide)) (by omega) (by omega)]
    omega
  refine zh zJ_221 (i := (10, 0, 0, 0)) rfl rfl (k' := 17) (lo' := [(0, .ref a), (1, .int u), (2, .int v)]) (st' := [.int ((Int32.ofInt (2)) * x57), .int (Int32.ofInt (1286)), .ref w]) (h' := h56) rfl ?_
  refine zh zJ_221 (i := (8, 0, 0, 0)) rfl rfl (k' := 18) (lo' := [(0, .ref a), (1, .int u), (2, .int v)]) (st' := [.int ((Int32.ofInt (1286)) + ((Int32.ofInt (2)) * x57)), .ref w]) (h' := h56) rfl ?_
  refine zh zJ_221 (i := (0, 0, 0, 1)) rfl rfl (k' := 19) (lo' := [(0, .ref a), (1, .int u), (2, .int v)]) (st' := [.int (Int32.ofInt (1)), .int ((Int32.ofInt (1286)) + ((Int32.ofInt (2)) * x57)), .ref w]) (h' := h56) rfl ?_
  refine zh zJ_221 (i := (8, 0, 0, 0)) rfl rfl (k' := 20) (lo' := [(0, .ref a), (1, .int u), (2, .int v)]) (st' := [.int (((Int32.ofInt (1286)) + ((Int32.ofInt (2)) * x57)) + (Int32.ofInt (1))), .ref w]) (h' := h56) rfl ?_
  refine zh zJ_221 (i := (1, 2, 0, 0)) rfl rfl (k' := 21) (lo' := [(0, .ref a), (1, .int u), (2, .int v)]) (st' := [.int v, .int (((Int32.ofInt (1286)) + ((Int32.ofInt (2)) * x57)) + (Int32.ofInt (1))), .ref w]) (h' := h56) rfl ?_
  refine zpw Hh56 zJ_221 rfl (k' := 22) rfl (1287 + 2 * S) k2 (by omega) (by omega) (fun h58 Hh58 => ?_)
  refine zh zJ_221 (i := (2, 0, 0, 0)) rfl rfl (k' := 23) (lo' := [(0, .ref a), (1, .int u), (2, .int v)]) (st' := [.ref a]) (h' := h58) rfl ?_
  refine zh zJ_221 (i := (27, 0, 0, 0)) rfl rfl (k' := 24) (lo' := [(0, .ref a), (1, .int u), (2, .int v)]) (st' := [.ref a, .ref a]) (h' := h58) rfl ?_
  refine zg16 Hh58 zJ_221 rfl (k' := 25) rfl (fun x59 ex59 => ?_)
  refine zh zJ_221 (i := (0, 0, 0, 1)) rfl rfl (k' := 26) (lo' := [(0, .ref a), (1, .int u), (2, .int v)]) (st' := [.int (Int32.ofInt (1)), .int x59, .ref a]) (h' := h58) rfl ?_
  refine zh zJ_221 (i := (8, 0, 0, 0)) rfl rfl (k' := 27) (lo' := [(0, .ref a), (1, .int u), (2, .int v)]) (st' := [.int (x59 + (Int32.ofInt (1))), .ref a]) (h' := h58) rfl ?_
  refine zp16 Hh58 zJ_221 rfl (k' := 28) rfl (S + 1) (by rw [zI_add ex59 (zI_c (by decide) (by decide)) (by omega) (by omega)]; omega) (by omega) (fun h60 Hh60 => ?_)
  refine zh_vret zJ_221 (a := 0) (b := 0) (z := 0) rfl ?_
  exact ⟨_, rfl, rfl, rfl, rfl, Hh60⟩
end
