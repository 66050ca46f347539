/-! looksFor from its entry -/
set_option maxRecDepth 100000 in
theorem zR_285 {sx : zX} {d a : Nat} {ty : List Nat} {h : zH} {hr v s : Int32} {cf : Nat → Int32} (hd : 14 ≤ d) (H : ∀ c, c < 240 → ∀ c', zCtl[c]? = some c' → zVd z_tt zE1 c') (ha : ty[a]? = some 20) (r1 : 0 ≤ hr.toInt) (r2 : hr.toInt ≤ 23) (T : zTY z_tt ty h) (E : zE1 ty h) (S : zSe h a s cf) (C : zChn s cf) (V : v.toInt = -1 ∨ (0 ≤ v.toInt ∧ v.toInt < 6 ∧ zbit s v = true)) : z_ok sx d 285 0 [(0, .ref a), (1, .int hr), (2, .int v)] [] h (zPlf ty h a) := by
  refine zh zJ_285 (i := (0, 0, 0, 0)) rfl rfl (k' := 1) (lo' := [(0, .ref a), (1, .int hr), (2, .int v)]) (st' := [.int (Int32.ofInt 0)]) (h' := h) rfl ?_
  refine zh zJ_285 (i := (4, 3, 0, 0)) rfl rfl (k' := 2) (lo' := [(3, .int (Int32.ofInt 0)), (0, .ref a), (1, .int hr), (2, .int v)]) (st' := []) (h' := h) rfl ?_
  exact zLp_285 hd H ha r1 r2 7 ty h 0 _ s cf zExt.rf T E zFm.rf rfl rfl S C V
/-- the chain is followed to its end -/
noncomputable def zMch : List zMod := [(29, 0, 23)]
set_option maxRecDepth 100000 in
theorem zLp_287 {sx : zX} {d a : Nat} {ty ty0 : List Nat} {h0 : zH} {s : Int32} {cf : Nat → Int32} {rk : Int → Nat} (X : zExt ty0 ty) (ha : ty[a]? = some 20) (K : ∀ g : Int32, 0 ≤ g.toInt → g.toInt < 6 → zbit s g = true → ((cf g.toInt.toNat).toInt = -1 ∨ (0 ≤ (cf g.toInt.toNat).toInt ∧ (cf g.toInt.toNat).toInt < 6 ∧ zbit s (cf g.toInt.toNat) = true ∧ rk (cf g.toInt.toNat).toInt < rk g.toInt))) : ∀ (m : Nat) (h : zH) (lo : zL) (f : Int32), zTY z_tt ty h → zE1 ty h → zFm (zcM zC240) ty0 h0 h → zSe h a s cf → z_get lo 0 = some (.ref a) → z_get lo 2 = some (.int f) → (f.toInt = -1 ∨ (0 ≤ f.toInt ∧ f.toInt < 6 ∧ zbit s f = true ∧ rk f.toInt < m)) → z_ok sx d 287 17 lo [] h (zPo z_tt zE1 zC240 ty0 h0)
  | m, h, lo, f, T, E, F, S, g0, g2, V => by
    refine zh_ild zJ_287 (a := 2) (b := 0) (z := 0) rfl (k' := 18) rfl g2 ?_
    refine zh zJ_287 (i := (0, 0, 0, -1)) rfl rfl (k' := 19) (lo' := lo) (st' := [.int (Int32.ofInt (-1)), .int f]) (h' := h) rfl ?_
    refine zh_icmp zJ_287 (a := 36) (b := 0) (z := 0) rfl (fun hc => ?_) (fun hc => ?_)
    · refine zh zJ_287 (i := (0, 0, 0, 1)) rfl rfl (k' := 37) (lo' := lo) (st' := [.int (Int32.ofInt (1))]) (h' := h) rfl ?_
      refine zh_iret zJ_287 (a := 0) (b := 0) (z := 0) rfl (Or.inr ⟨rfl, Or.inr rfl⟩) ?_
      exact ⟨ty, X, T, E, F, ⟨_, rfl, by decide, by decide⟩, Nat.le_refl _, Nat.le_refl _⟩
    · have hne : f.toInt ≠ -1 := fun e => hc (zcmp_eq.mpr (by rw [e]; rfl))
      obtain ⟨f1, f2, fb, fr⟩ := V.resolve_left hne
      obtain ⟨fs, he, hl⟩ := zcell0 (c := 9) (n := 23) T ha rfl rfl rfl
      obtain ⟨e1, ec1, wc, k1, k2, k3, k4, k5⟩ := id S
      rw [he] at k1
      cases k1
      have k3 : fs[21]? = some (.ref wc) := k3
      have hwc : ty[wc]? = some 32 := by
        obtain ⟨w9, e9, h9⟩ := zfd2 (b := 21) (u := 32) T ha he (by omega) (by decide +kernel)
        rw [k3] at e9
        cases e9
        exact h9
      obtain ⟨wb, hb1, hb2⟩ := zfd2 (b := 20) (u := 31) T ha he (by omega) (by decide +kernel)
      obtain ⟨fby, hfb⟩ := zcell1 (n := 6) T hb2 rfl rfl
      obtain ⟨wd, hd1, hd2⟩ := zfd2 (b := 18) (u := 29) T ha he (by omega) (by decide +kernel)
      obtain ⟨fd, hfd⟩ := zcell1 (n := 24) T hd2 rfl rfl
      have fn : f.toNatClampNeg = f.toInt.toNat := rfl
      have hby := zint (zel (A := (0, 0, 23)) (lo := 0) (hi := 5) (i := f.toNatClampNeg) T hb2 hfb (by omega) (by decide +kernel) (by omega) (by omega))
      refine zh_ald zJ_287 (a := 0) (b := 0) (z := 0) rfl (k' := 21) rfl g0 ?_
      refine zh_get zJ_287 (b := 20) (c := 9) (z := 0) rfl (k' := 22) rfl he hb1 ?_
      refine zh_ild zJ_287 (a := 2) (b := 0) (z := 0) rfl (k' := 23) rfl g2 ?_
      refine zh_iald zJ_287 (z := 0) rfl (k' := 24) rfl hfb f1 (by omega) ?_
      generalize fby f.toNatClampNeg = hb at hby ⊢
      refine zh_ist zJ_287 (a := 3) (b := 0) (z := 0) rfl (k' := 25) rfl ?_
      have j0 := zget_set1_ne (a := 3) (v := .int hb) g0 (by decide) rfl
      have j2 := zget_set1_ne (a := 3) (v := .int hb) g2 (by decide) rfl
      refine zh_ald zJ_287 (a := 0) (b := 0) (z := 0) rfl (k' := 26) rfl j0 ?_
      refine zh_get zJ_287 (b := 18) (c := 9) (z := 0) rfl (k' := 27) rfl he hd1 ?_
      refine zh_ild zJ_287 (a := 3) (b := 0) (z := 0) rfl (k' := 28) rfl zget_self ?_
      refine zh_ild zJ_287 (a := 2) (b := 0) (z := 0) rfl (k' := 29) rfl j2 ?_
      have hbn : hb.toNatClampNeg = hb.toInt.toNat := rfl
      obtain ⟨T2, F2⟩ := zwr (ms := [(29, 0, 23)]) T hd2 hfd (i := hb.toNatClampNeg) (x := f) (by omega) (zst_ok (a := (0, -1, 5)) (ilo := 0) (ihi := 23) (by decide +kernel) ⟨f, rfl, by omega, by omega⟩ (by omega) (by omega)) (zcv_ok (lo := 0) (hi := 23) (by decide +kernel) (by omega) (by omega))
      have E2 := zE1_stable (ms := [(29, 0, 23)]) (by decide +kernel) ty h _ T T2 (T.len T2) F2 E
      have nda : wd ≠ a := fun e => by rw [e, ha] at hd2; cases hd2
      have ndc : wd ≠ wc := fun e => by rw [e, hwc] at hd2; cases hd2
      have S2 := S.keep T ha F2 (fun i _ _ ⟨q, hq, q1, _⟩ => by rw [List.mem_singleton.mp hq] at q1; cases q1) (fun i ⟨q, hq, q1, _⟩ => by rw [List.mem_singleton.mp hq] at q1; cases q1)
      have he2 := (zset_ne (h := h) (e := .inl (0, (24, .inl (upd fd hb.toNatClampNeg f)))) nda).trans he
      have k42 := (zset_ne (h := h) (e := .inl (0, (24, .inl (upd fd hb.toNatClampNeg f)))) ndc).trans k4
      have G2 : zFm (zcM zC240) ty0 h0 (h.set wd (.inl (0, (24, .inl (upd fd hb.toNatClampNeg f))))) := F.tr X (F2.mono (fun t i ⟨q, hq, q1⟩ => ⟨q, by rw [List.mem_singleton.mp hq]; decide +kernel, q1⟩))
      refine zh_iast zJ_287 (z := 0) rfl (k' := 30) rfl hfd (by omega) (by omega) ?_
      generalize h.set wd (.inl (0, (24, .inl (upd fd hb.toNatClampNeg f)))) = h2 at T2 F2 E2 S2 he2 k42 G2 ⊢
      obtain ⟨fc, hfc⟩ := zcell1 (n := 6) T2 hwc rfl rfl
      rw [hfc] at k42
      have k42 := Option.some.inj k42
      subst k42
      have ecf : fc f.toNatClampNeg = cf f.toInt.toNat := by
        have q := k5 f.toInt.toNat (by omega)
        rw [z_rd0, if_pos (by omega)] at q
        exact Value.int.inj (Option.some.inj q)
      refine zh_ald zJ_287 (a := 0) (b := 0) (z := 0) rfl (k' := 31) rfl j0 ?_
      refine zh_get zJ_287 (b := 21) (c := 9) (z := 0) rfl (k' := 32) rfl he2 k3 ?_
      refine zh_ild zJ_287 (a := 2) (b := 0) (z := 0) rfl (k' := 33) rfl j2 ?_
      refine zh_iald zJ_287 (z := 0) rfl (k' := 34) rfl hfc f1 (by omega) ?_
      rw [ecf]
      refine zh_ist zJ_287 (a := 2) (b := 0) (z := 0) rfl (k' := 35) rfl ?_
      refine zh zJ_287 (i := (30, 17, 0, 0)) rfl rfl (k' := 17) (lo' := z_set1 (z_set1 lo 3 (.int hb)) 2 (.int (cf f.toInt.toNat))) (st' := []) (h' := h2) rfl ?_
      cases m with
      | zero => omega
      | succ m =>
        refine zLp_287 X ha K m h2 _ _ T2 E2 G2 S2 (zget_set1_ne j0 (by decide) rfl) zget_self ?_
        rcases K f f1 f2 fb with q | ⟨q1, q2, q3, q4⟩
        · exact Or.inl q
        · exact Or.inr ⟨q1, q2, q3, by omega⟩
