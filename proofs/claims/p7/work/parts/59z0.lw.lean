/-! THE LAW: what holds at its loop's head, and its steps; printed with wip/gen/gen_law.py -/
theorem zJ_343 : zJ3 343 z_m343 z_c343 z_h343 := ⟨rfl, rfl, rfl⟩
theorem zJ_344 : zJ3 344 z_m344 z_c344 z_h344 := ⟨rfl, rfl, rfl⟩
noncomputable def zLxt (ty : List Nat) (h : zH) (ax am ao : Nat) : Prop := (ax = 0 ∧ am = 205 ∧ ao = 218) ∧ zExt zty1 ty ∧ zSkl h ∧ zByq h
theorem zLxt.keep {ms : List zMod} {ty ty' : List Nat} {h h' : zH} {ax am ao : Nat} (L : zLxt ty h ax am ao) (T : zTY z_tt ty h) (T' : zTY z_tt ty' h') (X : zExt ty ty') (F : zFm ms ty h h') (hm : (zskOK ms && zby3 ms) = true) : zLxt ty' h' ax am ao := by
  obtain ⟨c, X0, S, Y⟩ := L
  rw [Bool.and_eq_true] at hm
  have S' := S.keep T T' F X0 hm.1
  exact ⟨c, fun a t ha => X a t (X0 a t ha), S', Y.keep S S' T T' F X0 hm.2⟩
theorem zcell3 {ty : List Nat} {h : zH} {a t n : Nat} (T : zTY z_tt ty h) (ht : ty[a]? = some t) (hk : (z_tt t).1 = 3) (hn : (z_tt t).2.2.1 = n) : ∃ f : Nat → Int64, h[a]? = some (.inl (2, (n, .inr (.inl f)))) := by
  obtain ⟨e, he, hs, -⟩ := zcell T ht
  obtain ⟨f, rfl⟩ := zsh3 hs hk
  exact ⟨f, by rw [he, hn]⟩
theorem zthr {sx : zX} {d a : Nat} {h : zH} {fs : List Value} {t : Int32} (he : h[a]? = some (.inr (9, fs))) (hf : fs[0]? = some (.int t)) : z_ok sx d 344 0 (lv_args 0 [.ref a]) [] h (fun o h' x y => o = .inl (some (.int t)) ∧ h' = h ∧ x = 0 ∧ y = 0) := by
  refine zh_ald zJ_344 (a := 0) (b := 0) (z := 0) rfl (k' := 1) rfl rfl ?_
  refine zh_get zJ_344 (z := 0) rfl (k' := 2) rfl he hf ?_
  exact zh_iret zJ_344 (a := 0) (b := 0) (z := 0) rfl (Or.inl rfl) ⟨rfl, rfl, rfl, rfl⟩
theorem zlg_self (x : Int64) : z_cmp 0 (lg_cmp x x) 0 = true := by
  have e : lg_cmp x x = 0 := by
    unfold lg_cmp
    rw [if_neg (fun h => Int64.lt_irrefl h), if_pos rfl]
  rw [e]
  rfl
noncomputable def zIvw (ty : List Nat) (h : zH) (ax am ao : Nat) (N : Int) : Prop := zTY z_tt ty h ∧ zE1 ty h ∧ ty[ax]? = some 1 ∧ ty[am]? = some 20 ∧ ty[ao]? = some 33 ∧ zTp ty h ax N ∧ zMp h am N ∧ 0 ≤ N ∧ N ≤ 400 ∧ zLxt ty h ax am ao ∧ zLwt ty
noncomputable def zIw (ty : List Nat) (h : zH) (ax am ao : Nat) (N : Int) : Prop := zTY z_tt ty h ∧ zE1 ty h ∧ ty[ax]? = some 1 ∧ ty[am]? = some 20 ∧ ty[ao]? = some 33 ∧ zTp ty h ax N ∧ zMp h am N ∧ 0 ≤ N ∧ N ≤ 400 ∧ zLxt ty h ax am ao ∧ zLwt ty ∧ zHld (za h)
noncomputable def zLv (lo : zL) (ax am ao i : Nat) : Prop := z_get lo 0 = some (.ref zS) ∧ z_get lo 1 = some (.ref ax) ∧ z_get lo 2 = some (.ref am) ∧ z_get lo 3 = some (.ref ao) ∧ ∃ x : Int32, z_get lo 4 = some (.int x) ∧ x.toInt = (i : Int)
theorem zIw.v {ty : List Nat} {h : zH} {ax am ao : Nat} {N : Int} (I : zIw ty h ax am ao N) : zIvw ty h ax am ao N := ⟨I.1, I.2.1, I.2.2.1, I.2.2.2.1, I.2.2.2.2.1, I.2.2.2.2.2.1, I.2.2.2.2.2.2.1, I.2.2.2.2.2.2.2.1, I.2.2.2.2.2.2.2.2.1, I.2.2.2.2.2.2.2.2.2.1, I.2.2.2.2.2.2.2.2.2.2.1⟩
theorem zIvw.w {ty : List Nat} {h : zH} {ax am ao : Nat} {N : Int} (I : zIvw ty h ax am ao N) (H : zHld (za h)) : zIw ty h ax am ao N := ⟨I.1, I.2.1, I.2.2.1, I.2.2.2.1, I.2.2.2.2.1, I.2.2.2.2.2.1, I.2.2.2.2.2.2.1, I.2.2.2.2.2.2.2.1, I.2.2.2.2.2.2.2.2.1, I.2.2.2.2.2.2.2.2.2.1, I.2.2.2.2.2.2.2.2.2.2, H⟩
theorem zIw.lx {ty : List Nat} {h : zH} {ax am ao : Nat} {N : Int} (I : zIw ty h ax am ao N) : zLxt ty h ax am ao := I.2.2.2.2.2.2.2.2.2.1
theorem zIw.lt {ty : List Nat} {h : zH} {ax am ao : Nat} {N : Int} (I : zIw ty h ax am ao N) : zLwt ty := I.2.2.2.2.2.2.2.2.2.2.1
theorem zIw.hd {ty : List Nat} {h : zH} {ax am ao : Nat} {N : Int} (I : zIw ty h ax am ao N) : zHld (za h) := I.2.2.2.2.2.2.2.2.2.2.2
theorem zIw.b2 {ty : List Nat} {h : zH} {ax am ao : Nat} {N : Int} (I : zIw ty h ax am ao N) : N ≤ 400 := I.2.2.2.2.2.2.2.2.1
theorem zIvw.keep {ms : List zMod} {ty ty' : List Nat} {h h' : zH} {ax am ao : Nat} {N : Int} (I : zIvw ty h ax am ao N) (X : zExt ty ty') (T' : zTY z_tt ty' h') (E' : zE1 ty' h') (F : zFm ms ty h h') (n1 : ¬ zIn ms 1 0) (n2 : ¬ zIn ms 2 1) (n3 : ¬ zIn ms 20 9) (n4 : (zskOK ms && zby3 ms) = true) (hl : h'.length = h.length) : zIvw ty' h' ax am ao N := by
  obtain ⟨T, E, ha, hm, ho, P, Q, b1, b2, L, Lt⟩ := I
  exact ⟨T', E', X ax 1 ha, X am 20 hm, X ao 33 ho, P.keep ha T' X F n1 n2, Q.keep hm T' X F n3, b1, b2, L.keep T T' X F n4, Lt.keep T T' X hl⟩
theorem zIw.keep {ms : List zMod} {ty ty' : List Nat} {h h' : zH} {ax am ao : Nat} {N : Int} (I : zIw ty h ax am ao N) (X : zExt ty ty') (T' : zTY z_tt ty' h') (E' : zE1 ty' h') (F : zFm ms ty h h') (n1 : ¬ zIn ms 1 0) (n2 : ¬ zIn ms 2 1) (n3 : ¬ zIn ms 20 9) (n4 : (zskOK ms && zby3 ms) = true) (hl : h'.length = h.length) (n5 : zqOK ms = true) : zIw ty' h' ax am ao N := (I.v.keep X T' E' F n1 n2 n3 n4 hl).w (I.hd.keep I.1 T' I.lx.2.1 X I.lt F hl n5)
theorem zLv.set {lo : zL} {ax am ao i b : Nat} {v : Int32} (L : zLv lo ax am ao i) (hb : 4 < b) : zLv (z_set1 lo b (.int v)) ax am ao i := by
  obtain ⟨g0, g1, g2, g3, x, g4, ex⟩ := L
  exact ⟨zget_set1_ne g0 (by omega) rfl, zget_set1_ne g1 (by omega) rfl, zget_set1_ne g2 (by omega) rfl, zget_set1_ne g3 (by omega) rfl, x, zget_set1_ne g4 (by omega) rfl, ex⟩
section ZLW
variable {sx : zX} {d k : Nat} {lo : zL} {st rest : List Value} {h : zH} {Ψ : zO → zH → Nat → Nat → Prop} {ax am ao i : Nat}
theorem zcal72 {j' n : Nat} {c : Int} {xs : List Value} {M' : zMi} (hd : 0 < d) (hst : st = xs ++ rest) (hx : xs.length = n) (hz : z_cat rest ≤ 8) (hM : z_ms[j']? = some M') (hl : (lg_sl xs.reverse).length ≤ M'.2.2.2.1) : z_cal (72, j', n, c) d st h = some (j', xs.reverse, rest) := by
  subst hst
  have h0 : z_cal0 (72, j', n, c) d (xs ++ rest) h = some (j', xs.reverse, rest) := by
    unfold z_cal0
    have e1 : ¬ (d = 0 ∨ (xs ++ rest).length < n) := by
      rw [List.length_append]
      omega
    have e2 : (xs ++ rest).drop n = rest := by rw [← hx]; exact List.drop_left
    have e3 : (xs ++ rest).take n = xs := by rw [← hx]; exact List.take_left
    dsimp only
    rw [if_neg e1, e2, e3, if_pos hz]
    rfl
  unfold z_cal
  rw [h0]
  dsimp only
  rw [hM]
  dsimp only
  rw [if_pos hl]
/-- a number of the script -/
theorem zscr (k k1 k2 k3 k4 k5 : Nat) {m : Int} (M : Nat) (i0 : z_c343[k]? = some (2, 0, 0, 0)) (i1 : z_c343[k1]? = some (1, 4, 0, 0)) (i2 : z_c343[k2]? = some (0, 0, 0, m)) (i3 : z_c343[k3]? = some (8, 0, 0, 0)) (i4 : z_c343[k4]? = some (65, 0, 0, 0)) (e1 : k + 1 = k1) (e2 : k1 + 1 = k2) (e3 : k2 + 1 = k3) (e4 : k3 + 1 = k4) (e5 : k4 + 1 = k5) (em : m = (M : Int)) (hm : M ≤ 5) (Lv : zLv lo ax am ao i) (hi : i + 6 ≤ sx.1) (hL : sx.1 ≤ 3072) (kk : ∀ v : Int32, v = sx.2 (i + M) → z_ok sx d 343 k5 lo (.int v :: st) h Ψ) : z_ok sx d 343 k lo st h Ψ := by
  obtain ⟨g0, -, -, -, x, g4, ex⟩ := Lv
  refine zh_ald zJ_343 i0 e1 g0 ?_
  refine zh_ild zJ_343 i1 e2 g4 ?_
  refine zh zJ_343 i2 rfl (k' := k3) (lo' := lo) (st' := .int (Int32.ofInt m) :: .int x :: .ref zS :: st) (h' := h) (by rw [← e3]; rfl) ?_
  refine zh zJ_343 i3 rfl (k' := k4) (lo' := lo) (st' := .int (x + Int32.ofInt m) :: .ref zS :: st) (h' := h) (by rw [← e4]; rfl) ?_
  have ei : (x + Int32.ofInt m).toInt = ((i + M : Nat) : Int) := by
    rw [zI_add ex (zI_c (by omega) (by omega)) (by omega) (by omega)]
    omega
  refine zh zJ_343 i4 rfl (k' := k5) (lo' := lo) (st' := .int (sx.2 (i + M)) :: st) (h' := h) ?_ (kk _ rfl)
  show zo_sald sx d 0 0 0 k4 lo (.int (x + Int32.ofInt m) :: .ref zS :: st) h = _
  unfold zo_sald
  dsimp only
  rw [if_pos ⟨rfl, (z_inn (by omega) (by omega)).1⟩, znat ei, e5]
/-- a truth value -/
theorem zboo (k k1 k2 k3 k4 : Nat) {u : Int32} (i0 : z_c343[k]? = some (31, k3, 0, 0)) (i1 : z_c343[k1]? = some (0, 0, 0, 1)) (i2 : z_c343[k2]? = some (30, k4, 0, 0)) (i3 : z_c343[k3]? = some (0, 0, 0, 0)) (e1 : k + 1 = k1) (e2 : k1 + 1 = k2) (e4 : k3 + 1 = k4) (kk : ∀ v : Int32, (0 ≤ v.toInt ∧ v.toInt ≤ 1) → v = (if z_cmp 0 u 0 = true then Int32.ofInt 0 else Int32.ofInt 1) → z_ok sx d 343 k4 lo (.int v :: st) h Ψ) : z_ok sx d 343 k lo (.int u :: st) h Ψ := by
  refine zh_if zJ_343 i0 (fun q => ?_) (fun q => ?_)
  · exact zh zJ_343 i3 rfl (k' := k4) (lo' := lo) (st' := .int (Int32.ofInt 0) :: st) (h' := h) (by rw [← e4]; rfl) (kk _ (by decide) (if_pos q).symm)
  · rw [e1]
    refine zh zJ_343 i1 rfl (k' := k2) (lo' := lo) (st' := .int (Int32.ofInt 1) :: st) (h' := h) (by rw [← e2]; rfl) ?_
    exact zh zJ_343 i2 rfl (k' := k4) (lo' := lo) (st' := .int (Int32.ofInt 1) :: st) (h' := h) rfl (kk _ (by decide) (if_neg q).symm)
/-- a call whose run is known, with what it costs -/
theorem zlrun {k' j' : Nat} {as : List Value} {i : zI} {Φ : zO → zH → Nat → Nat → Prop} (hi : z_c343[k]? = some i) (hk : k + 1 = k') (hn : i.1 ≠ 50 ∧ i.1 ≠ 51 ∧ i.1 ≠ 52 ∧ i.1 ≠ 53 ∧ i.1 ≠ 62) (hc : z_cal i d st h = some (j', as, rest)) (R : z_ok sx (d - 1) j' 0 (lv_args 0 as) [] h Φ) (kk : ∀ o h' x y, Φ o h' x y → h'.length ≤ h.length + x → ∃ v, o = .inl v ∧ z_ok sx d 343 k' lo (v.toList ++ rest) h' (fun o h9 a b => Ψ o h9 (a + x) (b + y))) : z_ok sx d 343 k lo st h Ψ := by
  refine z_ok.call zJ_343.1 zJ_343.2.1 zJ_343.2.2 hi (z_fin_no hn) hc (z_ok.imp (z_ok.len R) (fun o h' x y q => ?_))
  obtain ⟨v, rfl, h9⟩ := kk o h' x y q.1 q.2
  rw [← hk] at h9
  exact h9
/-- a call by a contract that answers an int, or nothing -/
theorem zlcon {ty : List Nat} {N : Int} {k' j' : Nat} {as : List Value} {i : zI} {ct : zCt} (I : zIw ty h ax am ao N) (hi : z_c343[k]? = some i) (hk : k + 1 = k') (hn : i.1 ≠ 50 ∧ i.1 ≠ 51 ∧ i.1 ≠ 52 ∧ i.1 ≠ 53 ∧ i.1 ≠ 62) (hc : z_cal i d st h = some (j', as, rest)) (V : zVd z_tt zE1 ct) (hj : zcJ ct = j') (hd : zcD ct + 1 ≤ d) (he : zcE ct = []) (hno : (zcM ct).all (fun m => decide (m.1 ≠ 1 ∨ (0 : Int) < m.2.1) && (decide (m.1 ≠ 2 ∨ (1 : Int) < m.2.1) && decide (m.1 ≠ 20 ∨ (9 : Int) < m.2.1 ∨ m.2.2 < (9 : Int)))) = true) (hn4 : (zskOK (zcM ct) && zby3 (zcM ct)) = true) (hn5 : zqOK (zcM ct) = true) (hna : zNa j' = true) (hA : zAg ty (zcA ct) as) (kk : ∀ ty' h' v x y, zIw ty' h' ax am ao N → zRt ty' (zcR ct) v → x ≤ (zcK ct).1 → y ≤ (zcK ct).2.1 → h'.length ≤ h.length + x → z_ok sx d 343 k' lo (v.toList ++ rest) h' (fun o h9 a b => Ψ o h9 (a + x) (b + y))) : z_ok sx d 343 k lo st h Ψ := by
  subst hj
  refine zlrun hi hk hn hc (z_ok.lenq hna (V sx (d - 1) ty h as (by omega) I.1 I.2.1 hA)) (fun o h' x y q hl => ?_)
  obtain ⟨⟨ty', q1, q2, q3, q4, q5⟩, hq⟩ := q
  have key := List.all_eq_true.mp hno
  have nin : ∀ t i : Nat, (t = 1 ∧ i = 0) ∨ (t = 2 ∧ i = 1) ∨ (t = 20 ∧ i = 9) → ¬ zIn (zcM ct) t i := by
    rintro t i ht ⟨m, hm, m1, m2, m3⟩
    have := key m hm
    simp only [Bool.and_eq_true, decide_eq_true_eq] at this
    omega
  cases o with
  | inl v =>
    obtain ⟨q5, q6, q7⟩ := q5
    exact ⟨v, rfl, kk ty' h' v x y (I.keep q1 q2 q3 q4 (nin 1 0 (Or.inl ⟨rfl, rfl⟩)) (nin 2 1 (Or.inr (Or.inl ⟨rfl, rfl⟩))) (nin 20 9 (Or.inr (Or.inr ⟨rfl, rfl⟩))) hn4 hq hn5) q5 q6 q7 hl⟩
  | inr e =>
    rw [he] at q5
    exact absurd q5.1 List.not_mem_nil
theorem zlcq {ty : List Nat} {N : Int} {k' j' : Nat} {as : List Value} {i : zI} {ct : zCt} {P : zPp} (I : zIvw ty h ax am ao N) (hi : z_c343[k]? = some i) (hk : k + 1 = k') (hn : i.1 ≠ 50 ∧ i.1 ≠ 51 ∧ i.1 ≠ 52 ∧ i.1 ≠ 53 ∧ i.1 ≠ 62) (hc : z_cal i d st h = some (j', as, rest)) (V : zVd z_tt zE1 ct) (hj : zcJ ct = j') (hd : zcD ct + 1 ≤ d) (he : zcE ct = []) (hno : (zcM ct).all (fun m => decide (m.1 ≠ 1 ∨ (0 : Int) < m.2.1) && (decide (m.1 ≠ 2 ∨ (1 : Int) < m.2.1) && decide (m.1 ≠ 20 ∨ (9 : Int) < m.2.1 ∨ m.2.2 < (9 : Int)))) = true) (hn4 : (zskOK (zcM ct) && zby3 (zcM ct)) = true) (hna : zNa j' = true) (hA : zAg ty (zcA ct) as) (S : zEe sx j' as.length P) (hq1 : q_c1 as = true) (kk : ∀ ty' h' v x y, zIvw ty' h' ax am ao N → zRt ty' (zcR ct) v → P as (za h) (.inl v) (za h') → x ≤ (zcK ct).1 → y ≤ (zcK ct).2.1 → h'.length ≤ h.length + x → z_ok sx d 343 k' lo (v.toList ++ rest) h' (fun o h9 a b => Ψ o h9 (a + x) (b + y))) : z_ok sx d 343 k lo st h Ψ := by
  subst hj
  refine zlrun hi hk hn hc (z_ok.lenq hna (S.ok (zTY_kh I.1) rfl hq1 (V sx (d - 1) ty h as (by omega) I.1 I.2.1 hA))) (fun o h' x y q hl => ?_)
  obtain ⟨⟨⟨ty', q1, q2, q3, q4, q5⟩, -, g⟩, hq⟩ := q
  have key := List.all_eq_true.mp hno
  have nin : ∀ t i : Nat, (t = 1 ∧ i = 0) ∨ (t = 2 ∧ i = 1) ∨ (t = 20 ∧ i = 9) → ¬ zIn (zcM ct) t i := by
    rintro t i ht ⟨m, hm, m1, m2, m3⟩
    have := key m hm
    simp only [Bool.and_eq_true, decide_eq_true_eq] at this
    omega
  cases o with
  | inl v =>
    obtain ⟨q5, q6, q7⟩ := q5
    exact ⟨v, rfl, kk ty' h' v x y (I.keep q1 q2 q3 q4 (nin 1 0 (Or.inl ⟨rfl, rfl⟩)) (nin 2 1 (Or.inr (Or.inl ⟨rfl, rfl⟩))) (nin 20 9 (Or.inr (Or.inr ⟨rfl, rfl⟩))) hn4 hq) q5 g q6 q7 hl⟩
  | inr e =>
    rw [he] at q5
    exact absurd q5.1 List.not_mem_nil
noncomputable def zKc (sx : zX) (d ax am ao i : Nat) (h : zH) (Ψ : zO → zH → Nat → Nat → Prop) : Prop := ∀ (ty' : List Nat) (lo' : zL) (h' : zH) (N' : Int) (x y : Nat), zIw ty' h' ax am ao N' → zLv lo' ax am ao i → x ≤ 7 → y ≤ 1000 → h'.length ≤ h.length + x → z_ok sx d 343 936 lo' [] h' (fun o h9 a b => Ψ o h9 (a + x) (b + y))
theorem zKc.use {ty' : List Nat} {lo' : zL} {h' : zH} {N' : Int} {x1 y1 x2 y2 : Nat} (K : zKc sx d ax am ao i h Ψ) (I : zIw ty' h' ax am ao N') (Lv : zLv lo' ax am ao i) (hx : x2 + x1 ≤ 7) (hy : y2 + y1 ≤ 1000) (hl : h'.length ≤ h.length + (x2 + x1)) : z_ok sx d 343 936 lo' [] h' (fun o h9 a b => (fun o h9 a b => Ψ o h9 (a + x1) (b + y1)) o h9 (a + x2) (b + y2)) :=
  z_ok.imp (K ty' lo' h' N' (x2 + x1) (y2 + y1) I Lv hx hy hl) (fun o h9 a b q => by
    show Ψ o h9 (a + x2 + x1) (b + y2 + y1)
    rw [Nat.add_assoc, Nat.add_assoc]
    exact q)
theorem zgoto {k' : Nat} (hi : z_c343[k]? = some (30, k', 0, 0)) (kk : z_ok sx d 343 k' lo st h Ψ) : z_ok sx d 343 k lo st h Ψ := zh zJ_343 hi rfl (k' := k') (lo' := lo) (st' := st) (h' := h) rfl kk
theorem zpop {k' : Nat} {v : Int32} (hi : z_c343[k]? = some (29, 0, 0, 0)) (hk : k + 1 = k') (kk : z_ok sx d 343 k' lo st h Ψ) : z_ok sx d 343 k lo (.int v :: st) h Ψ := zh zJ_343 hi rfl (k' := k') (lo' := lo) (st' := st) (h' := h) (by rw [← hk]; rfl) kk
end ZLW
