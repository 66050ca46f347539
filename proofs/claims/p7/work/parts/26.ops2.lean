/-! lengths, texts, min and max, whole copies -/
noncomputable def zq_alen : zQop := fun tt _ _ _ _ _ q => match q.2.2.2 with
  | r :: stk => if (zav q.1 r).1 = 2 ∧ (zav q.1 r).2.1 = (zav q.1 r).2.2 ∧ 0 ≤ (zav q.1 r).2.1 ∧ 1 ≤ (tt (zav q.1 r).2.1.toNat).1 ∧ (tt (zav q.1 r).2.1.toNat).1 ≤ 4 ∧ ((tt (zav q.1 r).2.1.toNat).2.2.1 : Int) ≤ zMx
      then some (zPu q stk ((0, ((tt (zav q.1 r).2.1.toNat).2.2.1 : Int), ((tt (zav q.1 r).2.1.toNat).2.2.1 : Int)), 0, 0)) else none
  | _ => none
theorem zof_nat {n : Nat} (h : (n : Int) ≤ zMx) : (Int32.ofNat n).toInt = (n : Int) := Int32.toInt_ofNat_of_lt (by have e2 : zMx = 2147483647 := rfl; omega)
theorem zSd_alen : zSd zo_alen zq_alen := by
  intro tt sx dq d ms a b c k ty ρ q q' lo st h hd T E Mm L S hq
  unfold zq_alen at hq
  split at hq
  case h_2 => cases hq
  next r stk hs =>
  rw [hs] at S
  match st, S with
  | vr :: st, S =>
  split at hq
  case isFalse => cases hq
  next hc =>
  cases hq
  obtain ⟨c1, c2, c3, c4, c5, c6⟩ := hc
  obtain ⟨ad, t, rfl, ht, t1, t2⟩ := zG2 (E.at S.1) c1
  have et : (zav q.1 r).2.1.toNat = t := by omega
  rw [et] at c4 c5 c6 ⊢
  have hl : ad < h.length := by rw [← T.1]; exact (List.getElem?_eq_some_iff.mp ht).1
  have he : h[ad]? = some h[ad] := List.getElem?_eq_getElem hl
  have sh := (T.2.2 ad t _ ht he).1
  have hn := zof_nat c6
  obtain ⟨r1, r2, r3, r4, r5⟩ := zPu0 (v := .int (Int32.ofNat (tt t).2.2.1)) (q := q) (stk := stk) E Mm L S.2 (a := (0, ((tt t).2.2.1 : Int), ((tt t).2.2.1 : Int))) ⟨_, rfl, by rw [hn]; exact Int.le_refl _, by rw [hn]; exact Int.le_refl _⟩
  refine ⟨_, lo, _, h, ?_, r1, T, r2, r3, r4, r5, zFm.rf⟩
  have hk : (tt t).1 = 1 ∨ (tt t).1 = 2 ∨ (tt t).1 = 3 ∨ (tt t).1 = 4 := by omega
  unfold zo_alen
  dsimp only
  rw [he]
  rcases hk with k0 | k0 | k0 | k0
  · obtain ⟨f, e9⟩ := zsh1 sh k0; rw [e9]; rfl
  · obtain ⟨f, e9⟩ := zsh2 sh k0; rw [e9]; rfl
  · obtain ⟨f, e9⟩ := zsh3 sh k0; rw [e9]; rfl
  · obtain ⟨f, e9⟩ := zsh4 sh k0; rw [e9]; rfl
theorem zadd_sub (b k : Nat) : b ≤ b + k ∧ b + k - b = k := ⟨Nat.le_add_right _ _, Nat.add_sub_cancel_left _ _⟩
theorem zG5i {ty : List Nat} {a : zA} {v : Value} (g : zG ty a v) (h : a.1 = 5) : ∃ i : Nat, v = .ref i ∧ zB ≤ i ∧ i - zB = a.2.1.toNat := ⟨_, zG5 g h, (zadd_sub zB _).1, (zadd_sub zB _).2⟩
theorem zo_slength_at {sx : zX} {d a b : Nat} {c : Int} {k : Nat} {lo : zL} {st st0 : List Value} {h : zH} {i : Nat} {w : String × Nat × String × List Int32} (hc : zB ≤ i ∧ 6 ≤ d ∧ z_cat st ≤ 8) (hw : z_strs[i - zB]? = some w) (e : st0 = .ref i :: st) : zo_slength sx d a b c k lo st0 h = zn (k + 1) lo (.int (Int32.ofNat w.2.2.2.length) :: st) h := by
  unfold zo_slength
  split
  · next i9 st9 =>
    cases e
    rw [if_pos hc]
    split
    · next q hq => rw [hw] at hq; cases hq; rfl
    · next hq => rw [hw] at hq; cases hq
  · next hne => exact absurd e (hne i st)
theorem zo_scharAt_at {sx : zX} {d a b : Nat} {c : Int} {k : Nat} {lo : zL} {st st0 : List Value} {h : zH} {i : Nat} {j : Int32} {w : String × Nat × String × List Int32} (hc : zB ≤ i ∧ 6 ≤ d ∧ z_cat st ≤ 8) (hw : z_strs[i - zB]? = some w) (hj : z_in j w.2.2.2.length = true) (e : st0 = .int j :: .ref i :: st) : zo_scharAt sx d a b c k lo st0 h = zn (k + 1) lo (.int ((w.2.2.2.getD j.toNatClampNeg 0) &&& 255) :: st) h := by
  unfold zo_scharAt
  split
  · next j9 i9 st9 =>
    cases e
    rw [if_pos hc]
    split
    · next q hq => rw [hw] at hq; cases hq; exact if_pos hj
    · next hq => rw [hw] at hq; cases hq
  · next hne => exact absurd e (hne j i st)
noncomputable def zq_slength : zQop := fun _ dq _ _ _ _ q => match q.2.2.2 with
  | r :: stk => if (zav q.1 r).1 = 5 ∧ 6 ≤ dq ∧ zct q.1 stk ≤ 8 then (match z_strs[(zav q.1 r).2.1.toNat]? with
      | some w => if (w.2.2.2.length : Int) ≤ zMx then some (zPu q stk ((0, (w.2.2.2.length : Int), (w.2.2.2.length : Int)), 0, 0)) else none
      | none => none) else none
  | _ => none
theorem zSd_slength : zSd zo_slength zq_slength := by
  intro tt sx dq d ms a b c k ty ρ q q' lo st h hd T E Mm L S hq
  unfold zq_slength at hq
  split at hq
  case h_2 => cases hq
  next r stk hs =>
  rw [hs] at S
  match st, S with
  | vr :: st, S =>
  split at hq
  case isFalse => cases hq
  next hc =>
  split at hq
  case h_2 => cases hq
  next w hw =>
  split at hq
  case isFalse => cases hq
  next hl =>
  cases hq
  obtain ⟨i, rfl, b1, b2⟩ := zG5i (E.at S.1) hc.1
  have hn := zof_nat hl
  obtain ⟨r1, r2, r3, r4, r5⟩ := zPu0 (v := .int (Int32.ofNat w.2.2.2.length)) (q := q) (stk := stk) E Mm L S.2 (a := (0, (w.2.2.2.length : Int), (w.2.2.2.length : Int))) ⟨_, rfl, by rw [hn]; exact Int.le_refl _, by rw [hn]; exact Int.le_refl _⟩
  refine ⟨_, lo, _, h, ?_, r1, T, r2, r3, r4, r5, zFm.rf⟩
  rw [← b2] at hw
  exact zo_slength_at ⟨b1, Nat.le_trans hc.2.1 hd, by rw [zct_ok E S.2]; exact hc.2.2⟩ hw rfl
noncomputable def zq_scharAt : zQop := fun _ dq _ _ _ _ q => match q.2.2.2 with
  | j :: r :: stk => if (zav q.1 r).1 = 5 ∧ 6 ≤ dq ∧ zct q.1 stk ≤ 8 ∧ (zav q.1 j).1 = 0 ∧ 0 ≤ (zav q.1 j).2.1 then (match z_strs[(zav q.1 r).2.1.toNat]? with
      | some w => if (zav q.1 j).2.2 < (w.2.2.2.length : Int) then some (zPu q stk (zFull, 0, 0)) else none
      | none => none) else none
  | _ => none
theorem zSd_scharAt : zSd zo_scharAt zq_scharAt := by
  intro tt sx dq d ms a b c k ty ρ q q' lo st h hd T E Mm L S hq
  unfold zq_scharAt at hq
  split at hq
  case h_2 => cases hq
  next ij r stk hs =>
  rw [hs] at S
  match st, S with
  | vj :: vr :: st, S =>
  split at hq
  case isFalse => cases hq
  next hc =>
  split at hq
  case h_2 => cases hq
  next w hw =>
  split at hq
  case isFalse => cases hq
  next hl =>
  cases hq
  obtain ⟨i, rfl, b1, b2⟩ := zG5i (E.at S.2.1) hc.1
  obtain ⟨j, rfl, j1, j2⟩ := zG0 (E.at S.1) hc.2.2.2.1
  have zi := (z_inn (i := j) (n := w.2.2.2.length) (by omega) (by omega)).1
  obtain ⟨r1, r2, r3, r4, r5⟩ := zPu0 (v := .int ((w.2.2.2.getD j.toNatClampNeg 0) &&& 255)) (q := q) (stk := stk) E Mm L S.2.2 (a := zFull) (zFull_ok _)
  refine ⟨_, lo, _, h, ?_, r1, T, r2, r3, r4, r5, zFm.rf⟩
  rw [← b2] at hw
  exact zo_scharAt_at ⟨b1, Nat.le_trans hc.2.1 hd, by rw [zct_ok E S.2.2]; exact hc.2.2.1⟩ hw zi rfl
noncomputable def zq_mm (f : Int → Int → Int) : zQop := fun _ dq _ _ _ _ q => match q.2.2.2 with
  | y :: x :: stk => if (zav q.1 x).1 = 0 ∧ (zav q.1 y).1 = 0 ∧ 6 ≤ dq ∧ zct q.1 stk ≤ 8 then some (zPu q stk ((0, f (zav q.1 x).2.1 (zav q.1 y).2.1, f (zav q.1 x).2.2 (zav q.1 y).2.2), 0, 0)) else none
  | _ => none
theorem zSd_mm {op : zNop} {f : Int → Int → Int} {g : Int32 → Int32 → Int32} (hg : ∀ (x y : Int32) (a b c d : Int), a ≤ x.toInt → x.toInt ≤ b → c ≤ y.toInt → y.toInt ≤ d → f a c ≤ (g x y).toInt ∧ (g x y).toInt ≤ f b d) (hop : ∀ (sx : zX) (d a b : Nat) (c : Int) (k : Nat) (lo : zL) (x y : Int32) (st : List Value) (h : zH), 6 ≤ d → z_cat st ≤ 8 → op sx d a b c k lo (.int y :: .int x :: st) h = zn (k + 1) lo (.int (g x y) :: st) h) : zSd op (zq_mm f) := by
  intro tt sx dq d ms a b c k ty ρ q q' lo st h hd T E Mm L S hq
  unfold zq_mm at hq
  split at hq
  case h_2 => cases hq
  next iy ix stk hs =>
  rw [hs] at S
  match st, S with
  | vy :: vx :: st, S =>
  split at hq
  case isFalse => cases hq
  next hc =>
  cases hq
  obtain ⟨x, rfl, x1, x2⟩ := zG0 (E.at S.2.1) hc.1
  obtain ⟨y, rfl, y1, y2⟩ := zG0 (E.at S.1) hc.2.1
  obtain ⟨g1, g2⟩ := hg x y _ _ _ _ x1 x2 y1 y2
  obtain ⟨r1, r2, r3, r4, r5⟩ := zPu0 (v := .int (g x y)) (q := q) (stk := stk) E Mm L S.2.2 (a := (0, f (zav q.1 ix).2.1 (zav q.1 iy).2.1, f (zav q.1 ix).2.2 (zav q.1 iy).2.2)) ⟨_, rfl, g1, g2⟩
  exact ⟨_, lo, _, h, hop sx d a b c k lo x y st h (by omega) (by rw [zct_ok E S.2.2]; exact hc.2.2.2), r1, T, r2, r3, r4, r5, zFm.rf⟩
theorem zSd_min : zSd zo_min (zq_mm min) := zSd_mm (g := fun x y => if y < x then y else x) (fun x y a b c d h1 h2 h3 h4 => by
  by_cases h : y < x
  · rw [if_pos h]
    rw [Int32.lt_iff_toInt_lt] at h
    omega
  · rw [if_neg h]
    rw [Int32.lt_iff_toInt_lt] at h
    omega) (fun sx d a b c k lo x y st h hd hc => by unfold zo_min; exact if_pos ⟨hd, hc⟩)
theorem zSd_max : zSd zo_max (zq_mm max) := zSd_mm (g := fun x y => if x < y then y else x) (fun x y a b c d h1 h2 h3 h4 => by
  by_cases h : x < y
  · rw [if_pos h]
    rw [Int32.lt_iff_toInt_lt] at h
    omega
  · rw [if_neg h]
    rw [Int32.lt_iff_toInt_lt] at h
    omega) (fun sx d a b c k lo x y st h hd hc => by unfold zo_max; exact if_pos ⟨hd, hc⟩)
/-- a row copied into a row: both of one region -/
noncomputable def zq_acopy : zQop := fun tt dq ms _ _ _ q => match q.2.2.2 with
  | n :: dp :: r1 :: sp :: r0 :: stk =>
    if (zav q.1 r1).1 = 2 ∧ (zav q.1 r1).2.1 = (zav q.1 r1).2.2 ∧ 0 ≤ (zav q.1 r1).2.1 ∧ (zav q.1 r0).1 = 2 ∧ (zav q.1 r0).2.1 = (zav q.1 r0).2.2 ∧ 0 ≤ (zav q.1 r0).2.1 ∧ (zav q.1 n).1 = 0 ∧ (zav q.1 dp).1 = 0 ∧ (zav q.1 sp).1 = 0 ∧ 0 ≤ (zav q.1 n).2.1 ∧ 0 ≤ (zav q.1 dp).2.1 ∧ 0 ≤ (zav q.1 sp).2.1 ∧ (tt (zav q.1 r0).2.1.toNat).1 = 1 ∧ (tt (zav q.1 r1).2.1.toNat).1 = 1 ∧
      (zav q.1 sp).2.2 + (zav q.1 n).2.2 ≤ ((tt (zav q.1 r0).2.1.toNat).2.2.1 : Int) ∧ (zav q.1 dp).2.2 + (zav q.1 n).2.2 ≤ ((tt (zav q.1 r1).2.1.toNat).2.2.1 : Int) ∧ 6 ≤ dq ∧ zct q.1 stk ≤ 8 ∧ zcv ms (zav q.1 r1).2.1.toNat 0 (((tt (zav q.1 r1).2.1.toNat).2.2.1 : Int) - 1) = true
    then (match (tt (zav q.1 r0).2.1.toNat).2.2.2 with
      | [ra] => if ra.1 ≤ 0 ∧ ((tt (zav q.1 r0).2.1.toNat).2.2.1 : Int) ≤ ra.2.1 + 1 ∧ (tt (zav q.1 r1).2.1.toNat).2.2.2.all (fun rb => zLe ra.2.2 rb.2.2) = true then some (q.1, q.2.1.filter (zkp q.1 (zav q.1 r1).2.1 (zav q.1 r1).2.1 0 ((tt (zav q.1 r1).2.1.toNat).2.2.1 : Int)), q.2.2.1, stk) else none
      | _ => none) else none
  | _ => none
theorem zclamp {x : Int32} (h : 0 ≤ x.toInt) : (x.toNatClampNeg : Int) = x.toInt ∧ ¬ x < 0 := by
  have e : x.toNatClampNeg = x.toInt.toNat := rfl
  refine ⟨by omega, ?_⟩
  rw [Int32.lt_iff_toInt_lt]
  show ¬ x.toInt < (0 : Int32).toInt
  rw [show (0 : Int32).toInt = 0 from rfl]
  omega
theorem zSd_acopy : zSd zo_acopy zq_acopy := by
  intro tt sx dq d ms a b c k ty ρ q q' lo st h hd T E Mm L S hq
  unfold zq_acopy at hq
  split at hq
  case h_2 => cases hq
  next xn xdp x1 xsp x0 stk hs =>
  rw [hs] at S
  match st, S with
  | vn :: vdp :: v1 :: vsp :: v0 :: st, S =>
  obtain ⟨s1, s2, s3, s4, s5, s6⟩ := S
  split at hq
  case isFalse => cases hq
  next hc =>
  obtain ⟨c1, c2, c3, c4, c5, c6, c7, c8, c9, c10, c11, c12, c13, c14, c15, c16, c17, c18, c19⟩ := hc
  split at hq
  case h_2 => cases hq
  next ra hra =>
  split at hq
  case isFalse => cases hq
  next hcc =>
  cases hq
  obtain ⟨a1, t1, rfl, ht1, t11, t12⟩ := zG2 (E.at s3) c1
  obtain ⟨a0, t0, rfl, ht0, t01, t02⟩ := zG2 (E.at s5) c4
  obtain ⟨n, rfl, n1, n2⟩ := zG0 (E.at s1) c7
  obtain ⟨dp, rfl, dp1, dp2⟩ := zG0 (E.at s2) c8
  obtain ⟨sp, rfl, sp1, sp2⟩ := zG0 (E.at s4) c9
  have e1 : (zav q.1 x1).2.1.toNat = t1 := by omega
  have e0 : (zav q.1 x0).2.1.toNat = t0 := by omega
  rw [e0] at c13 c15 hra hcc
  rw [e1] at c14 c16 c19 hcc
  have hl1 : a1 < h.length := by rw [← T.1]; exact (List.getElem?_eq_some_iff.mp ht1).1
  have hl0 : a0 < h.length := by rw [← T.1]; exact (List.getElem?_eq_some_iff.mp ht0).1
  have he1 : h[a1]? = some h[a1] := List.getElem?_eq_getElem hl1
  have he0 : h[a0]? = some h[a0] := List.getElem?_eq_getElem hl0
  obtain ⟨g, hg⟩ := zsh1 (T.2.2 a1 t1 _ ht1 he1).1 c14
  obtain ⟨f, hf⟩ := zsh1 (T.2.2 a0 t0 _ ht0 he0).1 c13
  have hval := (T.2.2 a0 t0 _ ht0 he0).2
  have hval1 := (T.2.2 a1 t1 _ ht1 he1).2
  rw [hg] at he1 hval1
  rw [hf] at he0 hval
  obtain ⟨kn, kn2⟩ := zclamp (x := n) (by omega)
  obtain ⟨kd, kd2⟩ := zclamp (x := dp) (by omega)
  obtain ⟨ks, ks2⟩ := zclamp (x := sp) (by omega)
  refine ⟨ρ, lo, st, h.set a1 (.inl (0, ((tt t1).2.2.1, .inl (va_cpy f g sp.toNatClampNeg dp.toNatClampNeg n.toNatClampNeg)))), ?_, zRx.rf, ?_, E, ?_, L, s6, ?_⟩
  · unfold zo_acopy
    dsimp only
    rw [he0, he1]
    exact if_pos ⟨by omega, by rw [zct_ok E s6]; exact c18, ks2, kd2, kn2, by omega, by omega⟩
  · refine ⟨by rw [List.length_set]; exact T.1, by rw [List.length_set]; exact T.2.1, fun b s e hs1 he => ?_⟩
    by_cases hb : b = a1
    · subst hb
      rw [List.getElem?_set_self hl1] at he
      cases he
      rw [ht1] at hs1
      cases hs1
      refine ⟨by unfold z_sh; rw [c14]; exact rfl, fun i v hv r hr g1 g2 => ?_⟩
      rw [z_rd0] at hv
      split at hv
      case isFalse => cases hv
      next hi =>
      cases hv
      unfold va_cpy
      by_cases hcp : dp.toNatClampNeg ≤ i ∧ i < dp.toNatClampNeg + n.toNatClampNeg
      · rw [if_pos hcp]
        have hz := hval (sp.toNatClampNeg + (i - dp.toNatClampNeg)) (.int (f (sp.toNatClampNeg + (i - dp.toNatClampNeg)))) (by rw [z_rd0, if_pos (by omega)]) ra (by rw [hra]; exact List.mem_singleton.mpr rfl) (by omega) (by omega)
        exact zLe_ok (List.all_eq_true.mp hcc.2.2 r hr) hz
      · rw [if_neg hcp]
        exact hval1 i (.int (g i)) (by rw [z_rd0, if_pos hi]) r hr g1 g2
    · rw [List.getElem?_set_ne (fun z => hb z.symm)] at he
      exact T.2.2 b s e hs1 he
  · intro m hm
    obtain ⟨hm1, hm2⟩ := List.mem_filter.mp hm
    obtain ⟨a9, e9, i9, v9, k1, k2, k3, k4, k5⟩ := Mm m hm1
    rcases zkp_ok E hm2 k1 k3 with z9 | z9
    · have ha : a9 ≠ a1 := fun z => by subst z; exact z9 t1 ht1 ⟨t11, by omega⟩
      exact ⟨a9, e9, i9, v9, k1, by rw [List.getElem?_set_ne (fun z => ha z.symm)]; exact k2, k3, k4, k5⟩
    · by_cases ha : a9 = a1
      · subst ha
        rw [he1] at k2
        cases k2
        rw [z_rd0] at k4
        split at k4
        · exact absurd ⟨by omega, by rw [e1]; omega⟩ z9
        · cases k4
      · exact ⟨a9, e9, i9, v9, k1, by rw [List.getElem?_set_ne (fun z => ha z.symm)]; exact k2, k3, k4, k5⟩
  · refine ⟨by rw [List.length_set]; exact Nat.le_refl _, fun b s e e' hs1 he he' i hi => ?_⟩
    by_cases hb : b = a1
    · subst hb
      rw [List.getElem?_set_self hl1] at he'
      cases he'
      rw [he1] at he
      cases he
      rw [ht1] at hs1
      cases hs1
      rw [z_rd0, z_rd0]
      by_cases hin : i < (tt t1).2.2.1
      · exact absurd (zcv_ok c19 (by omega) (by omega)) hi
      · rw [if_neg hin, if_neg hin]
    · rw [List.getElem?_set_ne (fun z => hb z.symm), he] at he'
      cases he'
      rfl
/-! all of them by their numbers -/
noncomputable def zqs : List zQop := [zq_const, zq_load zisI, zq_load zisR, zq_load zisJ, zq_sto1 zisI, zq_sto1 zisR, zq_lstore, zq_iinc, zq_bin 8, zq_bin 9, zq_bin 10, zq_bin 11, zq_bin 12, zq_bin 13, zq_bin 14, zq_bin 15, zq_bin 16, zq_bin 17, zq_bin 18, zq_un zf_i2l, zq_un zf_l2i, zq_un zf_i2b, zq_bi zf_ladd, zq_bi zf_lmul, zq_bi zf_ldiv, zq_lconst, zq_bi zf_lcmp, zq_dup, zq_dup2, zq_pop, zq_no, zq_no, zq_no, zq_no, zq_no, zq_no, zq_no, zq_get, zq_put, zq_ald 1, zq_ast 1 zisI id, zq_ald 2, zq_ast 2 zisI (fun _ => zFull), zq_ast 3 zisJ id, zq_ald 4, zq_no, zq_alen, zq_no, zq_no, zq_no, zq_no, zq_no, zq_no, zq_no, zq_no, zq_no, zq_no, zq_no, zq_ldcs, zq_slength, zq_scharAt, zq_acopy, zq_no, zq_null, zq_no, zq_no, zq_no, zq_mm min, zq_mm max]
theorem zSd_all : ∀ o, zSd (z_ops.getD o z_no) (zqs.getD o zq_no)
  | 0 => zSd_const | 1 => zSd_iload | 2 => zSd_aload | 3 => zSd_lload | 4 => zSd_istore | 5 => zSd_astore | 6 => zSd_lstore | 7 => zSd_iinc
  | 8 => zSd_iadd | 9 => zSd_isub | 10 => zSd_imul | 11 => zSd_idiv | 12 => zSd_irem | 13 => zSd_ishl | 14 => zSd_ishr | 15 => zSd_iushr
  | 16 => zSd_iand | 17 => zSd_ior | 18 => zSd_ixor | 19 => zSd_i2l | 20 => zSd_l2i | 21 => zSd_i2b | 22 => zSd_ladd | 23 => zSd_lmul
  | 24 => zSd_ldiv | 25 => zSd_lconst | 26 => zSd_lcmp | 27 => zSd_dup | 28 => zSd_dup2 | 29 => zSd_pop | 30 => zSd_no _ | 31 => zSd_no _
  | 32 => zSd_no _ | 33 => zSd_no _ | 34 => zSd_no _ | 35 => zSd_no _ | 36 => zSd_no _ | 37 => zSd_get | 38 => zSd_put | 39 => zSd_iald
  | 40 => zSd_iast | 41 => zSd_bald | 42 => zSd_bast | 43 => zSd_last | 44 => zSd_aald | 45 => zSd_no _ | 46 => zSd_alen | 47 => zSd_no _
  | 48 => zSd_no _ | 49 => zSd_no _ | 50 => zSd_no _ | 51 => zSd_no _ | 52 => zSd_no _ | 53 => zSd_no _ | 54 => zSd_no _ | 55 => zSd_no _
  | 56 => zSd_no _ | 57 => zSd_no _ | 58 => zSd_ldcs | 59 => zSd_slength | 60 => zSd_scharAt | 61 => zSd_acopy | 62 => zSd_no _ | 63 => zSd_null
  | 64 => zSd_no _ | 65 => zSd_no _ | 66 => zSd_no _ | 67 => zSd_min | 68 => zSd_max
  | n + 69 => zSd_no _
