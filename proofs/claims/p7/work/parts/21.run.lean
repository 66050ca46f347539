/-! THE RUN AS A JUDGEMENT: from here it ends, with Ψ -/
noncomputable def z_ok (sx : zX) (d j k : Nat) (lo : zL) (st : List Value) (h : zH) (Ψ : zO → zH → Nat → Nat → Prop) : Prop := ∃ n o h' x y, z_run sx n d j k lo st h = some (o, h', x, y) ∧ Ψ o h' x y
theorem z_ok.imp {sx : zX} {d j k : Nat} {lo : zL} {st : List Value} {h : zH} {Ψ Ψ' : zO → zH → Nat → Nat → Prop} (H : z_ok sx d j k lo st h Ψ) (hi : ∀ o h' x y, Ψ o h' x y → Ψ' o h' x y) : z_ok sx d j k lo st h Ψ' := by
  obtain ⟨n, o, h', x, y, e, q⟩ := H
  exact ⟨n, o, h', x, y, e, hi o h' x y q⟩
theorem z_run1 (sx : zX) : ∀ (n d j k : Nat) (lo : zL) (st : List Value) (h : zH) (r : zRes), z_run sx n d j k lo st h = some r → z_run sx (n + 1) d j k lo st h = some r := by
  intro n
  induction n with
  | zero => intro d j k lo st h r hr; rw [z_run] at hr; cases hr
  | succ n ih =>
    intro d j k lo st h r hr
    rw [z_run] at hr
    rw [z_run]
    cases hM : z_ms[j]? with
    | none => rw [hM] at hr; cases hr
    | some M =>
    cases hC : z_cs[j]? with
    | none => rw [hM, hC] at hr; cases hr
    | some cs =>
    cases hH : z_hs[j]? with
    | none => rw [hM, hC, hH] at hr; cases hr
    | some hs =>
    rw [hM, hC, hH] at hr
    dsimp only at hr ⊢
    cases hk : cs[k]? with
    | none => rw [hk] at hr; cases hr
    | some i =>
    rw [hk] at hr
    dsimp only at hr ⊢
    cases hf : z_fin M i d st with
    | some w => rw [hf] at hr; exact hr
    | none =>
    rw [hf] at hr
    dsimp only at hr ⊢
    cases hc : z_cal i d st h with
    | some w =>
      obtain ⟨j', as, rest⟩ := w
      rw [hc] at hr
      dsimp only at hr ⊢
      cases hin : z_run sx n (d - 1) j' 0 (lv_args 0 as) [] h with
      | none => rw [hin] at hr; cases hr
      | some w =>
      obtain ⟨oi, h1, x1, y1⟩ := w
      rw [hin] at hr
      rw [ih _ _ _ _ _ _ _ hin]
      cases oi with
      | inl v =>
        dsimp only at hr ⊢
        obtain ⟨r1, r2, r3, r4⟩ := r
        obtain ⟨a, b, e1, e2, e3⟩ := z_mapadd hr
        rw [ih _ _ _ _ _ _ _ e1, e2, e3]
        rfl
      | inr E =>
        dsimp only at hr ⊢
        by_cases hi : i.1 = 54
        case neg => rw [if_neg hi] at hr; cases hr
        rw [if_pos hi] at hr ⊢
        cases hfd : hs.find? (fun q => q.2.2.2.2.1 == E) with
        | some q =>
          rw [hfd] at hr
          dsimp only at hr ⊢
          obtain ⟨r1, r2, r3, r4⟩ := r
          obtain ⟨a, b, e1, e2, e3⟩ := z_mapadd hr
          rw [ih _ _ _ _ _ _ _ e1, e2, e3]
          rfl
        | none => rw [hfd] at hr; exact hr
    | none =>
    rw [hc] at hr
    dsimp only at hr ⊢
    cases ho : (z_ops.getD i.1 z_no) sx d i.2.1 i.2.2.1 i.2.2.2 k lo st h with
    | none => rw [ho] at hr; cases hr
    | some w =>
    obtain ⟨k', lo', st', h', x1, y1⟩ := w
    rw [ho] at hr
    dsimp only at hr ⊢
    obtain ⟨r1, r2, r3, r4⟩ := r
    obtain ⟨a, b, e1, e2, e3⟩ := z_mapadd hr
    rw [ih _ _ _ _ _ _ _ e1, e2, e3]
    rfl
theorem z_runs {sx : zX} {n m d j k : Nat} {lo : zL} {st : List Value} {h : zH} {r : zRes} (hr : z_run sx n d j k lo st h = some r) (hm : n ≤ m) : z_run sx m d j k lo st h = some r := by
  induction hm with
  | refl => exact hr
  | step _ ih => exact z_run1 sx _ _ _ _ _ _ _ _ ih
section ZOK
variable {sx : zX} {d j k : Nat} {lo : zL} {st : List Value} {h : zH} {Ψ : zO → zH → Nat → Nat → Prop} {M : zMi} {cs : List zI} {hs : List zHd} {i : zI}
theorem z_ok.fin {o : zO} {x y : Nat} (hM : z_ms[j]? = some M) (hC : z_cs[j]? = some cs) (hH : z_hs[j]? = some hs) (hi : cs[k]? = some i) (hf : z_fin M i d st = some (o, x, y)) (kk : Ψ o h x y) : z_ok sx d j k lo st h Ψ := by
  refine ⟨1, o, h, x, y, ?_, kk⟩
  rw [z_run, hM, hC, hH]
  dsimp only
  rw [hi]
  dsimp only
  rw [hf]
theorem z_ok.step {k' : Nat} {lo' : zL} {st' : List Value} {h' : zH} {x y : Nat} (hM : z_ms[j]? = some M) (hC : z_cs[j]? = some cs) (hH : z_hs[j]? = some hs) (hi : cs[k]? = some i) (hf : z_fin M i d st = none) (hc : z_cal i d st h = none) (ho : (z_ops.getD i.1 z_no) sx d i.2.1 i.2.2.1 i.2.2.2 k lo st h = some (k', lo', st', h', x, y)) (kk : z_ok sx d j k' lo' st' h' (fun o h9 a b => Ψ o h9 (a + x) (b + y))) : z_ok sx d j k lo st h Ψ := by
  obtain ⟨n, o, h9, a, b, e, q⟩ := kk
  refine ⟨n + 1, o, h9, a + x, b + y, ?_, q⟩
  rw [z_run, hM, hC, hH]
  dsimp only
  rw [hi]
  dsimp only
  rw [hf]
  dsimp only
  rw [hc]
  dsimp only
  rw [ho]
  dsimp only
  rw [e]
  rfl
/-- what a caller owes behind a call -/
noncomputable def zRes1 (sx : zX) (d j k : Nat) (lo : zL) (rest : List Value) (i : zI) (hs : List zHd) (Ψ : zO → zH → Nat → Nat → Prop) (o : zO) (h1 : zH) (x y : Nat) : Prop := match o with
  | .inl v => z_ok sx d j (k + 1) lo (v.toList ++ rest) h1 (fun o' h' a b => Ψ o' h' (a + x) (b + y))
  | .inr E => i.1 = 54 ∧ (match hs.find? (fun q => q.2.2.2.2.1 == E) with
    | some q => z_ok sx d j q.2.2.2.2.2.1 (z_drop lo q.2.2.2.2.2.2) [] h1 (fun o' h' a b => Ψ o' h' (a + x) (b + y))
    | none => hs = [] ∧ Ψ (.inr E) h1 x y)
theorem z_ok.call {j' : Nat} {as rest : List Value} (hM : z_ms[j]? = some M) (hC : z_cs[j]? = some cs) (hH : z_hs[j]? = some hs) (hi : cs[k]? = some i) (hf : z_fin M i d st = none) (hc : z_cal i d st h = some (j', as, rest)) (kk : z_ok sx (d - 1) j' 0 (lv_args 0 as) [] h (zRes1 sx d j k lo rest i hs Ψ)) : z_ok sx d j k lo st h Ψ := by
  obtain ⟨n, o, h1, x, y, e, q⟩ := kk
  cases o with
  | inl v =>
    obtain ⟨n2, o2, h2, a, b, e2, q2⟩ := q
    refine ⟨max n n2 + 1, o2, h2, a + x, b + y, ?_, q2⟩
    rw [z_run, hM, hC, hH]
    dsimp only
    rw [hi]
    dsimp only
    rw [hf]
    dsimp only
    rw [hc]
    dsimp only
    rw [z_runs e (Nat.le_max_left n n2)]
    dsimp only
    rw [z_runs e2 (Nat.le_max_right n n2)]
    rfl
  | inr E =>
    obtain ⟨q0, q⟩ := q
    cases hfd : hs.find? (fun q => q.2.2.2.2.1 == E) with
    | some w =>
      rw [hfd] at q
      obtain ⟨n2, o2, h2, a, b, e2, q2⟩ := q
      refine ⟨max n n2 + 1, o2, h2, a + x, b + y, ?_, q2⟩
      rw [z_run, hM, hC, hH]
      dsimp only
      rw [hi]
      dsimp only
      rw [hf]
      dsimp only
      rw [hc]
      dsimp only
      rw [z_runs e (Nat.le_max_left n n2)]
      dsimp only
      rw [if_pos q0, hfd]
      dsimp only
      rw [z_runs e2 (Nat.le_max_right n n2)]
      rfl
    | none =>
      rw [hfd] at q
      refine ⟨n + 1, .inr E, h1, x, y, ?_, q.2⟩
      rw [z_run, hM, hC, hH]
      dsimp only
      rw [hi]
      dsimp only
      rw [hf]
      dsimp only
      rw [hc]
      dsimp only
      rw [e]
      dsimp only
      rw [if_pos q0, hfd]
      dsimp only
      rw [if_pos q.1]
end ZOK
theorem z_fin_no {M : zMi} {i : zI} {d : Nat} {st : List Value} (h : i.1 ≠ 50 ∧ i.1 ≠ 51 ∧ i.1 ≠ 52 ∧ i.1 ≠ 53 ∧ i.1 ≠ 62) : z_fin M i d st = none := by
  obtain ⟨h0, h1, h2, h3, h4⟩ := h
  unfold z_fin
  split
  · next e => exact absurd e h0
  · next e => exact absurd e h1
  · next e => exact absurd e h2
  · next e => exact absurd e h3
  · next e => exact absurd e h4
  · rfl
theorem z_cal_non {i : zI} {d : Nat} {st : List Value} {h : zH} (hn : i.1 ≠ 54 ∧ i.1 ≠ 55 ∧ i.1 ≠ 72 ∧ i.1 ≠ 56 ∧ i.1 ≠ 73) : z_cal i d st h = none := by
  cases hc : z_cal i d st h with
  | none => rfl
  | some w =>
    obtain ⟨j, as, rest⟩ := w
    have h9 := z_cal_no (z_cal_in hc).1
    omega
/-! frames above one another: the innermost first -/
abbrev zCf : Type := Nat × Nat × zL × List Value
noncomputable def zKx (sx : zX) (d0 : Nat) (Φ : zO → zH → Nat → Nat → Prop) : List zCf → zO → zH → Nat → Nat → Prop
  | [], o, h, x, y => Φ o h x y
  | (j, k, lo, st) :: fs, o, h, x, y => ∃ i hs, (z_cs.getD j [])[k]? = some i ∧ z_hs[j]? = some hs ∧ zRes1 sx (d0 - fs.length) j k lo st i hs (zKx sx d0 Φ fs) o h x y
noncomputable def zGo (sx : zX) (d0 : Nat) (Φ : zO → zH → Nat → Nat → Prop) (cf : List zCf) (h : zH) (X Y : Nat) : Prop := match cf with
  | [] => False
  | (j, k, lo, st) :: fs => z_ok sx (d0 - fs.length) j k lo st h (fun o h' a b => zKx sx d0 Φ fs o h' (a + X) (b + Y))
theorem zRes1.imp {sx : zX} {d j k : Nat} {lo : zL} {rest : List Value} {i : zI} {hs : List zHd} {Ψ Ψ' : zO → zH → Nat → Nat → Prop} {o : zO} {h1 : zH} {x y x' y' : Nat} (H : zRes1 sx d j k lo rest i hs Ψ o h1 x y) (hi : ∀ o h' a b, Ψ o h' (a + x) (b + y) → Ψ' o h' (a + x') (b + y')) : zRes1 sx d j k lo rest i hs Ψ' o h1 x' y' := by
  cases o with
  | inl v => exact z_ok.imp H (fun o h' a b q => hi o h' a b q)
  | inr E =>
    refine ⟨H.1, ?_⟩
    have H2 := H.2
    cases hfd : hs.find? (fun q => q.2.2.2.2.1 == E) with
    | some w => rw [hfd] at H2; exact z_ok.imp H2 (fun o h' a b q => hi o h' a b q)
    | none =>
      rw [hfd] at H2
      refine ⟨H2.1, ?_⟩
      have h9 := hi (.inr E) h1 0 0 (by rw [Nat.zero_add, Nat.zero_add]; exact H2.2)
      rw [Nat.zero_add, Nat.zero_add] at h9
      exact h9
section ZGO
variable {sx : zX} {d0 : Nat} {Φ : zO → zH → Nat → Nat → Prop} {j k : Nat} {lo : zL} {st : List Value} {fs : List zCf} {h : zH} {X Y : Nat} {M : zMi} {cs : List zI} {hs : List zHd} {i : zI}
theorem zGo.fin {o : zO} {x y : Nat} (hM : z_ms[j]? = some M) (hC : z_cs[j]? = some cs) (hH : z_hs[j]? = some hs) (hi : cs[k]? = some i) (hf : z_fin M i (d0 - fs.length) st = some (o, x, y)) (kk : zKx sx d0 Φ fs o h (x + X) (y + Y)) : zGo sx d0 Φ ((j, k, lo, st) :: fs) h X Y := z_ok.fin hM hC hH hi hf kk
theorem zGo.step {k' : Nat} {lo' : zL} {st' : List Value} {h' : zH} (hM : z_ms[j]? = some M) (hC : z_cs[j]? = some cs) (hH : z_hs[j]? = some hs) (hi : cs[k]? = some i) (hn : i.1 ≠ 50 ∧ i.1 ≠ 51 ∧ i.1 ≠ 52 ∧ i.1 ≠ 53 ∧ i.1 ≠ 62 ∧ i.1 ≠ 54 ∧ i.1 ≠ 55 ∧ i.1 ≠ 72 ∧ i.1 ≠ 56 ∧ i.1 ≠ 73) (ho : (z_ops.getD i.1 z_no) sx (d0 - fs.length) i.2.1 i.2.2.1 i.2.2.2 k lo st h = zn k' lo' st' h') (kk : zGo sx d0 Φ ((j, k', lo', st') :: fs) h' X Y) : zGo sx d0 Φ ((j, k, lo, st) :: fs) h X Y :=
  z_ok.step hM hC hH hi (z_fin_no ⟨hn.1, hn.2.1, hn.2.2.1, hn.2.2.2.1, hn.2.2.2.2.1⟩) (z_cal_non hn.2.2.2.2.2) ho kk
theorem zGo.call {j' : Nat} {as rest : List Value} (hM : z_ms[j]? = some M) (hC : z_cs[j]? = some cs) (hH : z_hs[j]? = some hs) (hi : cs[k]? = some i) (hn : i.1 ≠ 50 ∧ i.1 ≠ 51 ∧ i.1 ≠ 52 ∧ i.1 ≠ 53 ∧ i.1 ≠ 62) (hc : z_cal i (d0 - fs.length) st h = some (j', as, rest)) (kk : zGo sx d0 Φ ((j', 0, lv_args 0 as, []) :: (j, k, lo, rest) :: fs) h X Y) : zGo sx d0 Φ ((j, k, lo, st) :: fs) h X Y := by
  refine z_ok.call hM hC hH hi (z_fin_no hn) hc ?_
  have e : d0 - fs.length - 1 = d0 - ((j, k, lo, rest) :: fs).length := by rw [List.length_cons]; omega
  rw [e]
  refine z_ok.imp kk (fun o h' a b q => ?_)
  obtain ⟨i9, hs9, hi9, hH9, q⟩ := q
  rw [List.getD_eq_getElem?_getD, hC, Option.getD_some, hi] at hi9
  cases hi9
  rw [hH] at hH9
  cases hH9
  exact q.imp (fun o9 h9 a9 b9 q9 => by
    show zKx sx d0 Φ fs o9 h9 (a9 + a + X) (b9 + b + Y)
    rw [Nat.add_assoc, Nat.add_assoc]
    exact q9)
/-- behind a call that has returned -/
theorem zKx.ret {v : Option Value} (hC : z_cs[j]? = some cs) (hH : z_hs[j]? = some hs) (hi : cs[k]? = some i) (kk : zGo sx d0 Φ ((j, k + 1, lo, v.toList ++ st) :: fs) h X Y) : zKx sx d0 Φ ((j, k, lo, st) :: fs) (.inl v) h X Y :=
  ⟨i, hs, by rw [List.getD_eq_getElem?_getD, hC]; exact hi, hH, kk⟩
/-- behind a call that has thrown: caught here -/
theorem zKx.caught {E : Nat} {q : zHd} (hC : z_cs[j]? = some cs) (hH : z_hs[j]? = some hs) (hi : cs[k]? = some i) (hv : i.1 = 54) (hf : hs.find? (fun q => q.2.2.2.2.1 == E) = some q) (kk : zGo sx d0 Φ ((j, q.2.2.2.2.2.1, z_drop lo q.2.2.2.2.2.2, []) :: fs) h X Y) : zKx sx d0 Φ ((j, k, lo, st) :: fs) (.inr E) h X Y :=
  ⟨i, hs, by rw [List.getD_eq_getElem?_getD, hC]; exact hi, hH, hv, by rw [hf]; exact kk⟩
theorem zKx.out {E : Nat} (hC : z_cs[j]? = some cs) (hH : z_hs[j]? = some []) (hi : cs[k]? = some i) (hv : i.1 = 54) (kk : zKx sx d0 Φ fs (.inr E) h X Y) : zKx sx d0 Φ ((j, k, lo, st) :: fs) (.inr E) h X Y :=
  ⟨i, [], by rw [List.getD_eq_getElem?_getD, hC]; exact hi, hH, hv, rfl, kk⟩
end ZGO
