/-! what a branch tells -/
theorem zGi {ty : List Nat} {a : zA} {x : Int32} (g : zG ty a (.int x)) : a.1 = 0 ∧ a.2.1 ≤ x.toInt ∧ x.toInt ≤ a.2.2 := by
  unfold zG at g
  split at g
  · obtain ⟨y, e, g1, g2⟩ := g; cases e; exact ⟨rfl, g1, g2⟩
  · obtain ⟨y, e, -⟩ := g; cases e
  · obtain ⟨y, t, e, -⟩ := g; cases e
  · rcases g with e | ⟨y, t, e, -⟩ <;> cases e
  · cases g
  · cases g
  · cases g
noncomputable def zref1 (env : List zEn) (i : Nat) (lo hi : Int) : Option (List zEn) := match env[i]? with
  | some e => if max e.1.2.1 lo ≤ min e.1.2.2 hi then some (env.set i ((e.1.1, max e.1.2.1 lo, min e.1.2.2 hi), e.2)) else none
  | none => none
theorem zref1_ok {ty : List Nat} {ρ : List Value} {env : List zEn} {i : Nat} {x : Int32} {lo hi : Int} (E : zEv ty ρ env) (hx : ρ[i]? = some (.int x)) (h1 : lo ≤ x.toInt) (h2 : x.toInt ≤ hi) : ∃ env', zref1 env i lo hi = some env' ∧ zEv ty ρ env' := by
  obtain ⟨e, he, -⟩ := E.ex hx
  obtain ⟨g1, g2⟩ := E.2 i e _ he hx
  obtain ⟨k0, k1, k2⟩ := zGi g1
  have hm : max e.1.2.1 lo ≤ min e.1.2.2 hi := by omega
  refine ⟨env.set i ((e.1.1, max e.1.2.1 lo, min e.1.2.2 hi), e.2), by unfold zref1; rw [he]; exact if_pos hm, by rw [List.length_set]; exact E.1, fun j e9 v9 hj hv => ?_⟩
  by_cases hji : j = i
  · subst hji
    rw [List.getElem?_set_self (List.getElem?_eq_some_iff.mp he).1] at hj
    cases hj
    rw [hx] at hv
    cases hv
    refine ⟨?_, g2⟩
    dsimp only
    rw [k0]
    exact ⟨x, rfl, by omega, by omega⟩
  · rw [List.getElem?_set_ne (fun z => hji z.symm)] at hj
    exact E.2 j e9 v9 hj hv
noncomputable def zref (env : List zEn) (i : Nat) (lo hi : Int) : Option (List zEn) := match env[i]? with
  | some e => (match zref1 env i lo hi with
    | some env1 => if e.2.1 = 0 then some env1 else zref1 env1 (e.2.1 - 1) (max e.1.2.1 lo - e.2.2) (min e.1.2.2 hi - e.2.2)
    | none => none)
  | none => none
theorem zref_ok {ty : List Nat} {ρ : List Value} {env : List zEn} {i : Nat} {x : Int32} {lo hi : Int} (E : zEv ty ρ env) (hx : ρ[i]? = some (.int x)) (h1 : lo ≤ x.toInt) (h2 : x.toInt ≤ hi) : ∃ env', zref env i lo hi = some env' ∧ zEv ty ρ env' := by
  obtain ⟨e, he, -⟩ := E.ex hx
  obtain ⟨g1, g2⟩ := E.2 i e _ he hx
  obtain ⟨k0, k1, k2⟩ := zGi g1
  obtain ⟨env1, e1, E1⟩ := zref1_ok E hx h1 h2
  unfold zref
  rw [he]
  dsimp only
  rw [e1]
  dsimp only
  by_cases hb : e.2.1 = 0
  · rw [if_pos hb]
    exact ⟨env1, rfl, E1⟩
  · rw [if_neg hb]
    obtain ⟨x9, y, q1, q2, q3⟩ := g2 (e.2.1 - 1) (by omega)
    cases q1
    exact zref1_ok E1 q2 (by omega) (by omega)
noncomputable def zlt (env : List zEn) (x y : Nat) : Option (List zEn) := if (zav env x).2.1 < (zav env y).2.2 then (match zref env x (zav env x).2.1 ((zav env y).2.2 - 1) with
  | some e => zref e y ((zav env x).2.1 + 1) (zav env y).2.2
  | none => none) else none
noncomputable def zle (env : List zEn) (x y : Nat) : Option (List zEn) := if (zav env x).2.1 ≤ (zav env y).2.2 then (match zref env x (zav env x).2.1 (zav env y).2.2 with
  | some e => zref e y (zav env x).2.1 (zav env y).2.2
  | none => none) else none
noncomputable def zeq (env : List zEn) (x y : Nat) : Option (List zEn) := match zref env x (max (zav env x).2.1 (zav env y).2.1) (min (zav env x).2.2 (zav env y).2.2) with
  | some e => zref e y (max (zav env x).2.1 (zav env y).2.1) (min (zav env x).2.2 (zav env y).2.2)
  | none => none
noncomputable def zne (env : List zEn) (x y : Nat) : Option (List zEn) :=
  if x = y then none else if (zav env y).2.1 = (zav env y).2.2 then (if (zav env x).2.1 = (zav env y).2.1 then zref env x ((zav env x).2.1 + 1) (zav env x).2.2 else if (zav env x).2.2 = (zav env y).2.1 then zref env x (zav env x).2.1 ((zav env x).2.2 - 1) else some env)
  else if (zav env x).2.1 = (zav env x).2.2 then (if (zav env y).2.1 = (zav env x).2.1 then zref env y ((zav env y).2.1 + 1) (zav env y).2.2 else if (zav env y).2.2 = (zav env x).2.1 then zref env y (zav env y).2.1 ((zav env y).2.2 - 1) else some env) else some env
noncomputable def zcmp (env : List zEn) (b x y : Nat) : Option (List zEn) := match b with
  | 0 => zeq env x y
  | 1 => zne env x y
  | 2 => zlt env x y
  | 3 => zle env y x
  | 4 => zlt env y x
  | _ => zle env x y
section ZCMP
variable {ty : List Nat} {ρ : List Value} {env : List zEn} {x y : Nat} {u w : Int32}
theorem zlt_ok (E : zEv ty ρ env) (hx : ρ[x]? = some (.int u)) (hy : ρ[y]? = some (.int w)) (h : u.toInt < w.toInt) : ∃ env', zlt env x y = some env' ∧ zEv ty ρ env' := by
  obtain ⟨-, x1, x2⟩ := zGi (E.at hx)
  obtain ⟨-, y1, y2⟩ := zGi (E.at hy)
  unfold zlt
  rw [if_pos (by omega)]
  obtain ⟨e1, q1, E1⟩ := zref_ok (lo := (zav env x).2.1) (hi := (zav env y).2.2 - 1) E hx (by omega) (by omega)
  rw [q1]
  exact zref_ok E1 hy (by omega) (by omega)
theorem zle_ok (E : zEv ty ρ env) (hx : ρ[x]? = some (.int u)) (hy : ρ[y]? = some (.int w)) (h : u.toInt ≤ w.toInt) : ∃ env', zle env x y = some env' ∧ zEv ty ρ env' := by
  obtain ⟨-, x1, x2⟩ := zGi (E.at hx)
  obtain ⟨-, y1, y2⟩ := zGi (E.at hy)
  unfold zle
  rw [if_pos (by omega)]
  obtain ⟨e1, q1, E1⟩ := zref_ok (lo := (zav env x).2.1) (hi := (zav env y).2.2) E hx (by omega) (by omega)
  rw [q1]
  exact zref_ok E1 hy (by omega) (by omega)
theorem zeq_ok (E : zEv ty ρ env) (hx : ρ[x]? = some (.int u)) (hy : ρ[y]? = some (.int w)) (h : u.toInt = w.toInt) : ∃ env', zeq env x y = some env' ∧ zEv ty ρ env' := by
  obtain ⟨-, x1, x2⟩ := zGi (E.at hx)
  obtain ⟨-, y1, y2⟩ := zGi (E.at hy)
  unfold zeq
  obtain ⟨e1, q1, E1⟩ := zref_ok (lo := max (zav env x).2.1 (zav env y).2.1) (hi := min (zav env x).2.2 (zav env y).2.2) E hx (by omega) (by omega)
  rw [q1]
  exact zref_ok E1 hy (by omega) (by omega)
theorem zne_ok (E : zEv ty ρ env) (hx : ρ[x]? = some (.int u)) (hy : ρ[y]? = some (.int w)) (h : u.toInt ≠ w.toInt) : ∃ env', zne env x y = some env' ∧ zEv ty ρ env' := by
  obtain ⟨-, x1, x2⟩ := zGi (E.at hx)
  obtain ⟨-, y1, y2⟩ := zGi (E.at hy)
  unfold zne
  rw [if_neg (fun e => by subst e; rw [hx] at hy; cases hy; exact h rfl)]
  split
  · split
    · exact zref_ok E hx (by omega) (by omega)
    · split
      · exact zref_ok E hx (by omega) (by omega)
      · exact ⟨env, rfl, E⟩
  · split
    · split
      · exact zref_ok E hy (by omega) (by omega)
      · split
        · exact zref_ok E hy (by omega) (by omega)
        · exact ⟨env, rfl, E⟩
    · exact ⟨env, rfl, E⟩
theorem zcmp_ok {b : Nat} (E : zEv ty ρ env) (hx : ρ[x]? = some (.int u)) (hy : ρ[y]? = some (.int w)) (h : z_cmp b u w = true) : ∃ env', zcmp env b x y = some env' ∧ zEv ty ρ env' := by
  unfold zcmp
  unfold z_cmp at h
  split at h
  · have e := of_decide_eq_true h
    exact zeq_ok E hx hy (by rw [e])
  · have e : ¬ u = w := by simpa using h
    exact zne_ok E hx hy (fun q => e (Int32.toInt_inj.mp q))
  · have e := of_decide_eq_true h
    rw [Int32.lt_iff_toInt_lt] at e
    exact zlt_ok E hx hy e
  · have e : ¬ u < w := by simpa using h
    rw [Int32.lt_iff_toInt_lt] at e
    exact zle_ok E hy hx (by omega)
  · have e := of_decide_eq_true h
    rw [Int32.lt_iff_toInt_lt] at e
    exact zlt_ok E hy hx e
  · next n0 n1 n2 n3 n4 =>
    have e : ¬ w < u := by simpa using h
    rw [Int32.lt_iff_toInt_lt] at e
    split
    · exact absurd rfl n0
    · exact absurd rfl n1
    · exact absurd rfl n2
    · exact absurd rfl n3
    · exact absurd rfl n4
    · exact zle_ok E hx hy (by omega)
end ZCMP
noncomputable def zneg (b : Nat) : Nat := match b with
  | 0 => 1
  | 1 => 0
  | 2 => 3
  | 3 => 2
  | 4 => 5
  | _ => 4
theorem zneg_ok {b : Nat} {u w : Int32} (h : ¬ z_cmp b u w = true) : z_cmp (zneg b) u w = true := by
  unfold zneg
  unfold z_cmp at h
  split at h
  · unfold z_cmp; simpa using h
  · unfold z_cmp; simpa using h
  · unfold z_cmp; simpa using h
  · unfold z_cmp; simpa using h
  · unfold z_cmp; simpa using h
  · next n0 n1 n2 n3 n4 =>
    split
    · exact absurd rfl n0
    · exact absurd rfl n1
    · exact absurd rfl n2
    · exact absurd rfl n3
    · exact absurd rfl n4
    · unfold z_cmp; simpa using h
