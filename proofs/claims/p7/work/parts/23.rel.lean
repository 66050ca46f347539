/-! what the checker's state says of the machine's: each number stands for a value -/
noncomputable def zEv (ty : List Nat) (ρ : List Value) (env : List zEn) : Prop := env.length = ρ.length ∧ ∀ (i : Nat) (e : zEn) (v : Value), env[i]? = some e → ρ[i]? = some v → zG ty e.1 v ∧ ∀ b, e.2.1 = b + 1 → ∃ x y : Int32, v = .int x ∧ ρ[b]? = some (.int y) ∧ x.toInt = y.toInt + e.2.2
noncomputable def zIx (ρ : List Value) (b : Nat) (off : Int) (i : Nat) : Prop := match b with
  | 0 => off = (i : Int)
  | b + 1 => ∃ y : Int32, ρ[b]? = some (.int y) ∧ (i : Int) = y.toInt + off
noncomputable def zMm (h : zH) (ρ : List Value) (me : List zMe) : Prop := ∀ m ∈ me, ∃ (a : Nat) (e : zE) (i : Nat) (v : Value), ρ[m.1]? = some (.ref a) ∧ h[a]? = some e ∧ zIx ρ m.2.1 m.2.2.1 i ∧ z_rd e i = some v ∧ ρ[m.2.2.2]? = some v
noncomputable def zLo (ρ : List Value) (loc : zLs) (lo : zL) : Prop := ∀ p ∈ loc, ∃ v, ρ[p.2]? = some v ∧ z_get lo p.1 = some v
noncomputable def zSk (ρ : List Value) : List Nat → List Value → Prop
  | [], [] => True
  | i :: is, v :: vs => ρ[i]? = some v ∧ zSk ρ is vs
  | _, _ => False
noncomputable def zRx (ρ ρ' : List Value) : Prop := ∀ (i : Nat) (v : Value), ρ[i]? = some v → ρ'[i]? = some v
theorem zRx.rf {ρ : List Value} : zRx ρ ρ := fun _ _ h => h
theorem zRx.tr {a b c : List Value} (h1 : zRx a b) (h2 : zRx b c) : zRx a c := fun i v h => h2 i v (h1 i v h)
theorem zRx.app {ρ l : List Value} : zRx ρ (ρ ++ l) := fun i v h => by
  rw [List.getElem?_append_left (List.getElem?_eq_some_iff.mp h).1]; exact h
theorem zIx.mono {ρ ρ' : List Value} {b : Nat} {off : Int} {i : Nat} (h : zRx ρ ρ') (q : zIx ρ b off i) : zIx ρ' b off i := by
  cases b with
  | zero => exact q
  | succ b =>
    obtain ⟨y, h1, h2⟩ := q
    exact ⟨y, h b _ h1, h2⟩
theorem zMm.mono {h : zH} {ρ ρ' : List Value} {me : List zMe} (hx : zRx ρ ρ') (q : zMm h ρ me) : zMm h ρ' me := fun m hm => by
  obtain ⟨a, e, i, v, h1, h2, h3, h4, h5⟩ := q m hm
  exact ⟨a, e, i, v, hx _ _ h1, h2, h3.mono hx, h4, hx _ _ h5⟩
theorem zLo.mono {ρ ρ' : List Value} {loc : zLs} {lo : zL} (hx : zRx ρ ρ') (q : zLo ρ loc lo) : zLo ρ' loc lo := fun p hp => by
  obtain ⟨v, h1, h2⟩ := q p hp
  exact ⟨v, hx _ _ h1, h2⟩
theorem zSk.mono {ρ ρ' : List Value} (hx : zRx ρ ρ') : ∀ {stk : List Nat} {st : List Value}, zSk ρ stk st → zSk ρ' stk st
  | [], [], _ => trivial
  | _ :: _, _ :: _, h => ⟨hx _ _ h.1, zSk.mono hx h.2⟩
noncomputable def zav (env : List zEn) (i : Nat) : zA := match env[i]? with
  | some e => e.1
  | none => (9, 0, 0)
theorem zEv.at {ty : List Nat} {ρ : List Value} {env : List zEn} {i : Nat} {v : Value} (H : zEv ty ρ env) (hv : ρ[i]? = some v) : zG ty (zav env i) v := by
  have hl : i < env.length := by rw [H.1]; exact (List.getElem?_eq_some_iff.mp hv).1
  unfold zav
  rw [List.getElem?_eq_getElem hl]
  exact (H.2 i env[i] v (List.getElem?_eq_getElem hl) hv).1
theorem zEv.ex {ty : List Nat} {ρ : List Value} {env : List zEn} {i : Nat} {v : Value} (H : zEv ty ρ env) (hv : ρ[i]? = some v) : ∃ e, env[i]? = some e ∧ zav env i = e.1 := by
  have hl : i < env.length := by rw [H.1]; exact (List.getElem?_eq_some_iff.mp hv).1
  refine ⟨env[i], List.getElem?_eq_getElem hl, ?_⟩
  unfold zav
  rw [List.getElem?_eq_getElem hl]
theorem zEv.push {ty : List Nat} {ρ : List Value} {env : List zEn} {e : zEn} {v : Value} (H : zEv ty ρ env) (hv : zG ty e.1 v) (hb : ∀ b, e.2.1 = b + 1 → ∃ x y : Int32, v = .int x ∧ ρ[b]? = some (.int y) ∧ x.toInt = y.toInt + e.2.2) : zEv ty (ρ ++ [v]) (env ++ [e]) := by
  refine ⟨by rw [List.length_append, List.length_append, H.1]; rfl, fun i e9 v9 h1 h2 => ?_⟩
  by_cases hi : i < env.length
  · rw [List.getElem?_append_left hi] at h1
    rw [List.getElem?_append_left (by rw [← H.1]; exact hi)] at h2
    obtain ⟨g1, g2⟩ := H.2 i e9 v9 h1 h2
    refine ⟨g1, fun b hb9 => ?_⟩
    obtain ⟨x, y, q1, q2, q3⟩ := g2 b hb9
    exact ⟨x, y, q1, zRx.app b _ q2, q3⟩
  · rw [List.getElem?_append_right (by omega)] at h1
    rw [List.getElem?_append_right (by rw [← H.1]; omega), ← H.1] at h2
    have hz : i - env.length = 0 := by
      have := (List.getElem?_eq_some_iff.mp h1).1
      rw [List.length_singleton] at this
      omega
    rw [hz] at h1 h2
    cases h1
    cases h2
    refine ⟨hv, fun b hb9 => ?_⟩
    obtain ⟨x, y, q1, q2, q3⟩ := hb b hb9
    exact ⟨x, y, q1, zRx.app b _ q2, q3⟩
theorem zEv.push0 {ty : List Nat} {ρ : List Value} {env : List zEn} {a : zA} {v : Value} (H : zEv ty ρ env) (hv : zG ty a v) : zEv ty (ρ ++ [v]) (env ++ [(a, 0, 0)]) := H.push hv (fun b h => by cases h)
theorem zEv.new {ty : List Nat} {ρ : List Value} {env : List zEn} (H : zEv ty ρ env) (v : Value) : (ρ ++ [v])[env.length]? = some v := by rw [H.1, List.getElem?_append_right (Nat.le_refl _), Nat.sub_self]; rfl
theorem zEv.ext {ty ty' : List Nat} {ρ : List Value} {env : List zEn} (H : zEv ty ρ env) (hx : zExt ty ty') : zEv ty' ρ env := ⟨H.1, fun i e v h1 h2 => ⟨zG_ext hx (H.2 i e v h1 h2).1, (H.2 i e v h1 h2).2⟩⟩
/-! tags -/
theorem zG0 {ty : List Nat} {a : zA} {v : Value} (g : zG ty a v) (h : a.1 = 0) : ∃ x : Int32, v = .int x ∧ a.2.1 ≤ x.toInt ∧ x.toInt ≤ a.2.2 := by
  obtain ⟨t, lo, hi⟩ := a
  dsimp only at h
  subst h
  exact g
theorem zG1 {ty : List Nat} {a : zA} {v : Value} (g : zG ty a v) (h : a.1 = 1) : ∃ x : Int64, v = .long x ∧ a.2.1 ≤ x.toInt ∧ x.toInt ≤ a.2.2 := by
  obtain ⟨t, lo, hi⟩ := a
  dsimp only at h
  subst h
  exact g
theorem zG2 {ty : List Nat} {a : zA} {v : Value} (g : zG ty a v) (h : a.1 = 2) : ∃ i t : Nat, v = .ref i ∧ ty[i]? = some t ∧ a.2.1 ≤ (t : Int) ∧ (t : Int) ≤ a.2.2 := by
  obtain ⟨t, lo, hi⟩ := a
  dsimp only at h
  subst h
  exact g
theorem zG3 {ty : List Nat} {a : zA} {v : Value} (g : zG ty a v) (h : a.1 = 3) : v = .null ∨ ∃ i t : Nat, v = .ref i ∧ ty[i]? = some t ∧ a.2.1 ≤ (t : Int) ∧ (t : Int) ≤ a.2.2 := by
  obtain ⟨t, lo, hi⟩ := a
  dsimp only at h
  subst h
  exact g
theorem zG4 {ty : List Nat} {a : zA} {v : Value} (g : zG ty a v) (h : a.1 = 4) : v = .null := by
  obtain ⟨t, lo, hi⟩ := a
  dsimp only at h
  subst h
  exact g
theorem zG5 {ty : List Nat} {a : zA} {v : Value} (g : zG ty a v) (h : a.1 = 5) : v = .ref (zB + a.2.1.toNat) := by
  obtain ⟨t, lo, hi⟩ := a
  dsimp only at h
  subst h
  exact g
noncomputable def zisR (a : zA) : Bool := decide (a.1 = 2) || decide (5 ≤ a.1)
theorem zGr {ty : List Nat} {a : zA} {v : Value} (g : zG ty a v) (h : zisR a = true) : ∃ i : Nat, v = .ref i := by
  unfold zisR at h
  simp only [Bool.or_eq_true, decide_eq_true_eq] at h
  obtain ⟨t, lo, hi⟩ := a
  rcases h with h | h
  · obtain ⟨i, t, e, -⟩ := zG2 g h
    exact ⟨i, e⟩
  · have ht : t = 5 ∨ ∃ n, t = n + 6 := by
      by_cases h5 : t = 5
      · exact Or.inl h5
      · exact Or.inr ⟨t - 6, by dsimp only at h; omega⟩
    rcases ht with rfl | ⟨n, rfl⟩
    · exact ⟨_, g⟩
    · exact ⟨_, g⟩
theorem zGcat {ty : List Nat} {a : zA} {v : Value} (g : zG ty a v) : v.category = if a.1 = 1 then 2 else 1 := by
  unfold zG at g
  split at g
  · obtain ⟨x, rfl, -⟩ := g; rfl
  · obtain ⟨x, rfl, -⟩ := g; rfl
  · obtain ⟨x, t, rfl, -⟩ := g; rfl
  · rcases g with rfl | ⟨x, t, rfl, -⟩ <;> rfl
  · subst g; rfl
  · subst g; rfl
  · next n1 n2 n3 n4 n5 n6 =>
    subst g
    obtain ⟨t, lo, hi⟩ := a
    rw [if_neg (fun h => n2 lo hi (by dsimp only at h; rw [h]))]
    rfl
noncomputable def zct (env : List zEn) (stk : List Nat) : Nat := (stk.map (fun i => if (zav env i).1 = 1 then 2 else 1)).sum
theorem zct_ok {ty : List Nat} {ρ : List Value} {env : List zEn} (H : zEv ty ρ env) : ∀ {stk : List Nat} {st : List Value}, zSk ρ stk st → z_cat st = zct env stk
  | [], [], _ => rfl
  | i :: is, v :: vs, h => by
    have ih := zct_ok H h.2
    unfold z_cat zct at ih ⊢
    rw [List.map_cons, List.map_cons, List.sum_cons, List.sum_cons, ih, zGcat (H.at h.1)]
/-! locals -/
noncomputable def zlk (loc : zLs) (a : Nat) : Option Nat := (loc.find? (fun p => p.1 == a)).map (fun p => p.2)
theorem zlk_ok {ρ : List Value} {loc : zLs} {lo : zL} {a i : Nat} (H : zLo ρ loc lo) (h : zlk loc a = some i) : ∃ v, ρ[i]? = some v ∧ z_get lo a = some v := by
  unfold zlk at h
  cases hf : loc.find? (fun p => p.1 == a) with
  | none => rw [hf] at h; cases h
  | some p =>
    rw [hf] at h
    cases h
    have h1 : p.1 = a := by simpa using List.find?_some hf
    obtain ⟨v, g1, g2⟩ := H p (List.mem_of_find?_eq_some hf)
    exact ⟨v, g1, by rw [← h1]; exact g2⟩
theorem zfind {α : Type} {P F : α → Bool} {q : α} : ∀ {l : List α}, l.find? P = some q → F q = true → l.find? (fun a => decide (F a = true ∧ P a = true)) = some q
  | [], h, _ => by cases h
  | x :: l, h, hF => by
    rw [List.find?_cons] at h ⊢
    cases hP : P x with
    | true =>
      rw [hP] at h
      cases h
      simp [hF, hP]
    | false =>
      rw [hP] at h
      dsimp only at h
      rw [show decide (F x = true ∧ false = true) = false by simp]
      exact zfind h hF
theorem zget_filter {lo : zL} {F : Nat × Value → Bool} {i : Nat} {w : Value} (h : z_get lo i = some w) (hF : ∀ q : Nat × Value, q.1 = i → q.2 = w → F q = true) : z_get (lo.filter F) i = some w := by
  unfold z_get at h ⊢
  rw [List.find?_filter]
  cases hf : lo.find? (fun q => q.1 == i) with
  | none => rw [hf] at h; cases h
  | some q =>
    rw [hf] at h
    have h1 : q.1 = i := by simpa using List.find?_some hf
    have h2 : q.2 = w := Option.some.inj h
    rw [zfind hf (hF q h1 h2)]
    exact congrArg some h2
theorem zget_cons {lo : zL} {a i : Nat} {v w : Value} (h : z_get lo i = some w) (hne : i ≠ a) : z_get ((a, v) :: lo) i = some w := by
  unfold z_get at h ⊢
  rw [List.find?_cons]
  have : ((a, v).1 == i) = false := by simpa using fun e => hne e.symm
  rw [this]
  exact h
theorem zget_self {lo : zL} {a : Nat} {v : Value} : z_get ((a, v) :: lo) a = some v := by
  unfold z_get
  rw [List.find?_cons]
  simp
noncomputable def zset1 (env : List zEn) (loc : zLs) (a i : Nat) : zLs := (a, i) :: loc.filter (fun p => !(p.1 == a) && !(p.1 + 1 == a && (zav env p.2).1 == 1))
noncomputable def zset2 (env : List zEn) (loc : zLs) (a i : Nat) : zLs := (a, i) :: loc.filter (fun p => !(p.1 == a) && (!(p.1 == a + 1) && !(p.1 + 1 == a && (zav env p.2).1 == 1)))
noncomputable def zdrop (env : List zEn) (loc : zLs) (a : Nat) : zLs := loc.filter (fun p => !(p.1 == a) && !(p.1 + 1 == a && (zav env p.2).1 == 1))
theorem zdrop_ok {ty : List Nat} {ρ : List Value} {env : List zEn} {loc : zLs} {lo : zL} {a : Nat} (E : zEv ty ρ env) (H : zLo ρ loc lo) : zLo ρ (zdrop env loc a) (z_drop lo a) := by
  intro p hp
  obtain ⟨hp1, hp2⟩ := List.mem_filter.mp hp
  obtain ⟨v, h1, h2⟩ := H p hp1
  refine ⟨v, h1, zget_filter h2 (fun q e1 e2 => ?_)⟩
  rw [e1, e2]
  have hc := zGcat (E.at h1)
  cases h3 : (zav env p.2).1 == 1 with
  | true => rw [h3] at hp2; rw [hc, if_pos (by simpa using h3)]; exact hp2
  | false =>
    rw [h3] at hp2
    rw [hc, if_neg (by simpa using h3)]
    simp only [Bool.and_false, Bool.not_false, Bool.and_true] at hp2
    rw [hp2]
    simp
theorem zset1_ok {ty : List Nat} {ρ : List Value} {env : List zEn} {loc : zLs} {lo : zL} {a i : Nat} {v : Value} (E : zEv ty ρ env) (H : zLo ρ loc lo) (hv : ρ[i]? = some v) : zLo ρ (zset1 env loc a i) (z_set1 lo a v) := by
  intro p hp
  rcases List.mem_cons.mp hp with rfl | hp
  · exact ⟨v, hv, zget_self⟩
  · obtain ⟨w, h1, h2⟩ := zdrop_ok (a := a) E H p hp
    refine ⟨w, h1, zget_cons h2 (fun e => ?_)⟩
    have := (List.mem_filter.mp hp).2
    rw [e] at this
    simp at this
theorem zset2_ok {ty : List Nat} {ρ : List Value} {env : List zEn} {loc : zLs} {lo : zL} {a i : Nat} {v : Value} (E : zEv ty ρ env) (H : zLo ρ loc lo) (hv : ρ[i]? = some v) : zLo ρ (zset2 env loc a i) (z_set2 lo a v) := by
  intro p hp
  rcases List.mem_cons.mp hp with rfl | hp
  · exact ⟨v, hv, zget_self⟩
  · obtain ⟨hp1, hp2⟩ := List.mem_filter.mp hp
    obtain ⟨w, h1, h2⟩ := H p hp1
    have hne : p.1 ≠ a := fun e => by rw [e] at hp2; simp at hp2
    refine ⟨w, h1, zget_cons (zget_filter h2 (fun q e1 e2 => ?_)) hne⟩
    rw [e1, e2]
    have hc := zGcat (E.at h1)
    cases h3 : (zav env p.2).1 == 1 with
    | true => rw [h3] at hp2; rw [hc, if_pos (by simpa using h3)]; exact hp2
    | false =>
      rw [h3] at hp2
      rw [hc, if_neg (by simpa using h3)]
      simp only [Bool.and_false, Bool.not_false, Bool.and_true, Bool.and_eq_true] at hp2
      rw [hp2.1, hp2.2]
      simp
