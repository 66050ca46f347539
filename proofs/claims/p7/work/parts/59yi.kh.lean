/-! a typed heap is well kinded -/
noncomputable def q_tck (t : Nat) : Bool := !decide ((z_tt t).1 = 0) || (List.range (z_tt t).2.2.1).all (fun b => match q_kd (z_tt t).2.1 b with
  | 0 => (match zrg (z_tt t).2.2.2 (b : Int) (b : Int) with | some (0, _, _) => true | _ => false)
  | 1 => (match zrg (z_tt t).2.2.2 (b : Int) (b : Int) with | some (2, _, _) => true | _ => false)
  | _ => true)
theorem q_tck_35 : (List.range 35).all q_tck = true := by decide +kernel
theorem zsh_obj {T : zTy} {c : Nat} {fs : List Value} (h : z_sh T (.inr (c, fs))) : T.1 = 0 ∧ c = T.2.1 ∧ fs.length = T.2.2.1 := by
  obtain ⟨k, c', n, rs⟩ := T
  match k, h with
  | 0, h => exact ⟨rfl, h.1, h.2⟩
  | 1, h => exact False.elim h
  | 2, h => exact False.elim h
  | 3, h => exact False.elim h
  | 4, h => exact False.elim h
  | k + 5, h => exact False.elim h
theorem zsh_ref {T : zTy} {n : Nat} {f : Nat → Option Nat} (h : z_sh T (.inl (3, (n, .inr (.inr (.inr (.inr f))))))) : T.1 = 4 ∧ n = T.2.2.1 := by
  obtain ⟨k, c', m, rs⟩ := T
  match k, h with
  | 0, h => exact False.elim h
  | 1, h => exact False.elim h
  | 2, h => exact False.elim h
  | 3, h => exact False.elim h
  | 4, h => exact ⟨rfl, h⟩
  | k + 5, h => exact False.elim h
theorem q_t18 : (List.range 35).all (fun t => decide ((z_tt t).1 ≠ 4) || decide (t = 18)) = true := by decide +kernel
theorem zTY_kh {ty : List Nat} {h : zH} (T : zTY z_tt ty h) : zKh h := by
  refine ⟨fun i c fs b v he hv => ?_, fun i n f he j hj => ?_⟩
  · have hi := (List.getElem?_eq_some_iff.mp he).1
    have ht : ty[i]? = some (ty[i]'(by rw [T.1]; exact hi)) := List.getElem?_eq_getElem _
    generalize ty[i]'(by rw [T.1]; exact hi) = t at ht
    obtain ⟨s1, s2, s3⟩ := zsh_obj (T.2.2 i t _ ht he).1
    have hb := (List.getElem?_eq_some_iff.mp hv).1
    by_cases h35 : t < 35
    · have key := List.all_eq_true.mp q_tck_35 t (List.mem_range.mpr h35)
      unfold q_tck at key
      rw [s1] at key
      have key := List.all_eq_true.mp key b (List.mem_range.mpr (by omega))
      rw [← s2] at key
      cases hk : q_kd c b with
      | zero =>
        rw [hk] at key
        cases hr : zrg (z_tt t).2.2.2 (b : Int) (b : Int) with
        | none => rw [hr] at key; cases key
        | some A =>
          obtain ⟨tg, lo, hi9⟩ := A
          rw [hr] at key
          match tg, key, hr with
          | 0, _, hr =>
          obtain ⟨w, hw, g⟩ := zfd (b := b) T ht he hb hr
          rw [hv] at hw
          cases hw
          obtain ⟨x, rfl, -⟩ := g
          rfl
          | tg + 1, key, _ => cases key
      | succ n =>
        cases n with
        | zero =>
          rw [hk] at key
          cases hr : zrg (z_tt t).2.2.2 (b : Int) (b : Int) with
          | none => rw [hr] at key; cases key
          | some A =>
            obtain ⟨tg, lo, hi9⟩ := A
            rw [hr] at key
            match tg, key, hr with
            | 0, key, _ => cases key
            | 1, key, _ => cases key
            | tg + 3, key, _ => cases key
            | 2, _, hr =>
            obtain ⟨w, hw, g⟩ := zfd (b := b) T ht he hb hr
            rw [hv] at hw
            cases hw
            obtain ⟨x, t9, rfl, -⟩ := g
            rfl
        | succ n => rfl
    · -- the laws' objects, else none
      by_cases h100 : 100 ≤ t ∧ t ≤ 112
      · have e : z_tt t = (0, 2, 6, [(0, 0, (0, ((t - 100 : Nat) : Int), ((t - 100 : Nat) : Int))), (1, 2, (2, ((t + 40 : Nat) : Int), ((t + 40 : Nat) : Int))), (3, 3, (2, ((t + 20 : Nat) : Int), ((t + 20 : Nat) : Int))), (4, 4, (2, 1000, 1400)), (5, 5, (2, 34, 34))]) := by
          unfold z_tt
          rw [if_neg h35, if_pos h100]
        rw [e] at s2
        have s2 : c = 2 := s2
        subst s2
        match b, hv with
        | 0, hv =>
          have h9 := (T.2.2 i t _ ht he).2 0 v hv
          rw [e] at h9
          obtain ⟨x, rfl, -⟩ := h9 (0, 0, (0, ((t - 100 : Nat) : Int), ((t - 100 : Nat) : Int))) List.mem_cons_self (Int.le_refl _) (Int.le_refl _)
          rfl
        | b + 1, hv =>
          have h2 : q_kd 2 (b + 1) = 2 := by
            match b with
            | 0 => rfl
            | 1 => rfl
            | 2 => rfl
            | 3 => rfl
            | 4 => rfl
            | b + 5 => rfl
          rw [h2]
          rfl
      · exfalso
        have e : (z_tt t).1 ≠ 0 := by
          unfold z_tt
          rw [if_neg h35, if_neg h100]
          split
          · exact (by decide : (1 : Nat) ≠ 0)
          · split
            · exact (by decide : (1 : Nat) ≠ 0)
            · split
              · exact (by decide : (1 : Nat) ≠ 0)
              · exact (by decide : (9 : Nat) ≠ 0)
        exact e s1
  · have hi := (List.getElem?_eq_some_iff.mp he).1
    have ht : ty[i]? = some (ty[i]'(by rw [T.1]; exact hi)) := List.getElem?_eq_getElem _
    generalize ty[i]'(by rw [T.1]; exact hi) = t at ht
    obtain ⟨hs, hr⟩ := T.2.2 i t _ ht he
    have h4 : (z_tt t).1 = 4 ∧ n = (z_tt t).2.2.1 := zsh_ref hs
    have h18 : t = 18 := by
      by_cases h35 : t < 35
      · have key := List.all_eq_true.mp q_t18 t (List.mem_range.mpr h35)
        rw [Bool.or_eq_true, decide_eq_true_eq, decide_eq_true_eq] at key
        rcases key with key | key
        · exact absurd h4.1 key
        · exact key
      · exfalso
        have e : (z_tt t).1 ≠ 4 := by
          unfold z_tt
          rw [if_neg h35]
          split
          · exact (by decide : (0 : Nat) ≠ 4)
          · split
            · exact (by decide : (1 : Nat) ≠ 4)
            · split
              · exact (by decide : (1 : Nat) ≠ 4)
              · split
                · exact (by decide : (1 : Nat) ≠ 4)
                · exact (by decide : (9 : Nat) ≠ 4)
        exact e h4.1
    subst h18
    have hn : n = 12 := h4.2
    obtain ⟨x, t9, e9, -⟩ := hr j (va_rf (f j)) (by rw [z_rd3, if_pos hj]) (0, 11, (2, 8, 8)) (by decide) (by show (0 : Int) ≤ j; omega) (by show (j : Int) ≤ 11; omega)
    cases hf : f j with
    | none => rw [hf] at e9; cases e9
    | some r => exact ⟨r, rfl⟩
