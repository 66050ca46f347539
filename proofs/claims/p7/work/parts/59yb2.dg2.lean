/-! what a line tells is within its bounds; counts of families and things -/
theorem tn_rg {b : Nat → Int} {E A A1 v : Nat} {lo hi : Int} (h : tn b E lo hi A = some (A1, v)) : lo ≤ (v : Int) ∧ (v : Int) ≤ hi ∧ v ≤ 1110 := by
  unfold tn at h
  split at h
  · next h0 =>
    have h1 := (Prod.mk.inj (Option.some.inj h)).2
    have hv := zNm_ge (b := b) (E := E) (lo := lo) (hi := hi) (A := A) (by omega)
    have hz : lo ≤ zNm b E lo hi A ∧ zNm b E lo hi A ≤ hi := by
      unfold zNm at h0 ⊢
      split
      · next q => exact ⟨q.2.2.1, q.2.2.2⟩
      · next q => rw [if_neg q] at h0; omega
    omega
  · cases h
noncomputable def dOK (nf nt : Nat) (o : dOp) : Prop := match o with
  | (0, (p, d, s), _, _) => nf < 6 ∧ p ≤ 999 ∧ d ≤ 9 ∧ s ≤ 9
  | (1, (f, _, _), _, _) => f < nf
  | (2, _, _, _) => True
  | (3, (f, v, l), _, _) => nt < 8 ∧ f < nf ∧ 1 ≤ v ∧ v ≤ 9 ∧ l ≤ 1
  | (4, (f, _, _), _, _) => f < nf
  | (5, (k, v, _), _, _) => (k = 4 ∧ v ≤ 23) ∨ (k = 10 ∧ v ≤ 9) ∨ (k = 11 ∧ v ≤ 20) ∨ (k = 12 ∧ v ≤ 99) ∨ (k = 13 ∧ v ≤ 100)
  | _ => False
theorem dAf_rg {b : Nat → Int} {E A A1 v : Nat} {lo hi : Int} {s : List Int} (h : dAf b E s lo hi A = .inl (A1, v)) : lo ≤ (v : Int) ∧ (v : Int) ≤ hi := by
  unfold dAf at h
  split at h
  · cases h
  · next A2 h1 =>
    split at h
    · cases h
    · next A3 v3 h2 =>
      have h3 := (Prod.mk.inj (Sum.inl.inj h)).2
      have := tn_rg h2
      omega
theorem dHf_rg {b : Nat → Int} {E nf A A1 f : Nat} {q : Int32} (h : dHf b E nf A = .inl (A1, f, q)) : f < nf := by
  unfold dHf at h
  split at h
  · cases h
  · next A2 v h1 =>
    have := tn_rg h1
    split at h
    · cases h
    · next A3 q3 h2 =>
      have h3 := (Prod.mk.inj (Prod.mk.inj (Sum.inl.inj h)).2).1
      omega
theorem dSt_ok {b : Nat → Int} {E nf nt k A A1 : Nat} {hi : Int} {o : dOp} (h : dSt b E k hi A = .inl (A1, o)) (hk : (k = 4 ∧ hi ≤ 23) ∨ (k = 10 ∧ hi ≤ 9) ∨ (k = 11 ∧ hi ≤ 20) ∨ (k = 12 ∧ hi ≤ 99) ∨ (k = 13 ∧ hi ≤ 100)) : dOK nf nt o := by
  unfold dSt at h
  split at h
  · cases h
  · next A2 v h1 =>
    have := tn_rg h1
    cases h
    show (k = 4 ∧ v ≤ 23) ∨ (k = 10 ∧ v ≤ 9) ∨ (k = 11 ∧ v ≤ 20) ∨ (k = 12 ∧ v ≤ 99) ∨ (k = 13 ∧ v ≤ 100)
    omega
theorem dLk_ok {b : Nat → Int} {E nf nt A A1 A2 c : Nat} {o : dOp} (hf : nf ≤ 6) (ht : nt ≤ 8) (h : dLk b E nf nt A A1 c = .inl (A2, o)) : dOK nf nt o := by
  unfold dLk at h
  split at h
  · split at h
    · cases h
    · next hn =>
      unfold dFam at h
      split at h
      · cases h
      · next B1 p e1 =>
        split at h
        · cases h
        · next B2 d e2 =>
          split at h
          · cases h
          · next B3 s e3 =>
            split at h
            · cases h
            · split at h
              · cases h
              · cases h
                have g1 := dAf_rg e1
                have g2 := dAf_rg e2
                have g3 := dAf_rg e3
                show nf < 6 ∧ p ≤ 999 ∧ d ≤ 9 ∧ s ≤ 9
                omega
  · split at h
    · cases h
    · next B1 f q e1 =>
      cases h
      exact dHf_rg e1
  · split at h
    · cases h
    · cases h
      trivial
  · split at h
    · cases h
    · next hn =>
      unfold dTh at h
      split at h
      · cases h
      · next B1 f e1 =>
        have g1 := tn_rg e1
        split at h
        · cases h
        · next B2 v e2 =>
          have g2 := dAf_rg e2
          split at h
          · cases h
            show nt < 8 ∧ f < nf ∧ 1 ≤ v ∧ v ≤ 9 ∧ 1 ≤ 1
            omega
          · cases h
            show nt < 8 ∧ f < nf ∧ 1 ≤ v ∧ v ≤ 9 ∧ 0 ≤ 1
            omega
  · split at h
    · cases h
    · next B1 f q e1 =>
      cases h
      exact dHf_rg e1
  · exact dSt_ok h (by omega)
  · exact dSt_ok h (by omega)
  · exact dSt_ok h (by omega)
  · exact dSt_ok h (by omega)
  · exact dSt_ok h (by omega)
theorem dLine_ok {b : Nat → Int} {E nf nt A A2 : Nat} {o : dOp} (hf : nf ≤ 6) (ht : nt ≤ 8) (h : dLine b E nf nt A = .inl (A2, o)) : dOK nf nt o := by
  unfold dLine at h
  split at h
  · cases h
  · exact dLk_ok hf ht h
/-- the kinds of lines, one by one -/
theorem dOK.cs {nf nt : Nat} {o : dOp} (h : dOK nf nt o) : (∃ p d s q w, o = (0, (p, d, s), q, w) ∧ nf < 6 ∧ p ≤ 999 ∧ d ≤ 9 ∧ s ≤ 9) ∨ (∃ f x y q w, o = (1, (f, x, y), q, w) ∧ f < nf) ∨ (∃ x q w, o = (2, x, q, w)) ∨ (∃ f v l q w, o = (3, (f, v, l), q, w) ∧ nt < 8 ∧ f < nf ∧ 1 ≤ v ∧ v ≤ 9 ∧ l ≤ 1) ∨ (∃ f x y q w, o = (4, (f, x, y), q, w) ∧ f < nf) ∨ (∃ k v x q w, o = (5, (k, v, x), q, w) ∧ ((k = 4 ∧ v ≤ 23) ∨ (k = 10 ∧ v ≤ 9) ∨ (k = 11 ∧ v ≤ 20) ∨ (k = 12 ∧ v ≤ 99) ∨ (k = 13 ∧ v ≤ 100))) := by
  obtain ⟨c, ⟨x, y, z⟩, q, w⟩ := o
  match c, h with
  | 0, h => exact Or.inl ⟨x, y, z, q, w, rfl, h⟩
  | 1, h => exact Or.inr (Or.inl ⟨x, y, z, q, w, rfl, h⟩)
  | 2, h => exact Or.inr (Or.inr (Or.inl ⟨(x, y, z), q, w, rfl⟩))
  | 3, h => exact Or.inr (Or.inr (Or.inr (Or.inl ⟨x, y, z, q, w, rfl, h⟩)))
  | 4, h => exact Or.inr (Or.inr (Or.inr (Or.inr (Or.inl ⟨x, y, z, q, w, rfl, h⟩))))
  | 5, h => exact Or.inr (Or.inr (Or.inr (Or.inr (Or.inr ⟨x, y, z, q, w, rfl, h⟩))))
  | n + 6, h => exact h.elim
theorem dApp_01 {nf nt : Nat} {o : dOp} {A : Nat → Int32} (h : dOK nf nt o) (h0 : A 0 = Int32.ofNat nf) (h1 : A 1 = Int32.ofNat nt) : dApp nf nt A o 0 = Int32.ofNat (nf + dF1 o) ∧ dApp nf nt A o 1 = Int32.ofNat (nt + dT1 o) ∧ nf + dF1 o ≤ max 6 nf ∧ nt + dT1 o ≤ max 8 nt := by
  rcases h.cs with ⟨p, d, s, q, w, rfl, h9, -⟩ | ⟨f, x, y, q, w, rfl, h9⟩ | ⟨x, q, w, rfl⟩ | ⟨f, v, l, q, w, rfl, h9, h8, -⟩ | ⟨f, x, y, q, w, rfl, h9⟩ | ⟨k, v, x, q, w, rfl, h9⟩
  · refine ⟨rfl, ?_, ?_, ?_⟩
    · show aU (dG _ q _) 0 _ 1 = Int32.ofNat (nt + 0)
      rw [aU_ne (by omega), dG_ne (by omega), aU_ne (by omega), aU_ne (by omega), aU_ne (by omega), aU_ne (by omega)]
      exact h1
    · show nf + 1 ≤ _; omega
    · show nt + 0 ≤ _; omega
  · refine ⟨?_, ?_, ?_, ?_⟩
    · show dG A q _ 0 = Int32.ofNat (nf + 0); unfold dG; rw [if_neg (by omega)]; exact h0
    · show dG A q _ 1 = Int32.ofNat (nt + 0); unfold dG; rw [if_neg (by omega)]; exact h1
    · show nf + 0 ≤ _; omega
    · show nt + 0 ≤ _; omega
  · refine ⟨?_, ?_, ?_, ?_⟩
    · show dG A q _ 0 = Int32.ofNat (nf + 0); unfold dG; rw [if_neg (by omega)]; exact h0
    · show dG A q _ 1 = Int32.ofNat (nt + 0); unfold dG; rw [if_neg (by omega)]; exact h1
    · show nf + 0 ≤ _; omega
    · show nt + 0 ≤ _; omega
  · refine ⟨?_, rfl, ?_, ?_⟩
    · show aU (aU (aU (aU A _ _) _ _) _ _) 1 _ 0 = Int32.ofNat (nf + 0)
      rw [aU_ne (by omega), aU_ne (by omega), aU_ne (by omega), aU_ne (by omega)]
      exact h0
    · show nf + 0 ≤ _; omega
    · show nt + 1 ≤ _; omega
  · refine ⟨?_, ?_, ?_, ?_⟩
    · show aU A _ _ 0 = Int32.ofNat (nf + 0); unfold aU; rw [if_neg (by omega)]; exact h0
    · show aU A _ _ 1 = Int32.ofNat (nt + 0); unfold aU; rw [if_neg (by omega)]; exact h1
    · show nf + 0 ≤ _; omega
    · show nt + 0 ≤ _; omega
  · refine ⟨?_, ?_, ?_, ?_⟩
    · show aU A k _ 0 = Int32.ofNat (nf + 0); unfold aU; rw [if_neg (by omega)]; exact h0
    · show aU A k _ 1 = Int32.ofNat (nt + 0); unfold aU; rw [if_neg (by omega)]; exact h1
    · show nf + 0 ≤ _; omega
    · show nt + 0 ≤ _; omega
/-- a line changes nothing behind the things, nor texts, nor whether there is a law -/
theorem dApp_ne {nf nt k : Nat} {o : dOp} {A : Nat → Int32} (h : dOK nf nt o) (hf : nf ≤ 6) (hk : 88 ≤ k ∨ k = 2 ∨ k = 3 ∨ (5 ≤ k ∧ k ≤ 9) ∨ k = 14 ∨ k = 15) : dApp nf nt A o k = A k := by
  rcases h.cs with ⟨p, d, s, q, w, rfl, h9, -⟩ | ⟨f, x, y, q, w, rfl, h9⟩ | ⟨x, q, w, rfl⟩ | ⟨f, v, l, q, w, rfl, h9, h8, -⟩ | ⟨f, x, y, q, w, rfl, h9⟩ | ⟨i, v, x, q, w, rfl, h9⟩
  · show aU (dG (aU (aU (aU (aU A _ _) _ _) _ _) _ _) q _) 0 _ k = _
    rw [aU_ne (by omega), dG_ne (by omega), aU_ne (by omega), aU_ne (by omega), aU_ne (by omega), aU_ne (by omega)]
  · show dG A q _ k = _; unfold dG; rw [if_neg (by omega)]
  · show dG A q _ k = _; unfold dG; rw [if_neg (by omega)]
  · show aU (aU (aU (aU A _ _) _ _) _ _) 1 _ k = _
    rw [aU_ne (by omega), aU_ne (by omega), aU_ne (by omega), aU_ne (by omega)]
  · show aU A _ _ k = _; unfold aU; rw [if_neg (by omega)]
  · show aU A i _ k = _; unfold aU; rw [if_neg (by omega)]
/-- all lines of a right text are within their bounds -/
noncomputable def dOKs : List dOp → Nat → Nat → Prop
  | [], _, _ => True
  | o :: r, nf, nt => dOK nf nt o ∧ dOKs r (nf + dF1 o) (nt + dT1 o)
theorem dOK.le {nf nt : Nat} {o : dOp} (h : dOK nf nt o) (hf : nf ≤ 6) (ht : nt ≤ 8) : nf + dF1 o ≤ 6 ∧ nt + dT1 o ≤ 8 := by
  rcases h.cs with ⟨p, d, s, q, w, rfl, h9, -⟩ | ⟨f, x, y, q, w, rfl, h9⟩ | ⟨x, q, w, rfl⟩ | ⟨f, v, l, q, w, rfl, h9, h8, -⟩ | ⟨f, x, y, q, w, rfl, h9⟩ | ⟨k, v, x, q, w, rfl, h9⟩
  · exact ⟨by show nf + 1 ≤ 6; omega, ht⟩
  · exact ⟨hf, ht⟩
  · exact ⟨hf, ht⟩
  · exact ⟨hf, by show nt + 1 ≤ 8; omega⟩
  · exact ⟨hf, ht⟩
  · exact ⟨hf, ht⟩
theorem dText_ok {b : Nat → Int} {E : Nat} : ∀ (n nf nt A : Nat) (os rs : List dOp), nf ≤ 6 → nt ≤ 8 → dText b E n nf nt A os = .inl rs → ∃ r, rs = os ++ r ∧ dOKs r nf nt
  | 0, _, _, _, _, _, _, _, h => by cases h
  | n + 1, nf, nt, A, os, rs, hf, ht, h => by
    unfold dText at h
    cases h1 : dLine b E nf nt A with
    | inr F => rw [h1] at h; cases h
    | inl q =>
      obtain ⟨A1, o⟩ := q
      rw [h1] at h
      dsimp only at h
      have ho := dLine_ok hf ht h1
      by_cases h2 : A1 = E
      · rw [if_pos h2] at h
        cases h
        exact ⟨[o], rfl, ho, trivial⟩
      · rw [if_neg h2] at h
        cases h3 : ts b E 59 A1 with
        | none => rw [h3] at h; cases h
        | some A2 =>
          rw [h3] at h
          dsimp only at h
          obtain ⟨r, e, hr⟩ := dText_ok n _ _ A2 (os ++ [o]) rs (ho.le hf ht).1 (ho.le hf ht).2 h
          exact ⟨o :: r, by rw [e, List.append_assoc]; rfl, ho, hr⟩
theorem dDeed_ok {b : Nat → Int} {E nf nt : Nat} {os : List dOp} (h : dDeed b E nf nt = .inl os) (hf : nf ≤ 6) (ht : nt ≤ 8) : dOKs os nf nt := by
  unfold dDeed at h
  by_cases h1 : zBl b E 0 = E
  · rw [if_pos h1] at h
    cases h
    trivial
  · rw [if_neg h1] at h
    obtain ⟨r, e, hr⟩ := dText_ok 14 nf nt _ [] os hf ht h
    rw [e]
    exact hr
theorem dOKs.ne {k : Nat} : ∀ (os : List dOp) (nf nt : Nat) (A : Nat → Int32), dOKs os nf nt → nf ≤ 6 → nt ≤ 8 → (88 ≤ k ∨ k = 2 ∨ k = 3 ∨ (5 ≤ k ∧ k ≤ 9) ∨ k = 14 ∨ k = 15) → dApps os nf nt A k = A k
  | [], _, _, _, _, _, _, _ => rfl
  | o :: r, nf, nt, A, h, hf, ht, hk => by
    show dApps r (nf + dF1 o) (nt + dT1 o) (dApp nf nt A o) k = A k
    rw [dOKs.ne r _ _ _ h.2 (h.1.le hf ht).1 (h.1.le hf ht).2 hk, dApp_ne h.1 hf hk]
theorem dApps_ne {b : Nat → Int} {E nf nt k : Nat} {os : List dOp} {A : Nat → Int32} (h : dDeed b E nf nt = .inl os) (hf : nf ≤ 6) (ht : nt ≤ 8) (hk : 88 ≤ k ∨ k = 2 ∨ k = 3 ∨ (5 ≤ k ∧ k ≤ 9) ∨ k = 14 ∨ k = 15) : dApps os nf nt A k = A k := dOKs.ne os nf nt A (dDeed_ok h hf ht) hf ht hk
