/-! lines, and a text of them -/
abbrev gLn4 : Type := Nat × Nat × Nat × Nat
noncomputable def gLine (b : Nat → Int) (E n A : Nat) : Option ((Nat × Nat × Nat × zSs) ⊕ Nat) := match tws b E A [wWarm, wDust, wFine] 0 with
  | none => some (.inr A)
  | some (A1, c) => (match tn b E 0 20 A1 with
    | none => some (.inr A1)
    | some (A2, v) => (match tw b E wIf A2 with
      | none => some (.inl (A2, c, v, []))
      | some A3 => (match gCond b E (gAtom b E n 0) n A3 with
        | none => none
        | some (.inr F) => some (.inr F)
        | some (.inl (A4, m)) => some (.inl (A4, c, v, m)))))
noncomputable def gText (b : Nat → Int) (E : Nat) : Nat → Nat → List gLn4 → zSs → Option ((List gLn4 × zSs) ⊕ Nat)
  | 0, _, _, _ => none
  | n + 1, A, ls, l => if ls.length = 12 then some (.inr A) else (match gLine b E n A with
    | none => none
    | some (.inr F) => some (.inr F)
    | some (.inl (A1, c, v, m)) => if A1 = E then some (.inl (ls ++ [(c, v, l.length, (l ++ m).length)], l ++ m)) else (match ts b E 59 A1 with
      | none => some (.inr A1)
      | some A2 => gText b E n A2 (ls ++ [(c, v, l.length, (l ++ m).length)]) (l ++ m)))
section GTX
variable {b : Nat → Int} {E : Nat}
noncomputable def GI (b : Nat → Int) (E A : Nat) (R : (Nat × Nat × Nat × zSs) ⊕ Nat) : Prop := ∃ n, gLine b E n A = some R
noncomputable def GT (b : Nat → Int) (E A : Nat) (ls : List gLn4) (l : zSs) (R : (List gLn4 × zSs) ⊕ Nat) : Prop := ∃ n, gText b E n A ls l = some R
theorem gLine_mono {n m A : Nat} {R : (Nat × Nat × Nat × zSs) ⊕ Nat} (h : gLine b E n A = some R) (hm : n ≤ m) : gLine b E m A = some R := by
  unfold gLine at h ⊢
  cases h1 : tws b E A [wWarm, wDust, wFine] 0 with
  | none => rw [h1] at h; exact h
  | some q =>
  obtain ⟨A1, c⟩ := q
  rw [h1] at h
  dsimp only at h ⊢
  cases h2 : tn b E 0 20 A1 with
  | none => rw [h2] at h; exact h
  | some q =>
  obtain ⟨A2, v⟩ := q
  rw [h2] at h
  dsimp only at h ⊢
  cases h3 : tw b E wIf A2 with
  | none => rw [h3] at h; exact h
  | some A3 =>
  rw [h3] at h
  dsimp only at h ⊢
  cases h4 : gCond b E (gAtom b E n 0) n A3 with
  | none => rw [h4] at h; cases h
  | some q => rw [h4] at h; rw [gCond_mono (gAm hm) h4 hm]; exact h
theorem gText_mono {R : (List gLn4 × zSs) ⊕ Nat} : ∀ {n m A : Nat} {ls : List gLn4} {l : zSs}, gText b E n A ls l = some R → n ≤ m → gText b E m A ls l = some R
  | 0, _, _, _, _, h, _ => by cases h
  | n + 1, 0, _, _, _, _, hm => by omega
  | n + 1, m + 1, A, ls, l, h, hm => by
    unfold gText at h ⊢
    by_cases h0 : ls.length = 12
    · rw [if_pos h0] at h ⊢; exact h
    rw [if_neg h0] at h ⊢
    cases h1 : gLine b E n A with
    | none => rw [h1] at h; cases h
    | some q =>
    rw [h1] at h
    rw [gLine_mono h1 (by omega)]
    cases q with
    | inr F => exact h
    | inl q =>
    obtain ⟨A1, c, v, w⟩ := q
    dsimp only at h ⊢
    by_cases h2 : A1 = E
    · rw [if_pos h2] at h ⊢; exact h
    rw [if_neg h2] at h ⊢
    cases h3 : ts b E 59 A1 with
    | none => rw [h3] at h; exact h
    | some A2 => rw [h3] at h; exact gText_mono h (by omega)
theorem GI.k0 {A : Nat} (h : tws b E A [wWarm, wDust, wFine] 0 = none) : GI b E A (.inr A) := ⟨0, by unfold gLine; rw [h]⟩
theorem GI.n0 {A A1 c : Nat} (h : tws b E A [wWarm, wDust, wFine] 0 = some (A1, c)) (h1 : tn b E 0 20 A1 = none) : GI b E A (.inr A1) := ⟨0, by unfold gLine; rw [h]; dsimp only; rw [h1]⟩
theorem GI.plain {A A1 c A2 v : Nat} (h : tws b E A [wWarm, wDust, wFine] 0 = some (A1, c)) (h1 : tn b E 0 20 A1 = some (A2, v)) (h2 : tw b E wIf A2 = none) : GI b E A (.inl (A2, c, v, [])) := ⟨0, by unfold gLine; rw [h]; dsimp only; rw [h1]; dsimp only; rw [h2]⟩
theorem GI.if0 {A A1 c A2 v A3 F : Nat} (h : tws b E A [wWarm, wDust, wFine] 0 = some (A1, c)) (h1 : tn b E 0 20 A1 = some (A2, v)) (h2 : tw b E wIf A2 = some A3) (h3 : GC b E 0 A3 (.inr F)) : GI b E A (.inr F) := by
  obtain ⟨n, h3⟩ := h3
  exact ⟨n, by unfold gLine; rw [h]; dsimp only; rw [h1]; dsimp only; rw [h2]; dsimp only; rw [h3]⟩
theorem GI.if1 {A A1 c A2 v A3 A4 : Nat} {m : zSs} (h : tws b E A [wWarm, wDust, wFine] 0 = some (A1, c)) (h1 : tn b E 0 20 A1 = some (A2, v)) (h2 : tw b E wIf A2 = some A3) (h3 : GC b E 0 A3 (.inl (A4, m))) : GI b E A (.inl (A4, c, v, m)) := by
  obtain ⟨n, h3⟩ := h3
  exact ⟨n, by unfold gLine; rw [h]; dsimp only; rw [h1]; dsimp only; rw [h2]; dsimp only; rw [h3]⟩
theorem GT.full {A : Nat} {ls : List gLn4} {l : zSs} (h : ls.length = 12) : GT b E A ls l (.inr A) := ⟨1, by unfold gText; rw [if_pos h]⟩
theorem GT.bad {A F : Nat} {ls : List gLn4} {l : zSs} (h0 : ls.length ≠ 12) (h : GI b E A (.inr F)) : GT b E A ls l (.inr F) := by
  obtain ⟨n, h⟩ := h
  exact ⟨n + 1, by unfold gText; rw [if_neg h0, h]⟩
theorem GT.last {A c v : Nat} {m : zSs} {ls : List gLn4} {l : zSs} (h0 : ls.length ≠ 12) (h : GI b E A (.inl (E, c, v, m))) : GT b E A ls l (.inl (ls ++ [(c, v, l.length, (l ++ m).length)], l ++ m)) := by
  obtain ⟨n, h⟩ := h
  exact ⟨n + 1, by unfold gText; rw [if_neg h0, h]; dsimp only; rw [if_pos rfl]⟩
theorem GT.semi {A A1 c v : Nat} {m : zSs} {ls : List gLn4} {l : zSs} (h0 : ls.length ≠ 12) (h : GI b E A (.inl (A1, c, v, m))) (h1 : A1 ≠ E) (h2 : ts b E 59 A1 = none) : GT b E A ls l (.inr A1) := by
  obtain ⟨n, h⟩ := h
  exact ⟨n + 1, by unfold gText; rw [if_neg h0, h]; dsimp only; rw [if_neg h1, h2]⟩
theorem GT.step {A A1 A2 c v : Nat} {m : zSs} {ls : List gLn4} {l : zSs} {R : (List gLn4 × zSs) ⊕ Nat} (h0 : ls.length ≠ 12) (h : GI b E A (.inl (A1, c, v, m))) (h1 : A1 ≠ E) (h2 : ts b E 59 A1 = some A2) (h3 : GT b E A2 (ls ++ [(c, v, l.length, (l ++ m).length)]) (l ++ m) R) : GT b E A ls l R := by
  obtain ⟨n, h⟩ := h
  obtain ⟨k, h3⟩ := h3
  refine ⟨max n k + 1, ?_⟩
  unfold gText
  rw [if_neg h0, gLine_mono h (Nat.le_max_left n k)]
  dsimp only
  rw [if_neg h1, h2]
  exact gText_mono h3 (Nat.le_max_right n k)
theorem GT.det {A : Nat} {ls : List gLn4} {l : zSs} {R R' : (List gLn4 × zSs) ⊕ Nat} (h : GT b E A ls l R) (h' : GT b E A ls l R') : R = R' := by
  obtain ⟨n, h⟩ := h
  obtain ⟨k, h'⟩ := h'
  have h1 := gText_mono h (Nat.le_max_left n k)
  have h2 := gText_mono h' (Nat.le_max_right n k)
  rw [h1] at h2
  exact Option.some.inj h2
end GTX
/-- a law's text: its lines and steps, or the wrong place -/
noncomputable def GLaw (b : Nat → Int) (E : Nat) (R : (List gLn4 × zSs) ⊕ Nat) : Prop := (zBl b E 0 = E ∧ R = .inl ([], [])) ∨ (zBl b E 0 ≠ E ∧ GT b E (zBl b E 0) [] [] R)
theorem GLaw.det {b : Nat → Int} {E : Nat} {R R' : (List gLn4 × zSs) ⊕ Nat} (h : GLaw b E R) (h' : GLaw b E R') : R = R' := by
  rcases h with ⟨h1, h2⟩ | ⟨h1, h2⟩ <;> rcases h' with ⟨g1, g2⟩ | ⟨g1, g2⟩
  · rw [h2, g2]
  · exact absurd h1 g1
  · exact absurd g1 h1
  · exact h2.det g2
