/-! the grammar as relations: how each comes about, and that each has one end -/
section GRE
variable {b : Nat → Int} {E : Nat}
noncomputable def GSL (b : Nat → Int) (E A : Nat) (l : zSs) (R : zRs) : Prop := ∃ n, gSumL b E n A l = some R
noncomputable def GS (b : Nat → Int) (E A : Nat) (R : zRs) : Prop := ∃ n, gSum b E n A = some R
noncomputable def GB (b : Nat → Int) (E A : Nat) (R : zRs) : Prop := ∃ n, gBase b E n A = some R
noncomputable def GA (b : Nat → Int) (E D A : Nat) (R : zRs) : Prop := ∃ n, gAtom b E n D A = some R
noncomputable def GL (b : Nat → Int) (E D A : Nat) (w : Bool) (l : zSs) (R : zRs) : Prop := ∃ n, gLoop b E (gAtom b E n D) n A w l = some R
noncomputable def GC (b : Nat → Int) (E D A : Nat) (R : zRs) : Prop := ∃ n, gCond b E (gAtom b E n D) n A = some R
noncomputable def GN (b : Nat → Int) (E D A : Nat) (l : zSs) (R : zRs) : Prop := ∃ n, gAndL b E (gAtom b E n D) n A l = some R
noncomputable def GW (b : Nat → Int) (E D A : Nat) (R : zRs) : Prop := ∃ n, gAll b E (gAtom b E n D) n A = some R
noncomputable def GO (b : Nat → Int) (E D A : Nat) (l : zSs) (R : zRs) : Prop := ∃ n, gOrL b E (gAtom b E n D) n A l = some R
theorem gAndL_mono {f g : Nat → Option zRs} (hf : ∀ A R, f A = some R → g A = some R) {R : zRs} : ∀ {n m A : Nat} {l : zSs}, gAndL b E f n A l = some R → n ≤ m → gAndL b E g m A l = some R
  | 0, _, _, _, h, _ => by cases h
  | n + 1, 0, _, _, _, hm => by omega
  | n + 1, m + 1, A, l, h, hm => by
    unfold gAndL at h ⊢
    cases h1 : tw b E wAnd A with
    | none => rw [h1] at h; exact h
    | some A1 =>
      rw [h1] at h
      dsimp only at h ⊢
      cases h2 : f A1 with
      | none => rw [h2] at h; cases h
      | some q =>
        rw [h2] at h
        rw [hf _ _ h2]
        cases q with
        | inr F => exact h
        | inl q => exact gAndL_mono hf h (by omega)
theorem gAll_mono {f g : Nat → Option zRs} (hf : ∀ A R, f A = some R → g A = some R) {R : zRs} {n m A : Nat} (h : gAll b E f n A = some R) (hm : n ≤ m) : gAll b E g m A = some R := by
  unfold gAll at h ⊢
  cases h2 : f A with
  | none => rw [h2] at h; cases h
  | some q =>
    rw [h2] at h
    rw [hf _ _ h2]
    cases q with
    | inr F => exact h
    | inl q => exact gAndL_mono hf h hm
theorem gOrL_mono {f g : Nat → Option zRs} (hf : ∀ A R, f A = some R → g A = some R) {R : zRs} : ∀ {n m A : Nat} {l : zSs}, gOrL b E f n A l = some R → n ≤ m → gOrL b E g m A l = some R
  | 0, _, _, _, h, _ => by cases h
  | n + 1, 0, _, _, _, hm => by omega
  | n + 1, m + 1, A, l, h, hm => by
    unfold gOrL at h ⊢
    cases h1 : tw b E wOr A with
    | none => rw [h1] at h; exact h
    | some A1 =>
      rw [h1] at h
      dsimp only at h ⊢
      cases h2 : gAll b E f n A1 with
      | none => rw [h2] at h; cases h
      | some q =>
        rw [h2] at h
        rw [gAll_mono hf h2 (by omega)]
        cases q with
        | inr F => exact h
        | inl q => exact gOrL_mono hf h (by omega)
theorem gAm {n m D : Nat} (h : n ≤ m) : ∀ A R, gAtom b E n D A = some R → gAtom b E m D A = some R := fun _ _ q => gAtom_mono q h
theorem GSL.stop {A : Nat} {l : zSs} (h : ts b E 43 A = none) : GSL b E A l (.inl (A, l)) := ⟨1, by unfold gSumL; rw [h]⟩
theorem GSL.wrong {A A1 F : Nat} {l : zSs} (h : ts b E 43 A = some A1) (h1 : gPart b E A1 = .inr F) : GSL b E A l (.inr F) := ⟨1, by unfold gSumL; rw [h]; dsimp only; rw [h1]⟩
theorem GSL.step {A A1 A2 : Nat} {l m : zSs} {R : zRs} (h : ts b E 43 A = some A1) (h1 : gPart b E A1 = .inl (A2, m)) (h2 : GSL b E A2 (l ++ m ++ [(9, 0)]) R) : GSL b E A l R := by
  obtain ⟨n, h2⟩ := h2
  exact ⟨n + 1, by unfold gSumL; rw [h]; dsimp only; rw [h1]; exact h2⟩
theorem GS.wrong {A F : Nat} (h : gPart b E A = .inr F) : GS b E A (.inr F) := ⟨0, by unfold gSum; rw [h]⟩
theorem GS.go {A A1 : Nat} {l : zSs} {R : zRs} (h : gPart b E A = .inl (A1, l)) (h1 : GSL b E A1 l R) : GS b E A R := by
  obtain ⟨n, h1⟩ := h1
  exact ⟨n, by unfold gSum; rw [h]; exact h1⟩
theorem GB.night {A A1 : Nat} (h : tw b E wNight A = some A1) : GB b E A (.inl (A1, [(6, 0)])) := ⟨0, by unfold gBase; rw [h]⟩
theorem GB.wished {A A1 : Nat} (h : tw b E wNight A = none) (h1 : tw b E wWished A = some A1) : GB b E A (.inl (A1, [(7, 0)])) := ⟨0, by unfold gBase; rw [h]; dsimp only; rw [h1]⟩
theorem GB.wrong1 {A F : Nat} (h : tw b E wNight A = none) (h1 : tw b E wWished A = none) (h2 : GS b E A (.inr F)) : GB b E A (.inr F) := by
  obtain ⟨n, h2⟩ := h2
  exact ⟨n, by unfold gBase; rw [h]; dsimp only; rw [h1]; dsimp only; rw [h2]⟩
theorem GB.wrong2 {A A1 : Nat} {l : zSs} (h : tw b E wNight A = none) (h1 : tw b E wWished A = none) (h2 : GS b E A (.inl (A1, l))) (h3 : ts b E 60 A1 = none) (h4 : ts b E 62 A1 = none) : GB b E A (.inr A1) := by
  obtain ⟨n, h2⟩ := h2
  exact ⟨n, by unfold gBase; rw [h]; dsimp only; rw [h1]; dsimp only; rw [h2]; dsimp only; rw [h3]; dsimp only; rw [h4]⟩
theorem GB.less {A A1 A2 : Nat} {l : zSs} {R : zRs} (h : tw b E wNight A = none) (h1 : tw b E wWished A = none) (h2 : GS b E A (.inl (A1, l))) (h3 : ts b E 60 A1 = some A2) (h4 : GS b E A2 R) : GB b E A (match R with | .inr F => .inr F | .inl (A3, m) => .inl (A3, l ++ m ++ [(10, 0)])) := by
  obtain ⟨n, h2⟩ := h2
  obtain ⟨k, h4⟩ := h4
  refine ⟨max n k, ?_⟩
  unfold gBase
  rw [h]
  dsimp only
  rw [h1]
  dsimp only
  rw [gSum_mono h2 (Nat.le_max_left n k)]
  dsimp only
  rw [h3]
  dsimp only
  rw [gSum_mono h4 (Nat.le_max_right n k)]
  cases R <;> rfl
theorem GB.more {A A1 A2 : Nat} {l : zSs} {R : zRs} (h : tw b E wNight A = none) (h1 : tw b E wWished A = none) (h2 : GS b E A (.inl (A1, l))) (h3 : ts b E 60 A1 = none) (h5 : ts b E 62 A1 = some A2) (h4 : GS b E A2 R) : GB b E A (match R with | .inr F => .inr F | .inl (A3, m) => .inl (A3, l ++ m ++ [(11, 0)])) := by
  obtain ⟨n, h2⟩ := h2
  obtain ⟨k, h4⟩ := h4
  refine ⟨max n k, ?_⟩
  unfold gBase
  rw [h]
  dsimp only
  rw [h1]
  dsimp only
  rw [gSum_mono h2 (Nat.le_max_left n k)]
  dsimp only
  rw [h3]
  dsimp only
  rw [h5]
  dsimp only
  rw [gSum_mono h4 (Nat.le_max_right n k)]
  cases R <;> rfl
theorem GA.base {D A : Nat} {R : zRs} (h : ts b E 40 A = none) (h1 : tw b E wNot A = none) (h2 : GB b E A R) : GA b E D A R := by
  obtain ⟨n, h2⟩ := h2
  exact ⟨n + 1, by unfold gAtom; rw [h]; dsimp only; rw [h1]; exact h2⟩
theorem GA.deep1 {A A1 : Nat} (h : ts b E 40 A = some A1) : GA b E 6 A (.inr A) := ⟨1, by unfold gAtom; rw [h]; rfl⟩
theorem GA.deep2 {A A1 : Nat} (h : ts b E 40 A = none) (h1 : tw b E wNot A = some A1) : GA b E 6 A (.inr A) := ⟨1, by unfold gAtom; rw [h]; dsimp only; rw [h1]; rfl⟩
theorem GA.not {D A A1 : Nat} {R : zRs} (hD : D ≠ 6) (h : ts b E 40 A = none) (h1 : tw b E wNot A = some A1) (h2 : GA b E (D + 1) A1 R) : GA b E D A (match R with | .inr F => .inr F | .inl (A2, l) => .inl (A2, l ++ [(12, 0)])) := by
  obtain ⟨n, h2⟩ := h2
  refine ⟨n + 1, ?_⟩
  unfold gAtom
  rw [h]
  dsimp only
  rw [h1]
  dsimp only
  rw [if_neg hD, h2]
  cases R <;> rfl
theorem GA.par {D A A1 : Nat} {R : zRs} (hD : D ≠ 6) (h : ts b E 40 A = some A1) (h2 : GC b E (D + 1) A1 R) : GA b E D A (match R with | .inr F => .inr F | .inl (A2, l) => (match ts b E 41 A2 with | some A3 => .inl (A3, l) | none => .inr A2)) := by
  obtain ⟨n, h2⟩ := h2
  refine ⟨n + 1, ?_⟩
  unfold gAtom
  rw [h]
  dsimp only
  rw [if_neg hD, h2]
  cases R with
  | inr F => rfl
  | inl q =>
    obtain ⟨A2, l⟩ := q
    dsimp only
    cases ts b E 41 A2 <;> rfl
theorem GL.stop {D A : Nat} {w : Bool} {l : zSs} (h : tw b E wAnd A = none) (h1 : tw b E wOr A = none) : GL b E D A w l (.inl (A, bif w then l ++ [(14, 0)] else l)) := ⟨1, by unfold gLoop; rw [h]; dsimp only; rw [h1]⟩
theorem GL.and0 {D A A1 F : Nat} {w : Bool} {l : zSs} (h : tw b E wAnd A = some A1) (h1 : GA b E D A1 (.inr F)) : GL b E D A w l (.inr F) := by
  obtain ⟨n, h1⟩ := h1
  exact ⟨n + 1, by unfold gLoop; rw [h]; dsimp only; rw [gAtom_mono h1 (Nat.le_succ n)]⟩
theorem GL.and1 {D A A1 A2 : Nat} {w : Bool} {l m : zSs} {R : zRs} (h : tw b E wAnd A = some A1) (h1 : GA b E D A1 (.inl (A2, m))) (h2 : GL b E D A2 w (l ++ m ++ [(13, 0)]) R) : GL b E D A w l R := by
  obtain ⟨n, h1⟩ := h1
  obtain ⟨k, h2⟩ := h2
  refine ⟨max n k + 1, ?_⟩
  unfold gLoop
  rw [h]
  dsimp only
  rw [gAtom_mono h1 (show n ≤ max n k + 1 by omega)]
  exact gLoop_mono (gAm (by omega)) h2 (by omega)
theorem GL.or0 {D A A1 F : Nat} {w : Bool} {l : zSs} (h : tw b E wAnd A = none) (h0 : tw b E wOr A = some A1) (h1 : GA b E D A1 (.inr F)) : GL b E D A w l (.inr F) := by
  obtain ⟨n, h1⟩ := h1
  exact ⟨n + 1, by unfold gLoop; rw [h]; dsimp only; rw [h0]; dsimp only; rw [gAtom_mono h1 (Nat.le_succ n)]⟩
theorem GL.or1 {D A A1 A2 : Nat} {w : Bool} {l m : zSs} {R : zRs} (h : tw b E wAnd A = none) (h0 : tw b E wOr A = some A1) (h1 : GA b E D A1 (.inl (A2, m))) (h2 : GL b E D A2 true ((bif w then l ++ [(14, 0)] else l) ++ m) R) : GL b E D A w l R := by
  obtain ⟨n, h1⟩ := h1
  obtain ⟨k, h2⟩ := h2
  refine ⟨max n k + 1, ?_⟩
  unfold gLoop
  rw [h]
  dsimp only
  rw [h0]
  dsimp only
  rw [gAtom_mono h1 (show n ≤ max n k + 1 by omega)]
  exact gLoop_mono (gAm (by omega)) h2 (by omega)
theorem GC.wrong {D A F : Nat} (h : GA b E D A (.inr F)) : GC b E D A (.inr F) := by
  obtain ⟨n, h⟩ := h
  exact ⟨n, by unfold gCond; rw [h]⟩
theorem GC.go {D A A1 : Nat} {l : zSs} {R : zRs} (h : GA b E D A (.inl (A1, l))) (h1 : GL b E D A1 false l R) : GC b E D A R := by
  obtain ⟨n, h⟩ := h
  obtain ⟨k, h1⟩ := h1
  refine ⟨max n k, ?_⟩
  unfold gCond
  rw [gAtom_mono h (Nat.le_max_left n k)]
  exact gLoop_mono (gAm (Nat.le_max_right n k)) h1 (Nat.le_max_right n k)
theorem GN.stop {D A : Nat} {l : zSs} (h : tw b E wAnd A = none) : GN b E D A l (.inl (A, l)) := ⟨1, by unfold gAndL; rw [h]⟩
theorem GN.wrong {D A A1 F : Nat} {l : zSs} (h : tw b E wAnd A = some A1) (h1 : GA b E D A1 (.inr F)) : GN b E D A l (.inr F) := by
  obtain ⟨n, h1⟩ := h1
  exact ⟨n + 1, by unfold gAndL; rw [h]; dsimp only; rw [gAtom_mono h1 (Nat.le_succ n)]⟩
theorem GN.step {D A A1 A2 : Nat} {l m : zSs} {R : zRs} (h : tw b E wAnd A = some A1) (h1 : GA b E D A1 (.inl (A2, m))) (h2 : GN b E D A2 (l ++ m ++ [(13, 0)]) R) : GN b E D A l R := by
  obtain ⟨n, h1⟩ := h1
  obtain ⟨k, h2⟩ := h2
  refine ⟨max n k + 1, ?_⟩
  unfold gAndL
  rw [h]
  dsimp only
  rw [gAtom_mono h1 (show n ≤ max n k + 1 by omega)]
  exact gAndL_mono (gAm (by omega)) h2 (by omega)
theorem GW.wrong {D A F : Nat} (h : GA b E D A (.inr F)) : GW b E D A (.inr F) := by
  obtain ⟨n, h⟩ := h
  exact ⟨n, by unfold gAll; rw [h]⟩
theorem GW.go {D A A1 : Nat} {l : zSs} {R : zRs} (h : GA b E D A (.inl (A1, l))) (h1 : GN b E D A1 l R) : GW b E D A R := by
  obtain ⟨n, h⟩ := h
  obtain ⟨k, h1⟩ := h1
  refine ⟨max n k, ?_⟩
  unfold gAll
  rw [gAtom_mono h (Nat.le_max_left n k)]
  exact gAndL_mono (gAm (Nat.le_max_right n k)) h1 (Nat.le_max_right n k)
theorem GO.stop {D A : Nat} {l : zSs} (h : tw b E wOr A = none) : GO b E D A l (.inl (A, l)) := ⟨1, by unfold gOrL; rw [h]⟩
theorem GO.wrong {D A A1 F : Nat} {l : zSs} (h : tw b E wOr A = some A1) (h1 : GW b E D A1 (.inr F)) : GO b E D A l (.inr F) := by
  obtain ⟨n, h1⟩ := h1
  exact ⟨n + 1, by unfold gOrL; rw [h]; dsimp only; rw [gAll_mono (gAm (Nat.le_succ n)) h1 (Nat.le_refl n)]⟩
theorem GO.step {D A A1 A2 : Nat} {l m : zSs} {R : zRs} (h : tw b E wOr A = some A1) (h1 : GW b E D A1 (.inl (A2, m))) (h2 : GO b E D A2 (l ++ m ++ [(14, 0)]) R) : GO b E D A l R := by
  obtain ⟨n, h1⟩ := h1
  obtain ⟨k, h2⟩ := h2
  refine ⟨max n k + 1, ?_⟩
  unfold gOrL
  rw [h]
  dsimp only
  rw [gAll_mono (gAm (show n ≤ max n k + 1 by omega)) h1 (show n ≤ max n k by omega)]
  exact gOrL_mono (gAm (by omega)) h2 (by omega)
theorem GC.nest0 {D A F : Nat} (h : GW b E D A (.inr F)) : GC b E D A (.inr F) := by
  obtain ⟨n, h⟩ := h
  obtain ⟨k, hk⟩ := gCnd_ok (f := gAtom b E n D) (n := n) (A := A) (R := .inr F) (by unfold gCnd; rw [h])
  exact ⟨max n k, gCond_mono (gAm (Nat.le_max_left n k)) hk (Nat.le_max_right n k)⟩
theorem GC.nest1 {D A A1 : Nat} {l : zSs} {R : zRs} (h : GW b E D A (.inl (A1, l))) (h1 : GO b E D A1 l R) : GC b E D A R := by
  obtain ⟨n, h⟩ := h
  obtain ⟨k, h1⟩ := h1
  obtain ⟨k', hk⟩ := gCnd_ok (f := gAtom b E (max n k) D) (n := max n k) (A := A) (R := R) (by
    unfold gCnd
    rw [gAll_mono (gAm (Nat.le_max_left n k)) h (Nat.le_max_left n k)]
    exact gOrL_mono (gAm (Nat.le_max_right n k)) h1 (Nat.le_max_right n k))
  exact ⟨max (max n k) k', gCond_mono (gAm (Nat.le_max_left _ _)) hk (Nat.le_max_right _ _)⟩
theorem GC.det {D A : Nat} {R R' : zRs} (h : GC b E D A R) (h' : GC b E D A R') : R = R' := by
  obtain ⟨n, h⟩ := h
  obtain ⟨k, h'⟩ := h'
  have h1 := gCond_mono (gAm (Nat.le_max_left n k)) h (Nat.le_max_left n k)
  have h2 := gCond_mono (gAm (Nat.le_max_right n k)) h' (Nat.le_max_right n k)
  rw [h1] at h2
  exact Option.some.inj h2
end GRE
