/-! THE GRAMMAR of a law's text as functions of places: b the byte at a place, E the text's length; A a place behind blanks; what is read: the place behind it and the steps, or the wrong place; none: the fuel was too small -/
abbrev zSs : Type := List (Nat × Nat)
abbrev zRs : Type := (Nat × zSs) ⊕ Nat
noncomputable def zWaB (b : Nat → Int) (E : Nat) (s : List Int) (A : Nat) : Bool := Nat.beq (zLt b E A) (A + s.length) && (List.range s.length).all (fun k => decide (b (A + k) = s.getD k 0))
theorem zWaB_iff {b : Nat → Int} {E : Nat} {s : List Int} {A : Nat} : zWaB b E s A = true ↔ zWa b E s A := by
  unfold zWaB zWa zWd
  rw [Bool.and_eq_true, List.all_eq_true]
  constructor
  · rintro ⟨h1, h2⟩
    exact ⟨Nat.eq_of_beq_eq_true h1, fun k hk => of_decide_eq_true (h2 k (List.mem_range.mpr hk))⟩
  · rintro ⟨h1, h2⟩
    exact ⟨by rw [h1]; exact Nat.beq_refl _, fun k hk => decide_eq_true (h2 k (List.mem_range.mp hk))⟩
noncomputable def tw (b : Nat → Int) (E : Nat) (s : List Int) (A : Nat) : Option Nat := bif zWaB b E s A then some (zBl b E (A + s.length)) else none
theorem tw_pos {b : Nat → Int} {E : Nat} {s : List Int} {A : Nat} (h : zWa b E s A) : tw b E s A = some (zBl b E (A + s.length)) := by
  unfold tw
  rw [zWaB_iff.mpr h]
  rfl
theorem tw_neg {b : Nat → Int} {E : Nat} {s : List Int} {A : Nat} (h : ¬ zWa b E s A) : tw b E s A = none := by
  unfold tw
  cases hb : zWaB b E s A with
  | true => exact absurd (zWaB_iff.mp hb) h
  | false => rfl
theorem tw_some {b : Nat → Int} {E : Nat} {s : List Int} {A A1 : Nat} (h : tw b E s A = some A1) : zWa b E s A := by
  unfold tw at h
  cases hb : zWaB b E s A with
  | true => exact zWaB_iff.mp hb
  | false => rw [hb] at h; cases h
noncomputable def ts (b : Nat → Int) (E : Nat) (c : Int) (A : Nat) : Option Nat := if A < E ∧ b A = c then some (zBl b E (A + 1)) else none
noncomputable def tn (b : Nat → Int) (E : Nat) (lo hi : Int) (A : Nat) : Option (Nat × Nat) := if 0 ≤ zNm b E lo hi A then some (zBl b E (zDe b E A), (zNm b E lo hi A).toNat) else none
noncomputable def wFamily : List Int := [102, 97, 109, 105, 108, 121]
noncomputable def wHour : List Int := [104, 111, 117, 114]
noncomputable def wHeat : List Int := [104, 101, 97, 116]
noncomputable def wDirt : List Int := [100, 105, 114, 116]
noncomputable def wQuarrel : List Int := [113, 117, 97, 114, 114, 101, 108]
noncomputable def wLeft : List Int := [108, 101, 102, 116]
noncomputable def wNight : List Int := [110, 105, 103, 104, 116]
noncomputable def wWished : List Int := [119, 105, 115, 104, 101, 100]
noncomputable def wNot : List Int := [110, 111, 116]
noncomputable def wAnd : List Int := [97, 110, 100]
noncomputable def wOr : List Int := [111, 114]
noncomputable def wIf : List Int := [105, 102]
noncomputable def wWarm : List Int := [119, 97, 114, 109]
noncomputable def wDust : List Int := [100, 117, 115, 116]
noncomputable def wFine : List Int := [102, 105, 110, 101]
/-- the first of these words: where it ends, which it is -/
noncomputable def tws (b : Nat → Int) (E A : Nat) : List (List Int) → Nat → Option (Nat × Nat)
  | [], _ => none
  | s :: r, c => match tw b E s A with
    | some A1 => some (A1, c)
    | none => tws b E A r (c + 1)
noncomputable def gPart (b : Nat → Int) (E A : Nat) : zRs := if A < E ∧ 48 ≤ b A ∧ b A ≤ 57 then (match tn b E 0 999 A with
    | some (A1, v) => .inl (A1, [(8, v)])
    | none => .inr A) else (match tws b E A [wFamily, wHour, wHeat, wDirt, wQuarrel, wLeft] 0 with
    | some (A1, c) => .inl (A1, [(c, 0)])
    | none => .inr A)
noncomputable def gSumL (b : Nat → Int) (E : Nat) : Nat → Nat → zSs → Option zRs
  | 0, _, _ => none
  | n + 1, A, l => match ts b E 43 A with
    | none => some (.inl (A, l))
    | some A1 => (match gPart b E A1 with
      | .inr F => some (.inr F)
      | .inl (A2, m) => gSumL b E n A2 (l ++ m ++ [(9, 0)]))
noncomputable def gSum (b : Nat → Int) (E n A : Nat) : Option zRs := match gPart b E A with
  | .inr F => some (.inr F)
  | .inl (A1, l) => gSumL b E n A1 l
noncomputable def gLoop (b : Nat → Int) (E : Nat) (f : Nat → Option zRs) : Nat → Nat → Bool → zSs → Option zRs
  | 0, _, _, _ => none
  | n + 1, A, w, l => match tw b E wAnd A with
    | some A1 => (match f A1 with
      | none => none
      | some (.inr F) => some (.inr F)
      | some (.inl (A2, m)) => gLoop b E f n A2 w (l ++ m ++ [(13, 0)]))
    | none => (match tw b E wOr A with
      | some A1 => (match f A1 with
        | none => none
        | some (.inr F) => some (.inr F)
        | some (.inl (A2, m)) => gLoop b E f n A2 true ((bif w then l ++ [(14, 0)] else l) ++ m))
      | none => some (.inl (A, bif w then l ++ [(14, 0)] else l)))
noncomputable def gCond (b : Nat → Int) (E : Nat) (f : Nat → Option zRs) (n A : Nat) : Option zRs := match f A with
  | none => none
  | some (.inr F) => some (.inr F)
  | some (.inl (A1, l)) => gLoop b E f n A1 false l
/-- night, wished, or two sums compared -/
noncomputable def gBase (b : Nat → Int) (E n A : Nat) : Option zRs := match tw b E wNight A with
  | some A1 => some (.inl (A1, [(6, 0)]))
  | none => (match tw b E wWished A with
    | some A1 => some (.inl (A1, [(7, 0)]))
    | none => (match gSum b E n A with
      | none => none
      | some (.inr F) => some (.inr F)
      | some (.inl (A1, l)) => (match ts b E 60 A1 with
        | some A2 => (match gSum b E n A2 with
          | none => none
          | some (.inr F) => some (.inr F)
          | some (.inl (A3, m)) => some (.inl (A3, l ++ m ++ [(10, 0)])))
        | none => (match ts b E 62 A1 with
          | some A2 => (match gSum b E n A2 with
            | none => none
            | some (.inr F) => some (.inr F)
            | some (.inl (A3, m)) => some (.inl (A3, l ++ m ++ [(11, 0)])))
          | none => some (.inr A1)))))
noncomputable def gAtom (b : Nat → Int) (E : Nat) : Nat → Nat → Nat → Option zRs
  | 0, _, _ => none
  | n + 1, D, A => match ts b E 40 A with
    | some A1 => if D = 6 then some (.inr A) else (match gCond b E (gAtom b E n (D + 1)) n A1 with
      | none => none
      | some (.inr F) => some (.inr F)
      | some (.inl (A2, l)) => (match ts b E 41 A2 with
        | some A3 => some (.inl (A3, l))
        | none => some (.inr A2)))
    | none => (match tw b E wNot A with
      | some A1 => if D = 6 then some (.inr A) else (match gAtom b E n (D + 1) A1 with
        | none => none
        | some (.inr F) => some (.inr F)
        | some (.inl (A2, l)) => some (.inl (A2, l ++ [(12, 0)])))
      | none => gBase b E n A)
/-! more fuel changes nothing -/
section GMO
variable {b : Nat → Int} {E : Nat}
theorem gSumL_mono {R : zRs} : ∀ {n m A : Nat} {l : zSs}, gSumL b E n A l = some R → n ≤ m → gSumL b E m A l = some R
  | 0, _, _, _, h, _ => by cases h
  | n + 1, 0, _, _, _, hm => by omega
  | n + 1, m + 1, A, l, h, hm => by
    unfold gSumL at h ⊢
    cases h1 : ts b E 43 A with
    | none => rw [h1] at h; exact h
    | some A1 =>
      rw [h1] at h
      dsimp only at h ⊢
      cases h2 : gPart b E A1 with
      | inr F => rw [h2] at h; exact h
      | inl q => rw [h2] at h; exact gSumL_mono h (by omega)
theorem gSum_mono {R : zRs} {n m A : Nat} (h : gSum b E n A = some R) (hm : n ≤ m) : gSum b E m A = some R := by
  unfold gSum at h ⊢
  cases h2 : gPart b E A with
  | inr F => rw [h2] at h; exact h
  | inl q => rw [h2] at h; exact gSumL_mono h hm
theorem gLoop_mono {f g : Nat → Option zRs} (hf : ∀ A R, f A = some R → g A = some R) {R : zRs} : ∀ {n m A : Nat} {w : Bool} {l : zSs}, gLoop b E f n A w l = some R → n ≤ m → gLoop b E g m A w l = some R
  | 0, _, _, _, _, h, _ => by cases h
  | n + 1, 0, _, _, _, _, hm => by omega
  | n + 1, m + 1, A, w, l, h, hm => by
    unfold gLoop at h ⊢
    cases h1 : tw b E wAnd A with
    | some A1 =>
      rw [h1] at h
      dsimp only at h ⊢
      cases h2 : f A1 with
      | none => rw [h2] at h; cases h
      | some q =>
        rw [h2] at h
        rw [hf _ _ h2]
        cases q with
        | inr F => exact h
        | inl q => exact gLoop_mono hf h (by omega)
    | none =>
      rw [h1] at h
      dsimp only at h ⊢
      cases h3 : tw b E wOr A with
      | none => rw [h3] at h; exact h
      | some A1 =>
        rw [h3] at h
        dsimp only at h ⊢
        cases h2 : f A1 with
        | none => rw [h2] at h; cases h
        | some q =>
          rw [h2] at h
          rw [hf _ _ h2]
          cases q with
          | inr F => exact h
          | inl q => exact gLoop_mono hf h (by omega)
theorem gCond_mono {f g : Nat → Option zRs} (hf : ∀ A R, f A = some R → g A = some R) {R : zRs} {n m A : Nat} (h : gCond b E f n A = some R) (hm : n ≤ m) : gCond b E g m A = some R := by
  unfold gCond at h ⊢
  cases h2 : f A with
  | none => rw [h2] at h; cases h
  | some q =>
    rw [h2] at h
    rw [hf _ _ h2]
    cases q with
    | inr F => exact h
    | inl q => exact gLoop_mono hf h hm
theorem gBase_mono {R : zRs} {n m A : Nat} (h : gBase b E n A = some R) (hm : n ≤ m) : gBase b E m A = some R := by
  unfold gBase at h ⊢
  cases h1 : tw b E wNight A with
  | some A1 => rw [h1] at h; exact h
  | none =>
  rw [h1] at h
  dsimp only at h ⊢
  cases h2 : tw b E wWished A with
  | some A1 => rw [h2] at h; exact h
  | none =>
  rw [h2] at h
  dsimp only at h ⊢
  cases h3 : gSum b E n A with
  | none => rw [h3] at h; cases h
  | some q =>
  rw [h3] at h
  rw [gSum_mono h3 hm]
  cases q with
  | inr F => exact h
  | inl q =>
  obtain ⟨A1, l⟩ := q
  dsimp only at h ⊢
  cases h4 : ts b E 60 A1 with
  | some A2 =>
    rw [h4] at h
    dsimp only at h ⊢
    cases h5 : gSum b E n A2 with
    | none => rw [h5] at h; cases h
    | some q => rw [h5] at h; rw [gSum_mono h5 hm]; exact h
  | none =>
    rw [h4] at h
    dsimp only at h ⊢
    cases h6 : ts b E 62 A1 with
    | none => rw [h6] at h; exact h
    | some A2 =>
      rw [h6] at h
      dsimp only at h ⊢
      cases h5 : gSum b E n A2 with
      | none => rw [h5] at h; cases h
      | some q => rw [h5] at h; rw [gSum_mono h5 hm]; exact h
theorem gAtom_mono {R : zRs} : ∀ {n m D A : Nat}, gAtom b E n D A = some R → n ≤ m → gAtom b E m D A = some R
  | 0, _, _, _, h, _ => by cases h
  | n + 1, 0, _, _, _, hm => by omega
  | n + 1, m + 1, D, A, h, hm => by
    unfold gAtom at h ⊢
    cases h1 : ts b E 40 A with
    | some A1 =>
      rw [h1] at h
      dsimp only at h ⊢
      by_cases hD : D = 6
      · rw [if_pos hD] at h ⊢; exact h
      rw [if_neg hD] at h ⊢
      cases h2 : gCond b E (gAtom b E n (D + 1)) n A1 with
      | none => rw [h2] at h; cases h
      | some q =>
        rw [h2] at h
        rw [gCond_mono (g := gAtom b E m (D + 1)) (fun A R h => gAtom_mono h (by omega)) h2 (by omega)]
        exact h
    | none =>
      rw [h1] at h
      dsimp only at h ⊢
      cases h3 : tw b E wNot A with
      | none => rw [h3] at h; exact gBase_mono h (by omega)
      | some A1 =>
        rw [h3] at h
        dsimp only at h ⊢
        by_cases hD : D = 6
        · rw [if_pos hD] at h ⊢; exact h
        rw [if_neg hD] at h ⊢
        cases h2 : gAtom b E n (D + 1) A1 with
        | none => rw [h2] at h; cases h
        | some q =>
          rw [h2] at h
          rw [gAtom_mono h2 (by omega)]
          exact h
/-! and-loops within or-loops, as the reference reads: the same -/
noncomputable def gAndL (b : Nat → Int) (E : Nat) (f : Nat → Option zRs) : Nat → Nat → zSs → Option zRs
  | 0, _, _ => none
  | n + 1, A, l => match tw b E wAnd A with
    | some A1 => (match f A1 with
      | none => none
      | some (.inr F) => some (.inr F)
      | some (.inl (A2, m)) => gAndL b E f n A2 (l ++ m ++ [(13, 0)]))
    | none => some (.inl (A, l))
noncomputable def gAll (b : Nat → Int) (E : Nat) (f : Nat → Option zRs) (n A : Nat) : Option zRs := match f A with
  | none => none
  | some (.inr F) => some (.inr F)
  | some (.inl (A1, l)) => gAndL b E f n A1 l
theorem gAndL_ok {f : Nat → Option zRs} {w : Bool} {p : zSs} : ∀ {n A : Nat} {l : zSs} {R : zRs}, gAndL b E f n A l = some R → (∀ F, R = .inr F → ∃ k, gLoop b E f k A w (p ++ l) = some (.inr F)) ∧ ∀ A' l', R = .inl (A', l') → tw b E wAnd A' = none ∧ ∀ k R', gLoop b E f k A' w (p ++ l') = some R' → ∃ k', gLoop b E f k' A w (p ++ l) = some R'
  | 0, _, _, _, h => by cases h
  | n + 1, A, l, R, h => by
    unfold gAndL at h
    cases h1 : tw b E wAnd A with
    | none =>
      rw [h1] at h
      cases h
      refine ⟨fun F q => (by cases q), fun A' l' q => ?_⟩
      cases q
      exact ⟨h1, fun k R' hk => ⟨k, hk⟩⟩
    | some A1 =>
      rw [h1] at h
      dsimp only at h
      cases h2 : f A1 with
      | none => rw [h2] at h; cases h
      | some q =>
        rw [h2] at h
        cases q with
        | inr F =>
          cases h
          refine ⟨fun F q => ⟨1, ?_⟩, fun A' l' q => (by cases q)⟩
          cases q
          unfold gLoop
          rw [h1]
          dsimp only
          rw [h2]
        | inl q =>
          obtain ⟨A2, m⟩ := q
          obtain ⟨i1, i2⟩ := gAndL_ok (w := w) (p := p) h
          have st : ∀ k R', gLoop b E f k A2 w (p ++ (l ++ m ++ [(13, 0)])) = some R' → gLoop b E f (k + 1) A w (p ++ l) = some R' := by
            intro k R' hk
            unfold gLoop
            rw [h1]
            dsimp only
            rw [h2]
            dsimp only
            rw [show p ++ l ++ m ++ [(13, 0)] = p ++ (l ++ m ++ [(13, 0)]) by simp only [List.append_assoc]]
            exact hk
          refine ⟨fun F q => ?_, fun A' l' q => ⟨(i2 A' l' q).1, fun k R' hk => ?_⟩⟩
          · obtain ⟨k, hk⟩ := i1 F q
            exact ⟨_, st k _ hk⟩
          · obtain ⟨k', hk'⟩ := (i2 A' l' q).2 k R' hk
            exact ⟨_, st k' _ hk'⟩
noncomputable def gOrL (b : Nat → Int) (E : Nat) (f : Nat → Option zRs) : Nat → Nat → zSs → Option zRs
  | 0, _, _ => none
  | n + 1, A, l => match tw b E wOr A with
    | some A1 => (match gAll b E f n A1 with
      | none => none
      | some (.inr F) => some (.inr F)
      | some (.inl (A2, m)) => gOrL b E f n A2 (l ++ m ++ [(14, 0)]))
    | none => some (.inl (A, l))
/-- behind an all-of: the flat loop goes on -/
theorem gOrL_ok {f : Nat → Option zRs} : ∀ {n A : Nat} {l : zSs} {w : Bool} {R : zRs}, gOrL b E f n A (bif w then l ++ [(14, 0)] else l) = some R → tw b E wAnd A = none → ∃ k, gLoop b E f k A w l = some R
  | 0, _, _, _, _, h, _ => by cases h
  | n + 1, A, l, w, R, h, ha => by
    unfold gOrL at h
    cases h1 : tw b E wOr A with
    | none =>
      rw [h1] at h
      refine ⟨1, ?_⟩
      unfold gLoop
      rw [ha]
      dsimp only
      rw [h1]
      exact h
    | some A1 =>
      rw [h1] at h
      dsimp only at h
      cases h2 : gAll b E f n A1 with
      | none => rw [h2] at h; cases h
      | some q =>
        rw [h2] at h
        unfold gAll at h2
        cases h3 : f A1 with
        | none => rw [h3] at h2; cases h2
        | some q3 =>
        rw [h3] at h2
        have st : ∀ (A2 : Nat) (m : zSs) k R', f A1 = some (.inl (A2, m)) → gLoop b E f k A2 true ((bif w then l ++ [(14, 0)] else l) ++ m) = some R' → gLoop b E f (k + 1) A w l = some R' := by
          intro A2 m k R' hf hk
          unfold gLoop
          rw [ha]
          dsimp only
          rw [h1]
          dsimp only
          rw [hf]
          exact hk
        cases q3 with
        | inr F =>
          cases h2
          cases h
          refine ⟨1, ?_⟩
          unfold gLoop
          rw [ha]
          dsimp only
          rw [h1]
          dsimp only
          rw [h3]
        | inl q3 =>
          obtain ⟨A2, m⟩ := q3
          dsimp only at h2
          obtain ⟨i1, i2⟩ := gAndL_ok (w := true) (p := bif w then l ++ [(14, 0)] else l) h2
          cases q with
          | inr F =>
            cases h
            obtain ⟨k, hk⟩ := i1 F rfl
            exact ⟨_, st A2 m k _ h3 hk⟩
          | inl q =>
            obtain ⟨A3, m3⟩ := q
            dsimp only at h
            obtain ⟨j1, j2⟩ := i2 A3 m3 rfl
            have h9 : gOrL b E f n A3 (bif true then ((bif w then l ++ [(14, 0)] else l) ++ m3) ++ [(14, 0)] else ((bif w then l ++ [(14, 0)] else l) ++ m3)) = some R := h
            obtain ⟨k, hk⟩ := gOrL_ok h9 j1
            obtain ⟨k', hk'⟩ := j2 k R hk
            exact ⟨_, st A2 m k' _ h3 hk'⟩
noncomputable def gCnd (b : Nat → Int) (E : Nat) (f : Nat → Option zRs) (n A : Nat) : Option zRs := match gAll b E f n A with
  | none => none
  | some (.inr F) => some (.inr F)
  | some (.inl (A1, l)) => gOrL b E f n A1 l
theorem gCnd_ok {f : Nat → Option zRs} {n A : Nat} {R : zRs} (h : gCnd b E f n A = some R) : ∃ k, gCond b E f k A = some R := by
  unfold gCnd at h
  cases h1 : gAll b E f n A with
  | none => rw [h1] at h; cases h
  | some q =>
    rw [h1] at h
    unfold gAll at h1
    cases h2 : f A with
    | none => rw [h2] at h1; cases h1
    | some q2 =>
      rw [h2] at h1
      cases q2 with
      | inr F =>
        cases h1
        cases h
        refine ⟨0, ?_⟩
        unfold gCond
        rw [h2]
      | inl q2 =>
        obtain ⟨A1, l⟩ := q2
        dsimp only at h1
        obtain ⟨i1, i2⟩ := gAndL_ok (w := false) (p := []) h1
        cases q with
        | inr F =>
          cases h
          obtain ⟨k, hk⟩ := i1 F rfl
          refine ⟨k, ?_⟩
          unfold gCond
          rw [h2]
          exact hk
        | inl q =>
          obtain ⟨A3, m3⟩ := q
          dsimp only at h
          obtain ⟨j1, j2⟩ := i2 A3 m3 rfl
          obtain ⟨k, hk⟩ := gOrL_ok (w := false) h j1
          obtain ⟨k', hk'⟩ := j2 k R hk
          refine ⟨k', ?_⟩
          unfold gCond
          rw [h2]
          exact hk'
end GMO
