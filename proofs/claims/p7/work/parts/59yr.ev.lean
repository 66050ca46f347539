/-! A LAW'S EVALUATION, pure: steps (0 to 7 what is seen, 8 a number, 9 plus, 10 less, 11 more, 12 not, 13 and, 14 or) over a stack; typed (true: 0 or 1), at most 32 deep; what the grammar reads is typed -/
noncomputable def eV (fa : Nat → Int32) (x : Nat × Nat) : Int32 := if x.1 = 8 then Int32.ofNat x.2 else fa x.1
noncomputable def eJ (k : Nat) (a b : Int32) : Int32 := if k = 9 then a + b else if k = 10 then (if a < b then Int32.ofInt 1 else Int32.ofInt 0) else if k = 11 then (if b < a then Int32.ofInt 1 else Int32.ofInt 0) else if k = 13 then a &&& b else a ||| b
noncomputable def eS (fa : Nat → Int32) (x : Nat × Nat) : List Int32 → List Int32
  | [] => [eV fa x]
  | a :: r => if x.1 ≤ 8 then eV fa x :: a :: r else if x.1 = 12 then (Int32.ofInt 1 - a) :: r else (match r with
    | [] => [a]
    | b :: q => eJ x.1 b a :: q)
noncomputable def eT (x : Nat × Nat) (s : List Bool) : Option (List Bool) :=
  if x.1 ≤ 8 then (if s.length < 32 ∧ x.2 ≤ 999 then some ((decide (x.1 = 6) || decide (x.1 = 7)) :: s) else none) else (match s with
    | [] => none
    | a :: r => if x.1 = 12 then (if a = true then some (true :: r) else none) else (match r with
      | [] => none
      | b :: q => if x.1 = 9 then (if a = false ∧ b = false then some (false :: q) else none) else if x.1 = 10 ∨ x.1 = 11 then (if a = false ∧ b = false then some (true :: q) else none) else if x.1 = 13 ∨ x.1 = 14 then (if a = true ∧ b = true then some (true :: q) else none) else none))
/-- from place i on, n steps -/
noncomputable def eRn (fa : Nat → Int32) (l : zSs) : Nat → Nat → List Int32 → List Int32
  | 0, _, v => v
  | n + 1, i, v => match l[i]? with
    | some x => eRn fa l n (i + 1) (eS fa x v)
    | none => v
noncomputable def eTn (l : zSs) : Nat → Nat → List Bool → Option (List Bool)
  | 0, _, s => some s
  | n + 1, i, s => match l[i]? with
    | some x => (match eT x s with
      | some s' => eTn l n (i + 1) s'
      | none => none)
    | none => none
noncomputable def eTs : zSs → List Bool → Option (List Bool)
  | [], s => some s
  | x :: l, s => match eT x s with
    | some s' => eTs l s'
    | none => none
noncomputable def eK : List Bool → List Int32 → Prop
  | [], [] => True
  | t :: s, a :: v => (t = true → a = Int32.ofInt 0 ∨ a = Int32.ofInt 1) ∧ eK s v
  | _, _ => False
theorem eK.len : ∀ {s : List Bool} {v : List Int32}, eK s v → s.length = v.length
  | [], [], _ => rfl
  | _ :: s, _ :: v, h => congrArg (· + 1) (eK.len h.2)
  | [], _ :: _, h => h.elim
  | _ :: _, [], h => h.elim
noncomputable def eF (fa : Nat → Int32) : Prop := (fa 6 = Int32.ofInt 0 ∨ fa 6 = Int32.ofInt 1) ∧ (fa 7 = Int32.ofInt 0 ∨ fa 7 = Int32.ofInt 1)
theorem eS_push {fa : Nat → Int32} {x : Nat × Nat} (h : x.1 ≤ 8) : ∀ v, eS fa x v = eV fa x :: v
  | [] => rfl
  | a :: r => by show (if x.1 ≤ 8 then _ else _) = _; rw [if_pos h]
theorem eT_push {x : Nat × Nat} {s s' : List Bool} (h : x.1 ≤ 8) (e : eT x s = some s') : s.length < 32 ∧ x.2 ≤ 999 ∧ s' = (decide (x.1 = 6) || decide (x.1 = 7)) :: s := by
  unfold eT at e
  rw [if_pos h] at e
  by_cases g : s.length < 32 ∧ x.2 ≤ 999
  · rw [if_pos g] at e
    exact ⟨g.1, g.2, (Option.some.inj e).symm⟩
  · rw [if_neg g] at e; cases e
theorem eT_not {x : Nat × Nat} {s s' : List Bool} (h : x.1 = 12) (e : eT x s = some s') : ∃ r, s = true :: r ∧ s' = true :: r := by
  unfold eT at e
  rw [if_neg (by omega)] at e
  cases s with
  | nil => cases e
  | cons a r =>
    dsimp only at e
    rw [if_pos h] at e
    cases a
    · rw [if_neg (by decide)] at e; cases e
    · rw [if_pos rfl] at e
      exact ⟨r, rfl, (Option.some.inj e).symm⟩
theorem eT_join {x : Nat × Nat} {s s' : List Bool} (h : ¬ x.1 ≤ 8) (h2 : x.1 ≠ 12) (e : eT x s = some s') : ∃ q, (x.1 = 9 ∧ s = false :: false :: q ∧ s' = false :: q) ∨ ((x.1 = 10 ∨ x.1 = 11) ∧ s = false :: false :: q ∧ s' = true :: q) ∨ ((x.1 = 13 ∨ x.1 = 14) ∧ s = true :: true :: q ∧ s' = true :: q) := by
  unfold eT at e
  rw [if_neg h] at e
  cases s with
  | nil => cases e
  | cons a r =>
    dsimp only at e
    rw [if_neg h2] at e
    cases r with
    | nil => cases e
    | cons b q =>
      dsimp only at e
      by_cases c1 : x.1 = 9
      · rw [if_pos c1] at e
        by_cases c : a = false ∧ b = false
        · rw [if_pos c] at e
          exact ⟨q, Or.inl ⟨c1, by rw [c.1, c.2], (Option.some.inj e).symm⟩⟩
        · rw [if_neg c] at e; cases e
      rw [if_neg c1] at e
      by_cases c2 : x.1 = 10 ∨ x.1 = 11
      · rw [if_pos c2] at e
        by_cases c : a = false ∧ b = false
        · rw [if_pos c] at e
          exact ⟨q, Or.inr (Or.inl ⟨c2, by rw [c.1, c.2], (Option.some.inj e).symm⟩)⟩
        · rw [if_neg c] at e; cases e
      rw [if_neg c2] at e
      by_cases c3 : x.1 = 13 ∨ x.1 = 14
      · rw [if_pos c3] at e
        by_cases c : a = true ∧ b = true
        · rw [if_pos c] at e
          exact ⟨q, Or.inr (Or.inr ⟨c3, by rw [c.1, c.2], (Option.some.inj e).symm⟩)⟩
        · rw [if_neg c] at e; cases e
      rw [if_neg c3] at e
      cases e
theorem eK.step {fa : Nat → Int32} (hf : eF fa) {x : Nat × Nat} {s s' : List Bool} {v : List Int32} (k : eK s v) (e : eT x s = some s') : eK s' (eS fa x v) := by
  by_cases h8 : x.1 ≤ 8
  · obtain ⟨-, -, rfl⟩ := eT_push h8 e
    rw [eS_push h8]
    refine ⟨fun q => ?_, k⟩
    rw [Bool.or_eq_true, decide_eq_true_eq, decide_eq_true_eq] at q
    unfold eV
    rw [if_neg (by omega)]
    rcases q with q | q <;> rw [q]
    · exact hf.1
    · exact hf.2
  by_cases h12 : x.1 = 12
  · obtain ⟨r, rfl, rfl⟩ := eT_not h12 e
    cases v with
    | nil => exact k.elim
    | cons a v =>
      show eK (true :: r) (if x.1 ≤ 8 then _ else if x.1 = 12 then _ else _)
      rw [if_neg h8, if_pos h12]
      refine ⟨fun _ => ?_, k.2⟩
      rcases k.1 rfl with rfl | rfl
      · exact Or.inr (by decide)
      · exact Or.inl (by decide)
  obtain ⟨q, hq⟩ := eT_join h8 h12 e
  have two : ∃ t1 t2 t3, s = t1 :: t2 :: q ∧ s' = t3 :: q := by
    rcases hq with ⟨-, a, b⟩ | ⟨-, a, b⟩ | ⟨-, a, b⟩ <;> exact ⟨_, _, _, a, b⟩
  obtain ⟨t1, t2, t3, rfl, rfl⟩ := two
  match v, k with
  | a :: b :: v, k =>
    show eK (t3 :: q) (if x.1 ≤ 8 then _ else if x.1 = 12 then _ else _)
    rw [if_neg h8, if_neg h12]
    refine ⟨fun ht => ?_, k.2.2⟩
    rcases hq with ⟨-, a1, b1⟩ | ⟨c, a1, b1⟩ | ⟨c, a1, b1⟩
    · cases b1; cases ht
    · unfold eJ
      rcases c with c | c
      · rw [if_neg (by omega), if_pos c]
        by_cases g : b < a
        · rw [if_pos g]; exact Or.inr rfl
        · rw [if_neg g]; exact Or.inl rfl
      · rw [if_neg (by omega), if_neg (by omega), if_pos c]
        by_cases g : a < b
        · rw [if_pos g]; exact Or.inr rfl
        · rw [if_neg g]; exact Or.inl rfl
    · cases a1
      unfold eJ
      rw [if_neg (by omega), if_neg (by omega), if_neg (by omega)]
      have ha := k.1 rfl
      have hb := k.2.1 rfl
      rcases c with c | c
      · rw [if_pos c]
        rcases ha with rfl | rfl <;> rcases hb with rfl | rfl <;> decide
      · rw [if_neg (by omega)]
        rcases ha with rfl | rfl <;> rcases hb with rfl | rfl <;> decide
/-! lists of steps -/
theorem eTs_app : ∀ (l m : zSs) (s : List Bool), eTs (l ++ m) s = (match eTs l s with | some s' => eTs m s' | none => none)
  | [], _, _ => rfl
  | x :: l, m, s => by
    show (match eT x s with | some s' => eTs (l ++ m) s' | none => none) = (match (match eT x s with | some s' => eTs l s' | none => none) with | some s' => eTs m s' | none => none)
    cases eT x s with
    | none => rfl
    | some s' => exact eTs_app l m s'
theorem eTs_ap {l m : zSs} {s s' : List Bool} (h : eTs l s = some s') : eTs (l ++ m) s = eTs m s' := by rw [eTs_app, h]
theorem eTs_1 {x : Nat × Nat} {s : List Bool} : eTs [x] s = eT x s := by
  show (match eT x s with | some s' => some s' | none => none) = _
  cases eT x s <;> rfl
theorem tws_lt {b : Nat → Int} {E A A1 c : Nat} : ∀ (ws : List (List Int)) (c0 : Nat), tws b E A ws c0 = some (A1, c) → c < c0 + ws.length
  | [], _, h => by cases h
  | w :: ws, c0, h => by
    unfold tws at h
    cases h1 : tw b E w A with
    | some A2 =>
      rw [h1] at h
      injection h with h
      injection h with h h'
      subst h'
      show c0 < c0 + (ws.length + 1)
      omega
    | none =>
      rw [h1] at h
      have := tws_lt ws (c0 + 1) h
      show c < c0 + (ws.length + 1)
      omega
theorem gPart_ty {b : Nat → Int} {E A A1 : Nat} {l : zSs} (h : gPart b E A = .inl (A1, l)) {s : List Bool} (hs : s.length + 1 ≤ 32) : eTs l s = some (false :: s) := by
  unfold gPart at h
  by_cases c : A < E ∧ 48 ≤ b A ∧ b A ≤ 57
  · rw [if_pos c] at h
    cases h1 : tn b E 0 999 A with
    | none => rw [h1] at h; cases h
    | some q =>
      obtain ⟨A2, v⟩ := q
      rw [h1] at h
      injection h with h
      injection h with h h'
      subst h'
      have := tn_rg h1
      rw [eTs_1]
      unfold eT
      rw [if_pos (by show 8 ≤ 8; omega), if_pos (by show s.length < 32 ∧ v ≤ 999; omega)]
      rfl
  · rw [if_neg c] at h
    cases h1 : tws b E A [wFamily, wHour, wHeat, wDirt, wQuarrel, wLeft] 0 with
    | none => rw [h1] at h; cases h
    | some q =>
      obtain ⟨A2, k⟩ := q
      rw [h1] at h
      injection h with h
      injection h with h h'
      subst h'
      have hk := tws_lt _ _ h1
      have hk : k < 6 := by simpa using hk
      rw [eTs_1]
      unfold eT
      rw [if_pos (by show k ≤ 8; omega), if_pos (by show s.length < 32 ∧ 0 ≤ 999; omega)]
      show some ((decide (k = 6) || decide (k = 7)) :: s) = _
      rw [decide_eq_false (by omega), decide_eq_false (by omega)]
      rfl
theorem gSumL_ty {b : Nat → Int} {E : Nat} {s : List Bool} (hs : s.length + 2 ≤ 32) : ∀ {n A A1 : Nat} {l l' : zSs}, gSumL b E n A l = some (.inl (A1, l')) → eTs l s = some (false :: s) → eTs l' s = some (false :: s)
  | 0, _, _, _, _, h, _ => by cases h
  | n + 1, A, A1, l, l', h, hl => by
    unfold gSumL at h
    cases h1 : ts b E 43 A with
    | none =>
      rw [h1] at h
      injection h with h
      injection h with h
      injection h with h h'
      rw [← h']; exact hl
    | some A2 =>
      rw [h1] at h
      dsimp only at h
      cases h2 : gPart b E A2 with
      | inr F => rw [h2] at h; injection h with h; cases h
      | inl q =>
        obtain ⟨A3, m⟩ := q
        rw [h2] at h
        refine gSumL_ty hs h ?_
        rw [eTs_ap (show eTs (l ++ m) s = some (false :: false :: s) by rw [eTs_ap hl]; exact gPart_ty h2 (by show s.length + 1 + 1 ≤ 32; omega)), eTs_1]
        rfl
theorem gSum_ty {b : Nat → Int} {E : Nat} {s : List Bool} (hs : s.length + 2 ≤ 32) {n A A1 : Nat} {l : zSs} (h : gSum b E n A = some (.inl (A1, l))) : eTs l s = some (false :: s) := by
  unfold gSum at h
  cases h2 : gPart b E A with
  | inr F => rw [h2] at h; injection h with h; cases h
  | inl q =>
    obtain ⟨A3, m⟩ := q
    rw [h2] at h
    exact gSumL_ty hs h (gPart_ty h2 (by omega))
theorem gBase_ty {b : Nat → Int} {E : Nat} {s : List Bool} (hs : s.length + 3 ≤ 32) {n A A1 : Nat} {l : zSs} (h : gBase b E n A = some (.inl (A1, l))) : eTs l s = some (true :: s) := by
  have tg : ∀ k, k = 6 ∨ k = 7 → eTs [(k, 0)] s = some (true :: s) := by
    intro k hk
    rw [eTs_1]
    unfold eT
    rw [if_pos (by show k ≤ 8; omega), if_pos (by show s.length < 32 ∧ 0 ≤ 999; omega)]
    rcases hk with rfl | rfl <;> rfl
  have cm : ∀ {A2 A3 A4 : Nat} {l1 m : zSs} {k : Nat}, k = 10 ∨ k = 11 → gSum b E n A = some (.inl (A2, l1)) → gSum b E n A3 = some (.inl (A4, m)) → eTs (l1 ++ m ++ [(k, 0)]) s = some (true :: s) := by
    intro A2 A3 A4 l1 m k hk g1 g2
    rw [eTs_ap (show eTs (l1 ++ m) s = some (false :: false :: s) by rw [eTs_ap (gSum_ty (by omega) g1)]; exact gSum_ty (by show s.length + 1 + 2 ≤ 32; omega) g2), eTs_1]
    rcases hk with rfl | rfl <;> rfl
  unfold gBase at h
  cases h1 : tw b E wNight A with
  | some A2 =>
    rw [h1] at h
    injection h with h
    injection h with h
    injection h with h h'
    rw [← h']; exact tg 6 (Or.inl rfl)
  | none =>
  rw [h1] at h
  dsimp only at h
  cases h2 : tw b E wWished A with
  | some A2 =>
    rw [h2] at h
    injection h with h
    injection h with h
    injection h with h h'
    rw [← h']; exact tg 7 (Or.inr rfl)
  | none =>
  rw [h2] at h
  dsimp only at h
  cases h3 : gSum b E n A with
  | none => rw [h3] at h; cases h
  | some q =>
  rw [h3] at h
  cases q with
  | inr F => injection h with h; cases h
  | inl q =>
  obtain ⟨A2, l1⟩ := q
  dsimp only at h
  cases h4 : ts b E 60 A2 with
  | some A3 =>
    rw [h4] at h
    dsimp only at h
    cases h5 : gSum b E n A3 with
    | none => rw [h5] at h; cases h
    | some q =>
    rw [h5] at h
    cases q with
    | inr F => injection h with h; cases h
    | inl q =>
    obtain ⟨A4, m⟩ := q
    injection h with h
    injection h with h
    injection h with h h'
    rw [← h']; exact cm (Or.inl rfl) h3 h5
  | none =>
  rw [h4] at h
  dsimp only at h
  cases h6 : ts b E 62 A2 with
  | none => rw [h6] at h; injection h with h; cases h
  | some A3 =>
    rw [h6] at h
    dsimp only at h
    cases h5 : gSum b E n A3 with
    | none => rw [h5] at h; cases h
    | some q =>
    rw [h5] at h
    cases q with
    | inr F => injection h with h; cases h
    | inl q =>
    obtain ⟨A4, m⟩ := q
    injection h with h
    injection h with h
    injection h with h h'
    rw [← h']; exact cm (Or.inr rfl) h3 h5
theorem gLoop_ty {b : Nat → Int} {E N : Nat} {f : Nat → Option zRs} (hf : ∀ A A1 l, f A = some (.inl (A1, l)) → ∀ s : List Bool, s.length + N ≤ 32 → eTs l s = some (true :: s)) {s : List Bool} (hs : s.length + N + 2 ≤ 32) : ∀ {n A A1 : Nat} {w : Bool} {l l' : zSs}, gLoop b E f n A w l = some (.inl (A1, l')) → eTs l s = some (bif w then true :: true :: s else true :: s) → eTs l' s = some (true :: s)
  | 0, _, _, _, _, _, h, _ => by cases h
  | n + 1, A, A1, w, l, l', h, hl => by
    have fin : eTs (bif w then l ++ [(14, 0)] else l) s = some (true :: s) := by
      cases w
      · exact hl
      · show eTs (l ++ [(14, 0)]) s = _
        rw [eTs_ap hl, eTs_1]; rfl
    unfold gLoop at h
    cases h1 : tw b E wAnd A with
    | some A2 =>
      rw [h1] at h
      dsimp only at h
      cases h2 : f A2 with
      | none => rw [h2] at h; cases h
      | some q =>
      rw [h2] at h
      cases q with
      | inr F => injection h with h; cases h
      | inl q =>
      obtain ⟨A3, m⟩ := q
      dsimp only at h
      refine gLoop_ty hf hs h ?_
      cases w
      · rw [eTs_ap (show eTs (l ++ m) s = some (true :: true :: s) by rw [eTs_ap hl]; exact hf _ _ _ h2 _ (by show s.length + 1 + N ≤ 32; omega)), eTs_1]; rfl
      · rw [eTs_ap (show eTs (l ++ m) s = some (true :: true :: true :: s) by rw [eTs_ap hl]; exact hf _ _ _ h2 _ (by show s.length + 1 + 1 + N ≤ 32; omega)), eTs_1]; rfl
    | none =>
      rw [h1] at h
      dsimp only at h
      cases h3 : tw b E wOr A with
      | none =>
        rw [h3] at h
        injection h with h
        injection h with h
        injection h with h h'
        rw [← h']; exact fin
      | some A2 =>
        rw [h3] at h
        dsimp only at h
        cases h2 : f A2 with
        | none => rw [h2] at h; cases h
        | some q =>
        rw [h2] at h
        cases q with
        | inr F => injection h with h; cases h
        | inl q =>
        obtain ⟨A3, m⟩ := q
        dsimp only at h
        refine gLoop_ty hf hs h ?_
        rw [eTs_ap fin]
        exact hf _ _ _ h2 _ (by show s.length + 1 + N ≤ 32; omega)
theorem gCond_ty {b : Nat → Int} {E N : Nat} {f : Nat → Option zRs} (hf : ∀ A A1 l, f A = some (.inl (A1, l)) → ∀ s : List Bool, s.length + N ≤ 32 → eTs l s = some (true :: s)) {s : List Bool} (hs : s.length + N + 2 ≤ 32) {n A A1 : Nat} {l : zSs} (h : gCond b E f n A = some (.inl (A1, l))) : eTs l s = some (true :: s) := by
  unfold gCond at h
  cases h2 : f A with
  | none => rw [h2] at h; cases h
  | some q =>
  rw [h2] at h
  cases q with
  | inr F => injection h with h; cases h
  | inl q =>
  obtain ⟨A3, m⟩ := q
  exact gLoop_ty hf hs h (hf _ _ _ h2 _ (by omega))
theorem gAtom_ty {b : Nat → Int} {E : Nat} : ∀ (n D A A1 : Nat) (l : zSs), D ≤ 6 → gAtom b E n D A = some (.inl (A1, l)) → ∀ s : List Bool, s.length + (15 - 2 * D) ≤ 32 → eTs l s = some (true :: s)
  | 0, _, _, _, _, _, h, _, _ => by cases h
  | n + 1, D, A, A1, l, hD, h, s, hs => by
    unfold gAtom at h
    cases h1 : ts b E 40 A with
    | some A2 =>
      rw [h1] at h
      dsimp only at h
      by_cases c : D = 6
      · rw [if_pos c] at h; injection h with h; cases h
      rw [if_neg c] at h
      cases h2 : gCond b E (gAtom b E n (D + 1)) n A2 with
      | none => rw [h2] at h; cases h
      | some q =>
      rw [h2] at h
      cases q with
      | inr F => injection h with h; cases h
      | inl q =>
      obtain ⟨A3, m⟩ := q
      dsimp only at h
      cases h3 : ts b E 41 A3 with
      | none => rw [h3] at h; injection h with h; cases h
      | some A4 =>
      rw [h3] at h
      injection h with h
      injection h with h
      injection h with h h'
      rw [← h']
      exact gCond_ty (N := 15 - 2 * (D + 1)) (fun A A1 l g s hs => gAtom_ty n (D + 1) A A1 l (by omega) g s hs) (by omega) h2
    | none =>
    rw [h1] at h
    dsimp only at h
    cases h4 : tw b E wNot A with
    | none =>
      rw [h4] at h
      exact gBase_ty (by omega) h
    | some A2 =>
    rw [h4] at h
    dsimp only at h
    by_cases c : D = 6
    · rw [if_pos c] at h; injection h with h; cases h
    rw [if_neg c] at h
    cases h2 : gAtom b E n (D + 1) A2 with
    | none => rw [h2] at h; cases h
    | some q =>
    rw [h2] at h
    cases q with
    | inr F => injection h with h; cases h
    | inl q =>
    obtain ⟨A3, m⟩ := q
    injection h with h
    injection h with h
    injection h with h h'
    rw [← h', eTs_ap (gAtom_ty n (D + 1) A2 A3 m (by omega) h2 s (by omega)), eTs_1]
    rfl
theorem gLine_ty {b : Nat → Int} {E n A A1 c v : Nat} {m : zSs} (h : gLine b E n A = some (.inl (A1, c, v, m))) : c ≤ 2 ∧ v ≤ 20 ∧ (m = [] ∨ eTs m [] = some [true]) := by
  unfold gLine at h
  cases h1 : tws b E A [wWarm, wDust, wFine] 0 with
  | none => rw [h1] at h; injection h with h; cases h
  | some q =>
  obtain ⟨A2, k⟩ := q
  have hk := tws_lt _ _ h1
  have hk : k < 3 := by simpa using hk
  rw [h1] at h
  dsimp only at h
  cases h2 : tn b E 0 20 A2 with
  | none => rw [h2] at h; injection h with h; cases h
  | some q =>
  obtain ⟨A3, v'⟩ := q
  have hv := tn_rg h2
  rw [h2] at h
  dsimp only at h
  cases h3 : tw b E wIf A3 with
  | none =>
    rw [h3] at h
    injection h with h
    injection h with h
    injection h with _ h
    injection h with e1 h
    injection h with e2 e3
    subst e1 e2 e3
    exact ⟨by omega, by omega, Or.inl rfl⟩
  | some A4 =>
  rw [h3] at h
  dsimp only at h
  cases h4 : gCond b E (gAtom b E n 0) n A4 with
  | none => rw [h4] at h; cases h
  | some q =>
  rw [h4] at h
  cases q with
  | inr F => injection h with h; cases h
  | inl q =>
  obtain ⟨A5, m'⟩ := q
  injection h with h
  injection h with h
  injection h with _ h
  injection h with e1 h
  injection h with e2 e3
  subst e1 e2 e3
  exact ⟨by omega, by omega, Or.inr (gCond_ty (N := 15) (fun A A1 l g s hs => gAtom_ty n 0 A A1 l (by omega) g s hs) (by show 0 + 15 + 2 ≤ 32; omega) h4)⟩
/-! places in one list of steps -/
theorem eTn_app {l m : zSs} : ∀ {n i : Nat} {s : List Bool}, i + n ≤ l.length → eTn (l ++ m) n i s = eTn l n i s
  | 0, _, _, _ => rfl
  | n + 1, i, s, h => by
    unfold eTn
    rw [List.getElem?_append_left (by omega)]
    cases l[i]? with
    | none => rfl
    | some x =>
      dsimp only
      cases eT x s with
      | none => rfl
      | some s' => exact eTn_app (by omega)
theorem eTn_s : ∀ (m l : zSs) (s : List Bool), eTn (l ++ m) m.length l.length s = eTs m s
  | [], _, _ => rfl
  | x :: m, l, s => by
    rw [List.length_cons]
    unfold eTn eTs
    rw [List.getElem?_append_right (Nat.le_refl _), Nat.sub_self]
    dsimp only [List.getElem?_cons_zero]
    cases eT x s with
    | none => rfl
    | some s' =>
      dsimp only
      have := eTn_s m (l ++ [x]) s'
      rw [List.append_assoc, List.length_append] at this
      exact this
noncomputable def gE (ls : List gLn4) (i : Nat) : Nat := match i with
  | 0 => 0
  | k + 1 => (match ls[k]? with
    | some x => x.2.2.2
    | none => 0)
/-- a law's lines and steps hang together -/
noncomputable def gW (ls : List gLn4) (l : zSs) : Prop := ls.length ≤ 12 ∧ l.length ≤ 400 ∧ l.length = gE ls ls.length ∧ ∀ i x, ls[i]? = some x → x.1 ≤ 2 ∧ x.2.1 ≤ 20 ∧ x.2.2.1 = gE ls i ∧ x.2.2.1 ≤ x.2.2.2 ∧ x.2.2.2 ≤ l.length ∧ (x.2.2.1 = x.2.2.2 ∨ eTn l (x.2.2.2 - x.2.2.1) x.2.2.1 [] = some [true])
noncomputable def gW0 (ls : List gLn4) (l : zSs) : Prop := l.length = gE ls ls.length ∧ ∀ i x, ls[i]? = some x → x.1 ≤ 2 ∧ x.2.1 ≤ 20 ∧ x.2.2.1 = gE ls i ∧ x.2.2.1 ≤ x.2.2.2 ∧ x.2.2.2 ≤ l.length ∧ (x.2.2.1 = x.2.2.2 ∨ eTn l (x.2.2.2 - x.2.2.1) x.2.2.1 [] = some [true])
theorem gE_app {ls : List gLn4} {x : gLn4} {i : Nat} (h : i ≤ ls.length) : gE (ls ++ [x]) i = gE ls i := by
  cases i with
  | zero => rfl
  | succ k =>
    show (match (ls ++ [x])[k]? with | some y => y.2.2.2 | none => 0) = (match ls[k]? with | some y => y.2.2.2 | none => 0)
    rw [List.getElem?_append_left (show k < ls.length by omega)]
theorem gW0.app {ls : List gLn4} {l m : zSs} {c v : Nat} (h : gW0 ls l) (hc : c ≤ 2) (hv : v ≤ 20) (hm : m = [] ∨ eTs m [] = some [true]) : gW0 (ls ++ [(c, v, l.length, (l ++ m).length)]) (l ++ m) := by
  obtain ⟨h1, h2⟩ := h
  constructor
  · have hlen : (ls ++ [(c, v, l.length, (l ++ m).length)]).length = ls.length + 1 := by rw [List.length_append]; rfl
    rw [hlen]
    show (l ++ m).length = (match (ls ++ [(c, v, l.length, (l ++ m).length)])[ls.length]? with | some x => x.2.2.2 | none => 0)
    rw [List.getElem?_append_right (Nat.le_refl _), Nat.sub_self]
    rfl
  · intro i x hx
    by_cases hi : i < ls.length
    · rw [List.getElem?_append_left hi] at hx
      obtain ⟨a1, a2, a3, a4, a5, a6⟩ := h2 i x hx
      refine ⟨a1, a2, by rw [gE_app (by omega)]; exact a3, a4, by rw [List.length_append]; omega, ?_⟩
      rcases a6 with a6 | a6
      · exact Or.inl a6
      · right
        rw [eTn_app (by omega)]; exact a6
    · have hi' : i = ls.length := by
        have := (List.getElem?_eq_some_iff.mp hx).1
        rw [List.length_append] at this
        have : i < ls.length + 1 := this
        omega
      subst hi'
      rw [List.getElem?_append_right (Nat.le_refl _), Nat.sub_self] at hx
      dsimp only [List.getElem?_cons_zero] at hx
      cases hx
      refine ⟨hc, hv, by rw [gE_app (Nat.le_refl _)]; exact h1, by rw [List.length_append]; exact Nat.le_add_right _ _, Nat.le_refl _, ?_⟩
      rcases hm with rfl | hm
      · left
        show l.length = (l ++ []).length
        rw [List.append_nil]
      · right
        show eTn (l ++ m) ((l ++ m).length - l.length) l.length [] = _
        rw [List.length_append, Nat.add_sub_cancel_left, eTn_s]
        exact hm
theorem gText_ty {b : Nat → Int} {E : Nat} : ∀ {n A : Nat} {ls ls' : List gLn4} {l l' : zSs}, gText b E n A ls l = some (.inl (ls', l')) → gW0 ls l → gW0 ls' l'
  | 0, _, _, _, _, _, h, _ => by cases h
  | n + 1, A, ls, ls', l, l', h, hw => by
    unfold gText at h
    by_cases h0 : ls.length = 12
    · rw [if_pos h0] at h; injection h with h; cases h
    rw [if_neg h0] at h
    cases h1 : gLine b E n A with
    | none => rw [h1] at h; cases h
    | some q =>
    rw [h1] at h
    cases q with
    | inr F => injection h with h; cases h
    | inl q =>
    obtain ⟨A1, c, v, m⟩ := q
    obtain ⟨t1, t2, t3⟩ := gLine_ty h1
    have hw' := hw.app t1 t2 t3
    dsimp only at h
    by_cases h2 : A1 = E
    · rw [if_pos h2] at h
      injection h with h
      injection h with h
      injection h with e1 e2
      rw [← e1, ← e2]; exact hw'
    rw [if_neg h2] at h
    cases h3 : ts b E 59 A1 with
    | none => rw [h3] at h; injection h with h; cases h
    | some A2 =>
      rw [h3] at h
      exact gText_ty h hw'
theorem GLaw.wf {b : Nat → Int} {E : Nat} {ls : List gLn4} {l : zSs} (h : GLaw b E (.inl (ls, l))) (h1 : ls.length ≤ 12) (h2 : l.length ≤ 400) : gW ls l := by
  have w0 : gW0 [] [] := ⟨rfl, fun i x hx => by cases hx⟩
  have w : gW0 ls l := by
    rcases h with ⟨-, e⟩ | ⟨-, n, e⟩
    · injection e with e
      injection e with e1 e2
      rw [e1, e2]; exact w0
    · exact gText_ty e w0
  exact ⟨h1, h2, w.1, w.2⟩
/-- whether a line holds; the sum of the first n lines of a kind -/
noncomputable def eH (l : zSs) (fa : Nat → Int32) (x : gLn4) : Bool := decide (x.2.2.1 = x.2.2.2) || decide ((eRn fa l (x.2.2.2 - x.2.2.1) x.2.2.1 []).headD 0 = Int32.ofInt 1)
noncomputable def eL (ls : List gLn4) (l : zSs) (fa : Nat → Int32) (kd i : Nat) : Int32 := match ls[i]? with
  | some x => if x.1 = kd ∧ eH l fa x = true then Int32.ofNat x.2.1 else Int32.ofInt 0
  | none => Int32.ofInt 0
noncomputable def eSum (ls : List gLn4) (l : zSs) (fa : Nat → Int32) (kd n : Nat) : Int32 := aSm (eL ls l fa kd) n
/-- a stack in an array -/
noncomputable def eA (σ : zSg) (c : Nat) : List Int32 → Prop
  | [] => True
  | a :: v => σ.1 c v.length = .int a ∧ eA σ c v
theorem eA.w {σ : zSg} {c k : Nat} {x : Value} : ∀ {v : List Int32}, eA σ c v → v.length ≤ k → eA (q_w σ c k x) c v
  | [], _, _ => trivial
  | a :: v, h, hk => by
    have hk : v.length + 1 ≤ k := hk
    exact ⟨by rw [q_w_ne (fun _ q => by omega)]; exact h.1, eA.w h.2 (by omega)⟩
theorem eA.fr {σ σ' : zSg} {c : Nat} (h : ∀ k, σ'.1 c k = σ.1 c k) : ∀ {v : List Int32}, eA σ c v → eA σ' c v
  | [], _ => trivial
  | a :: v, g => ⟨by rw [h]; exact g.1, eA.fr h g.2⟩
/-- one step of a typed line -/
theorem eTn_st {l : zSs} {n i : Nat} {s r : List Bool} (h : eTn l (n + 1) i s = some r) : ∃ x s', l[i]? = some x ∧ eT x s = some s' ∧ eTn l n (i + 1) s' = some r := by
  unfold eTn at h
  cases h1 : l[i]? with
  | none => rw [h1] at h; cases h
  | some x =>
    rw [h1] at h
    dsimp only at h
    cases h2 : eT x s with
    | none => rw [h2] at h; cases h
    | some s' => rw [h2] at h; exact ⟨x, s', rfl, h2, h⟩
theorem eRn_st {fa : Nat → Int32} {l : zSs} {n i : Nat} {v : List Int32} {x : Nat × Nat} (h : l[i]? = some x) : eRn fa l (n + 1) i v = eRn fa l n (i + 1) (eS fa x v) := by
  show (match l[i]? with | some x => eRn fa l n (i + 1) (eS fa x v) | none => v) = _
  rw [h]
theorem eT_lt {x : Nat × Nat} {s s' : List Bool} (e : eT x s = some s') : x.1 ≤ 14 := by
  by_cases h8 : x.1 ≤ 8
  · omega
  by_cases h12 : x.1 = 12
  · omega
  obtain ⟨q, h | h | h⟩ := eT_join h8 h12 e <;> omega
