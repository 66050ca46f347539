section
/-! the reference's texts of a law, exact; printed with wip/gen/gen_t7.py -/
noncomputable def q_us (σ : zSg) (a : Nat) : zSg := q_w (q_w (q_w (q_w σ a 0 (.int (Int32.ofInt 0))) a 11 (.int (q_i (σ.1 a 9)))) a 9 (.int (Int32.ofInt 0))) a 10 (.int (Int32.ofInt 0))
noncomputable def p_210 (a : Nat) (σ σ' : zSg) : Prop := σ' = q_us σ a
noncomputable def p_176 (a : Nat) (x c : Int32) (σ : zSg) (r : Int32) (σ' : zSg) : Prop := r = x ∧ (x.toInt ≠ 0 → σ' = q_w σ a 0 (.int c)) ∧ (x.toInt = 0 → σ' = σ)
theorem sp_210_e (a0 : Nat) (σ : zSg)  :
    p_210 (a0) σ (q_w (q_w (q_w (q_w σ a0 0 (.int (Int32.ofInt (0)))) a0 11 (.int (q_i ((q_w σ a0 0 (.int (Int32.ofInt (0)))).1 a0 9)))) a0 9 (.int (Int32.ofInt (0)))) a0 10 (.int (Int32.ofInt (0)))) := by
  unfold p_210 q_us
  rw [q_w_ne (fun _ q => by omega)]
noncomputable def qP_210 : zPp := fun as σ o σ' => match as with
  | [a0] => o = .inl none ∧ p_210 (q_r a0) σ σ'
  | _ => True
set_option maxRecDepth 100000 in
theorem sp_210 {sx : zX}  : zEe sx 210 1 qP_210 := by
  refine zfle zJ_210 (sps := []) (fun q hq => absurd hq List.not_mem_nil) (fun as σ hl => ?_)
  match as, hl with
  | [a0], _ =>
  refine ⟨[], 400, ?_, ?_⟩
  · exact fun q hq => absurd hq List.not_mem_nil
  · exact ⟨rfl, sp_210_e (q_r a0) σ ⟩
theorem sp_176_et (a0 : Nat) (a1 : Int32) (a2 : Int32) (σ : zSg) (h1 : a1.toInt = (0 : Int)) :
    p_176 (a0) (a1) (a2) σ a1 σ := by
  exact ⟨rfl, fun h => absurd h1 h, fun _ => rfl⟩
theorem sp_176_ef (a0 : Nat) (a1 : Int32) (a2 : Int32) (σ : zSg) (h1 : a1.toInt ≠ (0 : Int)) :
    p_176 (a0) (a1) (a2) σ a1 (q_w σ a0 0 (.int a2)) := by
  exact ⟨rfl, fun _ => rfl, fun h => absurd h h1⟩
noncomputable def qP_176 : zPp := fun as σ o σ' => match as with
  | [a0, a1, a2] => ∃ r, o = .inl (some (.int r)) ∧ p_176 (q_r a0) (q_i a1) (q_i a2) σ r σ'
  | _ => True
set_option maxRecDepth 100000 in
theorem sp_176 {sx : zX}  : zEe sx 176 3 qP_176 := by
  refine zfle zJ_176 (sps := []) (fun q hq => absurd hq List.not_mem_nil) (fun as σ hl => ?_)
  match as, hl with
  | [a0, a1, a2], _ =>
  refine ⟨[], 400, ?_, ?_⟩
  · exact fun q hq => absurd hq List.not_mem_nil
  · refine And.intro (fun h1 => ?_) (fun h1 => ?_)
    · exact ⟨_, rfl, sp_176_et (q_r a0) (q_i a1) (q_i a2) σ (cm0t h1)⟩
    · exact ⟨_, rfl, sp_176_ef (q_r a0) (q_i a1) (q_i a2) σ (cm0f h1)⟩
noncomputable def p_229 (a : Nat) (dd n : Int32) (σ : zSg) (r : Int32) (σ' : zSg) : Prop := dd.toInt = 0 → ∀ W b P E D l N, rG σ a W b P E D l → n = Int32.ofNat N → N ≤ 12 → rF3 σ σ' a W N ∧ (N = 12 → r.toInt = 0 ∧ σ'.1 a 12 = .int (Int32.ofNat (zBl b E P))) ∧ (N < 12 → ∃ R, GI b E (zBl b E P) R ∧ rI σ' a W b E l N r R)
theorem sp_229_ett (a0 : Nat) (a1 : Int32) (a2 : Int32) (σ : zSg) (τ1 : zSg) (g1 : p_203 a0 σ τ1) (h2 : a1.toInt = (0 : Int)) (h3 : a2.toInt ≥ (12 : Int)) :
    p_229 (a0) (a1) (a2) σ (Int32.ofInt (0)) τ1 := by
  intro hd W b P E D l N H eN hN
  obtain ⟨f1, t12, t10, H1⟩ := H.lt g1
  have h12 : N = 12 := by
    have h9 := h3
    rw [eN, o32 (by omega)] at h9
    omega
  exact ⟨rF3.of f1, fun _ => ⟨rfl, t12⟩, fun q => by omega⟩
theorem sp_229_etftt (a0 : Nat) (a1 : Int32) (a2 : Int32) (σ : zSg) (τ1 : zSg) (τ5 : zSg) (r5 : Int32) (g1 : p_203 a0 σ τ1) (h2 : a1.toInt = (0 : Int)) (h3 : a2.toInt < (12 : Int)) (h4 : a1.toInt = (0 : Int)) (g5 : p_228 a0 a2 τ1 r5 τ5) (h6 : r5.toInt = (0 : Int)) :
    p_229 (a0) (a1) (a2) σ (Int32.ofInt (0)) τ5 := by
  intro hd W b P E D l N H eN hN
  obtain ⟨f1, t12, t10, H1⟩ := H.lt g1
  have h12 : N < 12 := by
    have h9 := h3
    rw [eN, o32 (by omega)] at h9
    omega
  obtain ⟨f2, R, g1, g2⟩ := g5 W b E D l (zBl b E P) N ⟨H1, t12, zBl_bl, eN, h12⟩
  refine ⟨(rF3.of f1).tr f2, fun q => by omega, fun _ => ⟨R, g1, ?_⟩⟩
  cases R with
  | inr F => exact ⟨rfl, g2.2⟩
  | inl q => exact absurd h6 g2.1
theorem sp_229_etftf (a0 : Nat) (a1 : Int32) (a2 : Int32) (σ : zSg) (τ1 : zSg) (τ5 : zSg) (r5 : Int32) (g1 : p_203 a0 σ τ1) (h2 : a1.toInt = (0 : Int)) (h3 : a2.toInt < (12 : Int)) (h4 : a1.toInt = (0 : Int)) (g5 : p_228 a0 a2 τ1 r5 τ5) (h6 : r5.toInt ≠ (0 : Int)) :
    p_229 (a0) (a1) (a2) σ (Int32.ofInt (1)) τ5 := by
  intro hd W b P E D l N H eN hN
  obtain ⟨f1, t12, t10, H1⟩ := H.lt g1
  have h12 : N < 12 := by
    have h9 := h3
    rw [eN, o32 (by omega)] at h9
    omega
  obtain ⟨f2, R, g1, g2⟩ := g5 W b E D l (zBl b E P) N ⟨H1, t12, zBl_bl, eN, h12⟩
  refine ⟨(rF3.of f1).tr f2, fun q => by omega, fun _ => ⟨R, g1, ?_⟩⟩
  cases R with
  | inr F => exact absurd g2.1 h6
  | inl q => exact ⟨by decide, g2.2⟩
theorem sp_229_etfft (a0 : Nat) (a1 : Int32) (a2 : Int32) (σ : zSg) (τ1 : zSg) (τ7 : zSg) (r7 : Int32) (g1 : p_203 a0 σ τ1) (h2 : a1.toInt = (0 : Int)) (h3 : a2.toInt < (12 : Int)) (h4 : a1.toInt ≠ (0 : Int)) (g7 : p_220 a0 τ1 r7 τ7) (h8 : r7.toInt = (0 : Int)) :
    p_229 (a0) (a1) (a2) σ (Int32.ofInt (0)) τ7 := by
  exact absurd h2 h4
theorem sp_229_etfff (a0 : Nat) (a1 : Int32) (a2 : Int32) (σ : zSg) (τ1 : zSg) (τ7 : zSg) (r7 : Int32) (g1 : p_203 a0 σ τ1) (h2 : a1.toInt = (0 : Int)) (h3 : a2.toInt < (12 : Int)) (h4 : a1.toInt ≠ (0 : Int)) (g7 : p_220 a0 τ1 r7 τ7) (h8 : r7.toInt ≠ (0 : Int)) :
    p_229 (a0) (a1) (a2) σ (Int32.ofInt (1)) τ7 := by
  exact absurd h2 h4
theorem sp_229_eft (a0 : Nat) (a1 : Int32) (a2 : Int32) (σ : zSg) (τ1 : zSg) (g1 : p_203 a0 σ τ1) (h2 : a1.toInt ≠ (0 : Int)) (h9 : a2.toInt ≥ (14 : Int)) :
    p_229 (a0) (a1) (a2) σ (Int32.ofInt (0)) τ1 := by
  intro hd
  exact absurd hd h2
theorem sp_229_efftt (a0 : Nat) (a1 : Int32) (a2 : Int32) (σ : zSg) (τ1 : zSg) (τ11 : zSg) (r11 : Int32) (g1 : p_203 a0 σ τ1) (h2 : a1.toInt ≠ (0 : Int)) (h9 : a2.toInt < (14 : Int)) (h10 : a1.toInt = (0 : Int)) (g11 : p_228 a0 a2 τ1 r11 τ11) (h12 : r11.toInt = (0 : Int)) :
    p_229 (a0) (a1) (a2) σ (Int32.ofInt (0)) τ11 := by
  intro hd
  exact absurd hd h2
theorem sp_229_efftf (a0 : Nat) (a1 : Int32) (a2 : Int32) (σ : zSg) (τ1 : zSg) (τ11 : zSg) (r11 : Int32) (g1 : p_203 a0 σ τ1) (h2 : a1.toInt ≠ (0 : Int)) (h9 : a2.toInt < (14 : Int)) (h10 : a1.toInt = (0 : Int)) (g11 : p_228 a0 a2 τ1 r11 τ11) (h12 : r11.toInt ≠ (0 : Int)) :
    p_229 (a0) (a1) (a2) σ (Int32.ofInt (1)) τ11 := by
  intro hd
  exact absurd hd h2
theorem sp_229_effft (a0 : Nat) (a1 : Int32) (a2 : Int32) (σ : zSg) (τ1 : zSg) (τ13 : zSg) (r13 : Int32) (g1 : p_203 a0 σ τ1) (h2 : a1.toInt ≠ (0 : Int)) (h9 : a2.toInt < (14 : Int)) (h10 : a1.toInt ≠ (0 : Int)) (g13 : p_220 a0 τ1 r13 τ13) (h14 : r13.toInt = (0 : Int)) :
    p_229 (a0) (a1) (a2) σ (Int32.ofInt (0)) τ13 := by
  intro hd
  exact absurd hd h2
theorem sp_229_effff (a0 : Nat) (a1 : Int32) (a2 : Int32) (σ : zSg) (τ1 : zSg) (τ13 : zSg) (r13 : Int32) (g1 : p_203 a0 σ τ1) (h2 : a1.toInt ≠ (0 : Int)) (h9 : a2.toInt < (14 : Int)) (h10 : a1.toInt ≠ (0 : Int)) (g13 : p_220 a0 τ1 r13 τ13) (h14 : r13.toInt ≠ (0 : Int)) :
    p_229 (a0) (a1) (a2) σ (Int32.ofInt (1)) τ13 := by
  intro hd
  exact absurd hd h2
noncomputable def qP_229 : zPp := fun as σ o σ' => match as with
  | [a0, a1, a2] => ∃ r, o = .inl (some (.int r)) ∧ p_229 (q_r a0) (q_i a1) (q_i a2) σ r σ'
  | _ => True
set_option maxRecDepth 100000 in
theorem sp_229 {sx : zX} (S203 : zEe sx 203 1 qP_203) (S228 : zEe sx 228 2 qP_228) (S220 : zEe sx 220 1 qP_220) : zEe sx 229 3 qP_229 := by
  refine zfle zJ_229 (sps := [(203, 1, qP_203), (228, 2, qP_228), (220, 1, qP_220)]) (fun q hq => by
    simp only [List.mem_cons, List.not_mem_nil, or_false] at hq
    rcases hq with rfl | rfl | rfl
    · exact S203
    · exact S228
    · exact S220) (fun as σ hl => ?_)
  match as, hl with
  | [a0, a1, a2], _ =>
  refine ⟨[], 400, ?_, ?_⟩
  · exact fun q hq => absurd hq List.not_mem_nil
  · refine fun o1 τ1 g1 => ?_
    obtain ⟨rfl, g1⟩ := g1
    refine And.intro (fun h2 => ?_) (fun h2 => ?_)
    · refine And.intro (fun h3 => ?_) (fun h3 => ?_)
      · exact ⟨_, rfl, sp_229_ett (q_r a0) (q_i a1) (q_i a2) σ τ1 g1 (cm0t h2) (cm3t h3)⟩
      · refine And.intro (fun h4 => ?_) (fun h4 => ?_)
        · refine fun o5 τ5 g5 => ?_
          obtain ⟨r5, rfl, g5⟩ := g5
          refine And.intro (fun h6 => ?_) (fun h6 => ?_)
          · exact ⟨_, rfl, sp_229_etftt (q_r a0) (q_i a1) (q_i a2) σ τ1 τ5 r5 g1 (cm0t h2) (cm3f h3) (cm0t h4) g5 (cm0t h6)⟩
          · exact ⟨_, rfl, sp_229_etftf (q_r a0) (q_i a1) (q_i a2) σ τ1 τ5 r5 g1 (cm0t h2) (cm3f h3) (cm0t h4) g5 (cm0f h6)⟩
        · refine fun o7 τ7 g7 => ?_
          obtain ⟨r7, rfl, g7⟩ := g7
          refine And.intro (fun h8 => ?_) (fun h8 => ?_)
          · exact ⟨_, rfl, sp_229_etfft (q_r a0) (q_i a1) (q_i a2) σ τ1 τ7 r7 g1 (cm0t h2) (cm3f h3) (cm0f h4) g7 (cm0t h8)⟩
          · exact ⟨_, rfl, sp_229_etfff (q_r a0) (q_i a1) (q_i a2) σ τ1 τ7 r7 g1 (cm0t h2) (cm3f h3) (cm0f h4) g7 (cm0f h8)⟩
    · refine And.intro (fun h9 => ?_) (fun h9 => ?_)
      · exact ⟨_, rfl, sp_229_eft (q_r a0) (q_i a1) (q_i a2) σ τ1 g1 (cm0f h2) (cm3t h9)⟩
      · refine And.intro (fun h10 => ?_) (fun h10 => ?_)
        · refine fun o11 τ11 g11 => ?_
          obtain ⟨r11, rfl, g11⟩ := g11
          refine And.intro (fun h12 => ?_) (fun h12 => ?_)
          · exact ⟨_, rfl, sp_229_efftt (q_r a0) (q_i a1) (q_i a2) σ τ1 τ11 r11 g1 (cm0f h2) (cm3f h9) (cm0t h10) g11 (cm0t h12)⟩
          · exact ⟨_, rfl, sp_229_efftf (q_r a0) (q_i a1) (q_i a2) σ τ1 τ11 r11 g1 (cm0f h2) (cm3f h9) (cm0t h10) g11 (cm0f h12)⟩
        · refine fun o13 τ13 g13 => ?_
          obtain ⟨r13, rfl, g13⟩ := g13
          refine And.intro (fun h14 => ?_) (fun h14 => ?_)
          · exact ⟨_, rfl, sp_229_effft (q_r a0) (q_i a1) (q_i a2) σ τ1 τ13 r13 g1 (cm0f h2) (cm3f h9) (cm0f h10) g13 (cm0t h14)⟩
          · exact ⟨_, rfl, sp_229_effff (q_r a0) (q_i a1) (q_i a2) σ τ1 τ13 r13 g1 (cm0f h2) (cm3f h9) (cm0f h10) g13 (cm0f h14)⟩
noncomputable def rLn (σ : zSg) (W : Nat) (ls : List gLn4) : Prop := ∀ i x, ls[i]? = some x → σ.1 W (1238 + 4 * i) = .int (Int32.ofNat x.1) ∧ σ.1 W (1239 + 4 * i) = .int (Int32.ofNat x.2.1) ∧ σ.1 W (1240 + 4 * i) = .int (Int32.ofNat x.2.2.1) ∧ σ.1 W (1241 + 4 * i) = .int (Int32.ofNat x.2.2.2)
/-- what holds before a text is read -/
noncomputable def rA (σ : zSg) (a W : Nat) (b : Nat → Int) (E : Nat) : Prop := q_r (σ.1 a 8) ≠ a ∧ rb σ a = b ∧ σ.1 a 1 = .ref W ∧ W ≠ a ∧ q_r (σ.1 a 8) ≠ W ∧ σ.2.1 W = 2086 ∧ σ.1 a 9 = .int (Int32.ofNat E) ∧ E ≤ 400 ∧ ∃ D, D ≤ 6 ∧ σ.1 a 13 = .int (Int32.ofNat D)
noncomputable def rFA (σ σ' : zSg) (a W : Nat) : Prop := σ'.2 = σ.2 ∧ ∀ c k, ¬ (c = a ∧ (k = 0 ∨ k = 9 ∨ k = 10 ∨ k = 11 ∨ k = 12 ∨ k = 13 ∨ k = 16)) → ¬ (c = W ∧ 1237 ≤ k) → σ'.1 c k = σ.1 c k
theorem rFA.tr {σ τ υ : zSg} {a W : Nat} (h1 : rFA σ τ a W) (h2 : rFA τ υ a W) : rFA σ υ a W := ⟨h2.1.trans h1.1, fun c k q1 q2 => (h2.2 c k q1 q2).trans (h1.2 c k q1 q2)⟩
theorem rFA.of3 {σ τ : zSg} {a W N : Nat} (h : rF3 σ τ a W N) : rFA σ τ a W := ⟨h.1, fun c k q1 q2 => h.2 c k (fun q => q1 ⟨q.1, by omega⟩) (fun q => q2 ⟨q.1, by omega⟩) (fun q => q2 ⟨q.1, by omega⟩)⟩
theorem rFA.w {σ : zSg} {a W k : Nat} {v : Value} (h : k = 0 ∨ k = 9 ∨ k = 10 ∨ k = 11 ∨ k = 12 ∨ k = 13 ∨ k = 16) : rFA σ (q_w σ a k v) a W := ⟨rfl, fun c i q1 _ => q_w_ne (fun e1 e2 => q1 ⟨e1, by omega⟩)⟩
theorem rFA.us {σ : zSg} {a W : Nat} : rFA σ (q_us σ a) a W := (((rFA.w (by omega)).tr (rFA.w (by omega))).tr (rFA.w (by omega))).tr (rFA.w (by omega))
/-- what stays of the begin: nothing thrown, no tape -/
noncomputable def rZ (σ : zSg) (a : Nat) : Prop := σ.1 a 0 = .int (Int32.ofInt 0) ∧ σ.1 a 9 = .int (Int32.ofInt 0)
theorem rZ.of3 {σ τ : zSg} {a W N : Nat} (h : rF3 σ τ a W N) (hW : W ≠ a) (H : rZ σ a) : rZ τ a := ⟨by rw [h.2 a 0 (fun q => by omega) (fun q => hW q.1.symm) (fun q => hW q.1.symm)]; exact H.1, by rw [h.2 a 9 (fun q => by omega) (fun q => hW q.1.symm) (fun q => hW q.1.symm)]; exact H.2⟩
theorem rLn.of {σ τ : zSg} {a W : Nat} {ls : List gLn4} (h : rF σ τ a W) (hW : W ≠ a) (hl : ls.length ≤ 12) (H : rLn σ W ls) : rLn τ W ls := by
  intro i x hx
  have hi : i < ls.length := (List.getElem?_eq_some_iff.mp hx).1
  rw [h.at hW (by omega), h.at hW (by omega), h.at hW (by omega), h.at hW (by omega)]
  exact H i x hx
theorem rLn.add {σ τ : zSg} {a W N c v x y : Nat} {ls : List gLn4} (h : rF3 σ τ a W N) (hW : W ≠ a) (hN : N = ls.length) (hN2 : N < 12) (H : rLn σ W ls) (h0 : τ.1 W (1238 + 4 * N) = .int (Int32.ofNat c)) (h1 : τ.1 W (1239 + 4 * N) = .int (Int32.ofNat v)) (h2 : τ.1 W (1240 + 4 * N) = .int (Int32.ofNat x)) (h3 : τ.1 W (1241 + 4 * N) = .int (Int32.ofNat y)) : rLn τ W (ls ++ [(c, v, x, y)]) := by
  intro i z hz
  by_cases hi : i < ls.length
  · rw [List.getElem?_append_left hi] at hz
    rw [h.2 W _ (fun q => hW q.1) (fun q => by omega) (fun q => by omega), h.2 W _ (fun q => hW q.1) (fun q => by omega) (fun q => by omega), h.2 W _ (fun q => hW q.1) (fun q => by omega) (fun q => by omega), h.2 W _ (fun q => hW q.1) (fun q => by omega) (fun q => by omega)]
    exact H i z hz
  · rw [List.getElem?_append_right (by omega)] at hz
    have hi2 : i = ls.length := by
      cases hd : i - ls.length with
      | zero => omega
      | succ n => rw [hd] at hz; simp at hz
    subst hi2
    rw [Nat.sub_self] at hz
    cases hz
    subst hN
    exact ⟨h0, h1, h2, h3⟩
/-- ready to read -/
theorem rA.go {σ : zSg} {a W E : Nat} {b : Nat → Int} (H : rA σ a W b E) : ∃ D, rG (q_w (q_us σ a) a 16 (.int (Int32.ofInt 0))) a W b 0 E D [] := by
  obtain ⟨h1, h2, h3, h4, h5, h6, h7, h8, D, hD, h9⟩ := H
  have go : ∀ c k, ¬ (c = a ∧ (k = 0 ∨ k = 9 ∨ k = 10 ∨ k = 11 ∨ k = 16)) → (q_w (q_us σ a) a 16 (.int (Int32.ofInt 0))).1 c k = σ.1 c k := by
    intro c k q
    unfold q_us
    rw [q_w_ne (fun e1 e2 => q ⟨e1, by omega⟩), q_w_ne (fun e1 e2 => q ⟨e1, by omega⟩), q_w_ne (fun e1 e2 => q ⟨e1, by omega⟩), q_w_ne (fun e1 e2 => q ⟨e1, by omega⟩), q_w_ne (fun e1 e2 => q ⟨e1, by omega⟩)]
  refine ⟨D, ⟨?_, ?_, ?_, Nat.zero_le _, h8⟩, ?_, ?_, h4, ?_, h6, ?_, hD, ?_, Nat.zero_le _, fun i x hx => by simp at hx⟩
  · rw [go _ _ (fun q => by omega)]; exact h1
  · unfold q_us
    rw [q_w_ne (fun _ q => by omega), q_w_at]
    rfl
  · unfold q_us
    rw [q_w_ne (fun _ q => by omega), q_w_ne (fun _ q => by omega), q_w_ne (fun _ q => by omega), q_w_at, h7]
    rfl
  · rw [← h2]
    funext i
    unfold rb
    rw [go a 8 (fun q => by omega), go _ _ (fun q => h1 q.1)]
  · rw [go _ _ (fun q => by omega)]; exact h3
  · rw [go _ _ (fun q => by omega)]; exact h5
  · rw [go _ _ (fun q => by omega)]; exact h9
  · rw [q_w_at]; rfl
theorem rA.z {σ : zSg} {a : Nat} : rZ (q_w (q_us σ a) a 16 (.int (Int32.ofInt 0))) a := by
  unfold q_us
  refine ⟨?_, ?_⟩
  · rw [q_w_ne (fun _ q => by omega), q_w_ne (fun _ q => by omega), q_w_ne (fun _ q => by omega), q_w_ne (fun _ q => by omega), q_w_at]
  · rw [q_w_ne (fun _ q => by omega), q_w_ne (fun _ q => by omega), q_w_at]
theorem rG.bk {σ τ : zSg} {a W P E D : Nat} {b : Nat → Int} {l : zSs} (H : rG σ a W b P E D l) (G : p_202 a σ τ) : rF σ τ a W ∧ τ.1 a 12 = .int (Int32.ofNat (zBl b E P)) ∧ rG τ a W b (zBl b E P) E D l := by
  have := G P E H.1
  rw [H.2.1] at this
  subst this
  exact ⟨rF.rs, q_rs_12, H.rs H.bl⟩
abbrev rT (σ' : zSg) (a W : Nat) (r : Int32) (R : (List gLn4 × zSs) ⊕ Nat) : Prop := match R with
  | .inl (ls, l) => r = Int32.ofNat ls.length ∧ ls.length ≤ 12 ∧ l.length ≤ 400 ∧ rLn σ' W ls ∧ ∀ i x, l[i]? = some x → σ'.1 W (1286 + 2 * i) = .int (Int32.ofNat x.1) ∧ σ'.1 W (1287 + 2 * i) = .int (Int32.ofNat x.2)
  | .inr F => r.toInt = -1 ∧ σ'.1 a 12 = .int (Int32.ofNat F)
noncomputable def p_230 (a : Nat) (dd : Int32) (σ : zSg) (r : Int32) (σ' : zSg) : Prop := dd.toInt = 0 → ∀ W b E, rA σ a W b E → rFA σ σ' a W ∧ rZ σ' a ∧ ∃ R, GLaw b E R ∧ rT σ' a W r R
noncomputable def i_230 (a : Nat) (dd : Int32) (σ : zSg) (l0 : Nat) (l1 l2 : Int32) (τ : zSg) : Prop := l0 = a ∧ l1 = dd ∧ (dd.toInt = 0 → ∀ W b E, rA σ a W b E → rFA σ τ a W ∧ rZ τ a ∧ ∃ P D N ls l, l2 = Int32.ofNat N ∧ N = ls.length ∧ N ≤ 12 ∧ rG τ a W b P E D l ∧ rLn τ W ls ∧ ∀ R, GT b E (zBl b E P) ls l R → GLaw b E R)
theorem rG.e11 {σ : zSg} {a W P E D : Nat} {b : Nat → Int} {l : zSs} (H : rG σ a W b P E D l) : (q_i (σ.1 a 11)).toInt = (E : Int) ∧ (q_i (σ.1 a 10)).toInt = (P : Int) := by
  have hl := H.le
  rw [H.1.2.2.1, H.1.2.1]
  exact ⟨o32 (by omega), o32 (by omega)⟩
theorem sp_230_et (a0 : Nat) (a1 : Int32) (σ : zSg) (τ1 : zSg) (τ2 : zSg) (g1 : p_210 a0 σ τ1) (g2 : p_202 a0 (q_w τ1 a0 16 (.int (Int32.ofInt (0)))) τ2) (h3 : (q_i (τ2.1 a0 10)).toInt ≠ (q_i (τ2.1 a0 11)).toInt) :
    i_230 a0 a1 σ a0 a1 (Int32.ofInt (0)) τ2 := by
  refine ⟨rfl, rfl, ?_⟩
  intro hd W b E H
  obtain rfl := g1
  obtain ⟨D, H0⟩ := H.go
  obtain ⟨f1, t12, H1⟩ := H0.bk g2
  have hz := rA.z (σ := σ) (a := a0)
  have hW := H1.2.2.2.1
  have hz1 := rZ.of3 (N := 0) (rF3.of f1) hW hz
  have fa : rFA σ τ2 a0 W := (rFA.us.tr (rFA.w (by omega))).tr (rFA.of3 (N := 0) (rF3.of f1))
  obtain ⟨e11, e10⟩ := H1.e11
  rw [e11, e10] at h3
  refine ⟨fa, hz1, zBl b E 0, D, 0, [], [], rfl, rfl, by omega, H1, fun i x hx => by simp at hx, fun R hR => Or.inr ⟨by omega, ?_⟩⟩
  rw [zBl_bl] at hR
  exact hR
theorem sp_230_ef (a0 : Nat) (a1 : Int32) (σ : zSg) (τ1 : zSg) (τ2 : zSg) (g1 : p_210 a0 σ τ1) (g2 : p_202 a0 (q_w τ1 a0 16 (.int (Int32.ofInt (0)))) τ2) (h3 : (q_i (τ2.1 a0 10)).toInt = (q_i (τ2.1 a0 11)).toInt) :
    p_230 (a0) (a1) σ (Int32.ofInt (0)) τ2 := by
  intro hd W b E H
  obtain rfl := g1
  obtain ⟨D, H0⟩ := H.go
  obtain ⟨f1, t12, H1⟩ := H0.bk g2
  have hz := rA.z (σ := σ) (a := a0)
  have hW := H1.2.2.2.1
  have hz1 := rZ.of3 (N := 0) (rF3.of f1) hW hz
  have fa : rFA σ τ2 a0 W := (rFA.us.tr (rFA.w (by omega))).tr (rFA.of3 (N := 0) (rF3.of f1))
  obtain ⟨e11, e10⟩ := H1.e11
  rw [e11, e10] at h3
  exact ⟨fa, hz1, _, Or.inl ⟨by omega, rfl⟩, rfl, (by show 0 ≤ 12; omega), (by show 0 ≤ 400; omega), fun i x hx => by simp at hx, fun i x hx => by simp at hx⟩
theorem sp_230_c16_ttt (a0 : Nat) (a1 : Int32) (σ : zSg) (l0 : Nat) (l1 : Int32) (l2 : Int32) (τ : zSg) (τ4 : zSg) (r4 : Int32) (τ6 : zSg) (τ8 : zSg) (r8 : Int32) (hI : i_230 a0 a1 σ l0 l1 l2 τ) (g4 : p_229 l0 l1 l2 τ r4 τ4) (h5 : r4.toInt ≠ (0 : Int)) (g6 : p_202 l0 τ4 τ6) (h7 : (q_i (τ6.1 l0 10)).toInt ≠ (q_i (τ6.1 l0 11)).toInt) (g8 : p_201 l0 (Int32.ofInt (59)) (Int32.ofInt (59)) τ6 r8 τ8) (h9 : r8.toInt ≠ (0 : Int)) :
    i_230 a0 a1 σ l0 l1 (l2 + Int32.ofInt (1)) (q_w τ8 l0 10 (.int ((q_i (τ8.1 l0 10)) + (Int32.ofInt (1))))) := by
  obtain ⟨rfl, rfl, G⟩ := hI
  refine ⟨rfl, rfl, fun hd W b E H => ?_⟩
  obtain ⟨fa, hz, P, D, N, ls, l, rfl, hN, hN12, H1, hl, hR⟩ := G hd W b E H
  have hW := H1.2.2.2.1
  have hle := H1.le
  obtain ⟨f1, v12, v⟩ := g4 hd W b P E D l N H1 rfl hN12
  have hlt : N < 12 := by
    by_cases q : N = 12
    · exact absurd (v12 q).1 h5
    · omega
  obtain ⟨R, g1, g2⟩ := v hlt
  cases R with
  | inr F => exact absurd g2.1 h5
  | inl q =>
  obtain ⟨A1, c, w, m⟩ := q
  obtain ⟨-, ⟨P2, p2, rfl, H2x⟩, w0, w1, w2, w3⟩ := g2
  obtain ⟨f2, s12, H3x⟩ := H2x.bk g6
  have hz3 := rZ.of3 (N := 0) (rF3.of f2) hW (rZ.of3 f1 hW hz)
  have fa3 := (fa.tr (rFA.of3 f1)).tr (rFA.of3 (N := 0) (rF3.of f2))
  have hl3 := (rLn.add f1 hW hN hlt hl w0 w1 w2 w3)
  have hl4 : rLn τ6 W (ls ++ [(c, w, l.length, (l ++ m).length)]) := rLn.of f2 hW (by rw [List.length_append]; show ls.length + 1 ≤ 12; omega) hl3
  obtain ⟨e11, e10⟩ := H3x.e11
  rw [e11, e10] at h7
  have eA : zBl b E P2 ≠ E := by omega
  have hc := g8.t H3x.1 h9
  rw [H3x.2.1] at hc
  have c59 : (Int32.ofInt 59).toInt = 59 := rfl
  have e1 : ts b E 59 (zBl b E P2) = some (zBl b E (zBl b E P2 + 1)) := by
    unfold ts
    rw [if_pos ⟨hc.1, by omega⟩]
  rw [g8.1]
  have e9 : q_i (τ6.1 l0 10) + Int32.ofInt 1 = Int32.ofNat (zBl b E P2 + 1) := by
    rw [H3x.1.2.1]
    exact o32i (by omega)
  rw [e9]
  have H4x := H3x.pt (K := zBl b E P2 + 1) (by omega)
  have f4 : rF τ6 (q_w τ6 l0 10 (.int (Int32.ofNat (zBl b E P2 + 1)))) l0 W := rF.w (by omega)
  refine ⟨fa3.tr (rFA.of3 (N := 0) (rF3.of f4)), rZ.of3 (N := 0) (rF3.of f4) hW hz3, _, _, N + 1, _, _, o32i (by omega), ?_, by omega, H4x, rLn.of f4 hW (by rw [List.length_append]; show ls.length + 1 ≤ 12; omega) hl4, fun R h9 => hR R (GT.step (by omega) g1 eA e1 h9)⟩
  rw [List.length_append, hN]; rfl
theorem sp_230_c16_ttf (a0 : Nat) (a1 : Int32) (σ : zSg) (l0 : Nat) (l1 : Int32) (l2 : Int32) (τ : zSg) (τ4 : zSg) (r4 : Int32) (τ6 : zSg) (τ8 : zSg) (r8 : Int32) (hI : i_230 a0 a1 σ l0 l1 l2 τ) (g4 : p_229 l0 l1 l2 τ r4 τ4) (h5 : r4.toInt ≠ (0 : Int)) (g6 : p_202 l0 τ4 τ6) (h7 : (q_i (τ6.1 l0 10)).toInt ≠ (q_i (τ6.1 l0 11)).toInt) (g8 : p_201 l0 (Int32.ofInt (59)) (Int32.ofInt (59)) τ6 r8 τ8) (h9 : r8.toInt = (0 : Int)) :
    p_230 (a0) (a1) σ (Int32.ofInt (-1)) τ8 := by
  obtain ⟨rfl, rfl, G⟩ := hI
  intro hd W b E H
  obtain ⟨fa, hz, P, D, N, ls, l, rfl, hN, hN12, H1, hl, hR⟩ := G hd W b E H
  have hW := H1.2.2.2.1
  have hle := H1.le
  obtain ⟨f1, v12, v⟩ := g4 hd W b P E D l N H1 rfl hN12
  have hlt : N < 12 := by
    by_cases q : N = 12
    · exact absurd (v12 q).1 h5
    · omega
  obtain ⟨R, g1, g2⟩ := v hlt
  cases R with
  | inr F => exact absurd g2.1 h5
  | inl q =>
  obtain ⟨A1, c, w, m⟩ := q
  obtain ⟨-, ⟨P2, p2, rfl, H2x⟩, w0, w1, w2, w3⟩ := g2
  obtain ⟨f2, s12, H3x⟩ := H2x.bk g6
  have hz3 := rZ.of3 (N := 0) (rF3.of f2) hW (rZ.of3 f1 hW hz)
  have fa3 := (fa.tr (rFA.of3 f1)).tr (rFA.of3 (N := 0) (rF3.of f2))
  have hl3 := (rLn.add f1 hW hN hlt hl w0 w1 w2 w3)
  have hl4 : rLn τ6 W (ls ++ [(c, w, l.length, (l ++ m).length)]) := rLn.of f2 hW (by rw [List.length_append]; show ls.length + 1 ≤ 12; omega) hl3
  obtain ⟨e11, e10⟩ := H3x.e11
  rw [e11, e10] at h7
  have eA : zBl b E P2 ≠ E := by omega
  have hc := g8.f H3x.1 h9
  have e1 : ts b E 59 (zBl b E P2) = none := by
    unfold ts
    rw [if_neg]
    intro q
    rw [H3x.2.1] at hc
    have c59 : (Int32.ofInt 59).toInt = 59 := rfl
    exact hc ⟨q.1, by omega, by omega⟩
  rw [g8.1]
  exact ⟨fa3, hz3, _, hR _ (GT.semi (by omega) g1 eA e1), by decide, s12⟩
theorem sp_230_c16_tf (a0 : Nat) (a1 : Int32) (σ : zSg) (l0 : Nat) (l1 : Int32) (l2 : Int32) (τ : zSg) (τ4 : zSg) (r4 : Int32) (τ6 : zSg) (hI : i_230 a0 a1 σ l0 l1 l2 τ) (g4 : p_229 l0 l1 l2 τ r4 τ4) (h5 : r4.toInt ≠ (0 : Int)) (g6 : p_202 l0 τ4 τ6) (h7 : (q_i (τ6.1 l0 10)).toInt = (q_i (τ6.1 l0 11)).toInt) :
    p_230 (a0) (a1) σ (l2 + (Int32.ofInt (1))) τ6 := by
  obtain ⟨rfl, rfl, G⟩ := hI
  intro hd W b E H
  obtain ⟨fa, hz, P, D, N, ls, l, rfl, hN, hN12, H1, hl, hR⟩ := G hd W b E H
  have hW := H1.2.2.2.1
  have hle := H1.le
  obtain ⟨f1, v12, v⟩ := g4 hd W b P E D l N H1 rfl hN12
  have hlt : N < 12 := by
    by_cases q : N = 12
    · exact absurd (v12 q).1 h5
    · omega
  obtain ⟨R, g1, g2⟩ := v hlt
  cases R with
  | inr F => exact absurd g2.1 h5
  | inl q =>
  obtain ⟨A1, c, w, m⟩ := q
  obtain ⟨-, ⟨P2, p2, rfl, H2x⟩, w0, w1, w2, w3⟩ := g2
  obtain ⟨f2, s12, H3x⟩ := H2x.bk g6
  have hz3 := rZ.of3 (N := 0) (rF3.of f2) hW (rZ.of3 f1 hW hz)
  have fa3 := (fa.tr (rFA.of3 f1)).tr (rFA.of3 (N := 0) (rF3.of f2))
  have hl3 := (rLn.add f1 hW hN hlt hl w0 w1 w2 w3)
  have hl4 : rLn τ6 W (ls ++ [(c, w, l.length, (l ++ m).length)]) := rLn.of f2 hW (by rw [List.length_append]; show ls.length + 1 ≤ 12; omega) hl3
  obtain ⟨e11, e10⟩ := H3x.e11
  rw [e11, e10] at h7
  have eA : zBl b E P2 = E := by omega
  rw [eA] at g1
  refine ⟨fa3, hz3, _, hR _ (GT.last (by omega) g1), ?_, ?_, H3x.2.2.2.2.2.2.2.2.2.1, hl4, H3x.2.2.2.2.2.2.2.2.2.2⟩
  · rw [List.length_append, o32i (by omega), hN]; rfl
  · rw [List.length_append]; show ls.length + 1 ≤ 12; omega
theorem sp_230_c16_f (a0 : Nat) (a1 : Int32) (σ : zSg) (l0 : Nat) (l1 : Int32) (l2 : Int32) (τ : zSg) (τ4 : zSg) (r4 : Int32) (hI : i_230 a0 a1 σ l0 l1 l2 τ) (g4 : p_229 l0 l1 l2 τ r4 τ4) (h5 : r4.toInt = (0 : Int)) :
    p_230 (a0) (a1) σ (Int32.ofInt (-1)) τ4 := by
  obtain ⟨rfl, rfl, G⟩ := hI
  intro hd W b E H
  obtain ⟨fa, hz, P, D, N, ls, l, rfl, hN, hN12, H1, hl, hR⟩ := G hd W b E H
  have hW := H1.2.2.2.1
  have hle := H1.le
  obtain ⟨f1, v12, v⟩ := g4 hd W b P E D l N H1 rfl hN12
  refine ⟨fa.tr (rFA.of3 f1), rZ.of3 f1 hW hz, ?_⟩
  by_cases q : N = 12
  · exact ⟨_, hR _ (GT.full (by omega)), by decide, (v12 q).2⟩
  · obtain ⟨R, g1, g2⟩ := v (by omega)
    cases R with
    | inl q => exact absurd h5 g2.1
    | inr F => exact ⟨_, hR _ (GT.bad (by omega) g1), by decide, g2.2⟩
noncomputable def qP_230 : zPp := fun as σ o σ' => match as with
  | [a0, a1] => ∃ r, o = .inl (some (.int r)) ∧ p_230 (q_r a0) (q_i a1) σ r σ'
  | _ => True
set_option maxRecDepth 100000 in
theorem sp_230 {sx : zX} (S210 : zEe sx 210 1 qP_210) (S202 : zEe sx 202 1 qP_202) (S229 : zEe sx 229 3 qP_229) (S201 : zEe sx 201 3 qP_201) : zEe sx 230 2 qP_230 := by
  refine zfle zJ_230 (sps := [(210, 1, qP_210), (202, 1, qP_202), (229, 3, qP_229), (201, 3, qP_201)]) (fun q hq => by
    simp only [List.mem_cons, List.not_mem_nil, or_false] at hq
    rcases hq with rfl | rfl | rfl | rfl
    · exact S210
    · exact S202
    · exact S229
    · exact S201) (fun as σ hl => ?_)
  match as, hl with
  | [a0, a1], _ =>
  refine ⟨[(16, fun lo st τ => st = [] ∧ i_230 (q_r a0) (q_i a1) σ (q_r (lo 0)) (q_i (lo 1)) (q_i (lo 2)) τ)], 400, ?_, ?_⟩
  · intro q hq
    simp only [List.mem_cons, List.not_mem_nil, or_false] at hq
    rcases hq with rfl
    · rintro lo st τ ⟨rfl, hI⟩
      refine ⟨400, ?_⟩
      refine fun o4 τ4 g4 => ?_
      obtain ⟨r4, rfl, g4⟩ := g4
      refine And.intro (fun h5 => ?_) (fun h5 => ?_)
      · refine fun o6 τ6 g6 => ?_
        obtain ⟨rfl, g6⟩ := g6
        refine And.intro (fun h7 => ?_) (fun h7 => ?_)
        · refine fun o8 τ8 g8 => ?_
          obtain ⟨r8, rfl, g8⟩ := g8
          refine And.intro (fun h9 => ?_) (fun h9 => ?_)
          · exact ⟨rfl, sp_230_c16_ttt (q_r a0) (q_i a1) σ (q_r (lo 0)) (q_i (lo 1)) (q_i (lo 2)) τ τ4 r4 τ6 τ8 r8 hI g4 (cm1t h5) g6 (cm1t h7) g8 (cm1t h9)⟩
          · exact ⟨_, rfl, sp_230_c16_ttf (q_r a0) (q_i a1) σ (q_r (lo 0)) (q_i (lo 1)) (q_i (lo 2)) τ τ4 r4 τ6 τ8 r8 hI g4 (cm1t h5) g6 (cm1t h7) g8 (cm1f h9)⟩
        · exact ⟨_, rfl, sp_230_c16_tf (q_r a0) (q_i a1) σ (q_r (lo 0)) (q_i (lo 1)) (q_i (lo 2)) τ τ4 r4 τ6 hI g4 (cm1t h5) g6 (cm1f h7)⟩
      · exact ⟨_, rfl, sp_230_c16_f (q_r a0) (q_i a1) σ (q_r (lo 0)) (q_i (lo 1)) (q_i (lo 2)) τ τ4 r4 hI g4 (cm1f h5)⟩
  · refine fun o1 τ1 g1 => ?_
    obtain ⟨rfl, g1⟩ := g1
    refine fun o2 τ2 g2 => ?_
    obtain ⟨rfl, g2⟩ := g2
    refine And.intro (fun h3 => ?_) (fun h3 => ?_)
    · exact ⟨rfl, sp_230_et (q_r a0) (q_i a1) σ τ1 τ2 g1 g2 (cm1t h3)⟩
    · exact ⟨_, rfl, sp_230_ef (q_r a0) (q_i a1) σ τ1 τ2 g1 g2 (cm1f h3)⟩
noncomputable def rCp (σ : zSg) (W K : Nat) : zSg := (fun c k => if c = W ∧ 388 ≤ k ∧ k < 388 + K then .int (q_i (σ.1 W (k + 849))) else σ.1 c k, σ.2)
noncomputable def rLT (σ : zSg) (W : Nat) (ls : List gLn4) (l : zSs) : Prop := σ.1 W 388 = .int (Int32.ofNat ls.length) ∧ (∀ i x, ls[i]? = some x → σ.1 W (389 + 4 * i) = .int (Int32.ofNat x.1) ∧ σ.1 W (390 + 4 * i) = .int (Int32.ofNat x.2.1) ∧ σ.1 W (391 + 4 * i) = .int (Int32.ofNat x.2.2.1) ∧ σ.1 W (392 + 4 * i) = .int (Int32.ofNat x.2.2.2)) ∧ ∀ i x, l[i]? = some x → σ.1 W (437 + 2 * i) = .int (Int32.ofNat x.1) ∧ σ.1 W (438 + 2 * i) = .int (Int32.ofNat x.2)
noncomputable def rFL (σ σ' : zSg) (a W : Nat) : Prop := σ'.2 = σ.2 ∧ ∀ c k, ¬ (c = a ∧ (k = 0 ∨ k = 7 ∨ (9 ≤ k ∧ k ≤ 14) ∨ k = 16)) → ¬ (c = W ∧ (k = 3 ∨ 388 ≤ k)) → σ'.1 c k = σ.1 c k
abbrev rLw (σ σ' : zSg) (a W : Nat) (r : Int32) (R : (List gLn4 × zSs) ⊕ Nat) : Prop := match R with
  | .inl (ls, l) => r = Int32.ofNat ls.length ∧ ls.length ≤ 12 ∧ σ'.1 a 0 = .int (Int32.ofInt 0) ∧ σ'.1 a 14 = .int (Int32.ofInt (-1)) ∧ σ'.1 a 7 = .int (Int32.ofInt 0) ∧ σ'.1 W 3 = .int (Int32.ofInt 1) ∧ l.length ≤ 400 ∧ rLT σ' W ls l
  | .inr F => r = Int32.ofInt 0 ∧ σ'.1 a 0 = .int (Int32.ofInt 1) ∧ σ'.1 a 14 = .int (Int32.ofNat F) ∧ σ'.1 a 7 = σ.1 a 7 ∧ ∀ k, k < 1237 → σ'.1 W k = σ.1 W k
noncomputable def p_232 (a : Nat) (σ : zSg) (r : Int32) (σ' : zSg) : Prop := ∀ W b E, rA σ a W b E → rFL σ σ' a W ∧ σ'.1 a 9 = .int (Int32.ofInt 0) ∧ ∃ R, GLaw b E R ∧ rLw σ σ' a W r R
noncomputable def i_232 (a : Nat) (σ : zSg) (l0 : Nat) (n k : Int32) (τ : zSg) : Prop := l0 = a ∧ ∀ W b E, rA σ a W b E → W ≠ a ∧ ∃ σ1 K ls l, k = Int32.ofNat K ∧ K ≤ 849 ∧ τ = rCp σ1 W K ∧ GLaw b E (.inl (ls, l)) ∧ n = Int32.ofNat ls.length ∧ ls.length ≤ 12 ∧ l.length ≤ 400 ∧ rFL σ σ1 a W ∧ σ1.1 a 9 = .int (Int32.ofInt 0) ∧ σ1.1 a 0 = .int (Int32.ofInt 0) ∧ σ1.1 a 14 = .int (Int32.ofInt (-1)) ∧ σ1.1 a 1 = .ref W ∧ σ1.1 W 1237 = .int (Int32.ofNat ls.length) ∧ rLn σ1 W ls ∧ ∀ i x, l[i]? = some x → σ1.1 W (1286 + 2 * i) = .int (Int32.ofNat x.1) ∧ σ1.1 W (1287 + 2 * i) = .int (Int32.ofNat x.2)
theorem rFL.ofA {σ τ : zSg} {a W : Nat} (h : rFA σ τ a W) : rFL σ τ a W := ⟨h.1, fun c k q1 q2 => h.2 c k (fun q => q1 ⟨q.1, by omega⟩) (fun q => q2 ⟨q.1, by omega⟩)⟩
theorem rFL.tr {σ τ υ : zSg} {a W : Nat} (h1 : rFL σ τ a W) (h2 : rFL τ υ a W) : rFL σ υ a W := ⟨h2.1.trans h1.1, fun c k q1 q2 => (h2.2 c k q1 q2).trans (h1.2 c k q1 q2)⟩
theorem rFL.w {σ : zSg} {a W k : Nat} {v : Value} (h : k = 0 ∨ k = 7 ∨ (9 ≤ k ∧ k ≤ 14) ∨ k = 16) : rFL σ (q_w σ a k v) a W := ⟨rfl, fun c i q1 _ => q_w_ne (fun e1 e2 => q1 ⟨e1, by omega⟩)⟩
theorem rFL.ww {σ : zSg} {a W k : Nat} {v : Value} (h : k = 3 ∨ 388 ≤ k) : rFL σ (q_w σ W k v) a W := ⟨rfl, fun c i _ q2 => q_w_ne (fun e1 e2 => q2 ⟨e1, by omega⟩)⟩
theorem rCp_ne {σ : zSg} {W K c k : Nat} (h : ¬ (c = W ∧ 388 ≤ k ∧ k < 388 + K)) : (rCp σ W K).1 c k = σ.1 c k := if_neg h
theorem rCp_at {σ : zSg} {W K k : Nat} (h : 388 ≤ k ∧ k < 388 + K) : (rCp σ W K).1 W k = .int (q_i (σ.1 W (k + 849))) := if_pos ⟨rfl, h⟩
theorem rFL.cp {σ : zSg} {a W K : Nat} : rFL σ (rCp σ W K) a W := ⟨rfl, fun c k _ q2 => rCp_ne (fun q => q2 ⟨q.1, by omega⟩)⟩
theorem rCp_0 {σ : zSg} {W : Nat} : σ = rCp σ W 0 := by
  refine Prod.ext ?_ rfl
  funext c k
  exact (rCp_ne (fun q => by omega)).symm
theorem rCp_s {σ : zSg} {W K : Nat} (hK : K < 849) : q_w (rCp σ W K) W (388 + K) (.int (q_i ((rCp σ W K).1 W (1237 + K)))) = rCp σ W (K + 1) := by
  refine Prod.ext ?_ rfl
  funext c k
  rw [rCp_ne (k := 1237 + K) (fun q => by omega)]
  by_cases h1 : c = W ∧ k = 388 + K
  · obtain ⟨rfl, rfl⟩ := h1
    rw [q_w_at, rCp_at (by omega), show 388 + K + 849 = 1237 + K by omega]
  · rw [q_w_ne (fun e1 e2 => h1 ⟨e1, e2⟩)]
    by_cases h2 : c = W ∧ 388 ≤ k ∧ k < 388 + K
    · obtain ⟨rfl, h2⟩ := h2
      rw [rCp_at h2, rCp_at (by omega)]
    · rw [rCp_ne h2, rCp_ne (fun q => h2 ⟨q.1, q.2.1, by have := fun e => h1 ⟨q.1, e⟩; omega⟩)]
theorem sp_232_ettt (a0 : Nat) (σ : zSg) (τ1 : zSg) (r1 : Int32) (τ4 : zSg) (r4 : Int32) (g1 : p_230 a0 (Int32.ofInt (0)) σ r1 τ1) (h2 : r1.toInt ≥ (0 : Int)) (h3 : r1.toInt ≥ (0 : Int)) (g4 : p_176 a0 (Int32.ofInt (0)) (Int32.ofInt (1)) (q_w τ1 a0 14 (.int (Int32.ofInt (-1)))) r4 τ4) (h5 : r4.toInt = (0 : Int)) (h6 : 0 ≤ (Int32.ofInt (1237)).toInt ∧ (Int32.ofInt (1237)).toInt < (τ4.2.1 (q_r (τ4.1 a0 1)) : Int)) :
    i_232 a0 σ a0 r1 (Int32.ofInt (0)) (q_w τ4 (q_r (τ4.1 a0 1)) (Int32.ofInt (1237)).toNatClampNeg (.int r1)) := by
  refine ⟨rfl, fun W b E H => ?_⟩
  have hW := H.2.2.2.1
  obtain ⟨fa, hz, R, hR, hT⟩ := g1 rfl W b E H
  cases R with
  | inr F =>
    exfalso
    have := hT.1
    omega
  | inl q =>
  obtain ⟨ls, l⟩ := q
  obtain ⟨e1, e2, e3, e4, e5⟩ := hT
  obtain rfl := (g4.2.2 rfl).symm
  have ne : ∀ k, (q_w τ1 a0 14 (.int (Int32.ofInt (-1)))).1 W k = τ1.1 W k := fun k => q_w_ne (fun q _ => hW q)
  have q1 : τ1.1 a0 1 = .ref W := by rw [fa.2 a0 1 (fun q => by omega) (fun q => hW q.1.symm)]; exact H.2.2.1
  have q1x : q_r ((q_w τ1 a0 14 (.int (Int32.ofInt (-1)))).1 a0 1) = W := by rw [q_w_ne (fun _ q => by omega), q1]; rfl
  have k1 : (Int32.ofInt 1237).toNatClampNeg = 1237 := rfl
  rw [q1x, k1]
  have na : ∀ k, k ≠ 14 → (q_w (q_w τ1 a0 14 (.int (Int32.ofInt (-1)))) W 1237 (.int r1)).1 a0 k = τ1.1 a0 k := by
    intro k hk
    rw [q_w_ne (fun q _ => hW q.symm), q_w_ne (fun _ q => hk q)]
  have nw : ∀ k, k ≠ 1237 → (q_w (q_w τ1 a0 14 (.int (Int32.ofInt (-1)))) W 1237 (.int r1)).1 W k = τ1.1 W k := by
    intro k hk
    rw [q_w_ne (fun _ q => hk q), ne]
  refine ⟨hW, _, 0, ls, l, rfl, by omega, rCp_0, hR, e1, e2, e3, ((rFL.ofA fa).tr (rFL.w (by omega))).tr (rFL.ww (by omega)), ?_, ?_, ?_, ?_, ?_, ?_, ?_⟩
  · rw [na 9 (by omega)]; exact hz.2
  · rw [na 0 (by omega)]; exact hz.1
  · rw [q_w_ne (fun q _ => hW q.symm), q_w_at]
  · rw [na 1 (by omega)]; exact q1
  · rw [q_w_at, e1]
  · intro i x hx
    rw [nw _ (by omega), nw _ (by omega), nw _ (by omega), nw _ (by omega)]
    exact e4 i x hx
  · intro i x hx
    rw [nw _ (by omega), nw _ (by omega)]
    exact e5 i x hx
theorem sp_232_ettf (a0 : Nat) (σ : zSg) (τ1 : zSg) (r1 : Int32) (τ4 : zSg) (r4 : Int32) (g1 : p_230 a0 (Int32.ofInt (0)) σ r1 τ1) (h2 : r1.toInt ≥ (0 : Int)) (h3 : r1.toInt ≥ (0 : Int)) (g4 : p_176 a0 (Int32.ofInt (0)) (Int32.ofInt (1)) (q_w τ1 a0 14 (.int (Int32.ofInt (-1)))) r4 τ4) (h5 : r4.toInt ≠ (0 : Int)) :
    p_232 (a0) σ (Int32.ofInt (0)) τ4 := by
  have := g4.1
  rw [this] at h5
  exact absurd rfl h5
theorem sp_232_etft (a0 : Nat) (σ : zSg) (τ1 : zSg) (r1 : Int32) (τ7 : zSg) (r7 : Int32) (g1 : p_230 a0 (Int32.ofInt (0)) σ r1 τ1) (h2 : r1.toInt ≥ (0 : Int)) (h3 : r1.toInt < (0 : Int)) (g7 : p_176 a0 (Int32.ofInt (1)) (Int32.ofInt (1)) (q_w τ1 a0 14 (.int (Int32.ofInt (-1)))) r7 τ7) (h8 : r7.toInt = (0 : Int)) (h9 : 0 ≤ (Int32.ofInt (1237)).toInt ∧ (Int32.ofInt (1237)).toInt < (τ7.2.1 (q_r (τ7.1 a0 1)) : Int)) :
    i_232 a0 σ a0 r1 (Int32.ofInt (0)) (q_w τ7 (q_r (τ7.1 a0 1)) (Int32.ofInt (1237)).toNatClampNeg (.int r1)) := by
  exfalso
  omega
theorem sp_232_etff (a0 : Nat) (σ : zSg) (τ1 : zSg) (r1 : Int32) (τ7 : zSg) (r7 : Int32) (g1 : p_230 a0 (Int32.ofInt (0)) σ r1 τ1) (h2 : r1.toInt ≥ (0 : Int)) (h3 : r1.toInt < (0 : Int)) (g7 : p_176 a0 (Int32.ofInt (1)) (Int32.ofInt (1)) (q_w τ1 a0 14 (.int (Int32.ofInt (-1)))) r7 τ7) (h8 : r7.toInt ≠ (0 : Int)) :
    p_232 (a0) σ (Int32.ofInt (0)) τ7 := by
  exfalso
  omega
theorem sp_232_eftt (a0 : Nat) (σ : zSg) (τ1 : zSg) (r1 : Int32) (τ11 : zSg) (r11 : Int32) (g1 : p_230 a0 (Int32.ofInt (0)) σ r1 τ1) (h2 : r1.toInt < (0 : Int)) (h10 : r1.toInt ≥ (0 : Int)) (g11 : p_176 a0 (Int32.ofInt (0)) (Int32.ofInt (1)) (q_w τ1 a0 14 (.int (q_i (τ1.1 a0 12)))) r11 τ11) (h12 : r11.toInt = (0 : Int)) (h13 : 0 ≤ (Int32.ofInt (1237)).toInt ∧ (Int32.ofInt (1237)).toInt < (τ11.2.1 (q_r (τ11.1 a0 1)) : Int)) :
    i_232 a0 σ a0 r1 (Int32.ofInt (0)) (q_w τ11 (q_r (τ11.1 a0 1)) (Int32.ofInt (1237)).toNatClampNeg (.int r1)) := by
  exfalso
  omega
theorem sp_232_eftf (a0 : Nat) (σ : zSg) (τ1 : zSg) (r1 : Int32) (τ11 : zSg) (r11 : Int32) (g1 : p_230 a0 (Int32.ofInt (0)) σ r1 τ1) (h2 : r1.toInt < (0 : Int)) (h10 : r1.toInt ≥ (0 : Int)) (g11 : p_176 a0 (Int32.ofInt (0)) (Int32.ofInt (1)) (q_w τ1 a0 14 (.int (q_i (τ1.1 a0 12)))) r11 τ11) (h12 : r11.toInt ≠ (0 : Int)) :
    p_232 (a0) σ (Int32.ofInt (0)) τ11 := by
  exfalso
  omega
theorem sp_232_efft (a0 : Nat) (σ : zSg) (τ1 : zSg) (r1 : Int32) (τ14 : zSg) (r14 : Int32) (g1 : p_230 a0 (Int32.ofInt (0)) σ r1 τ1) (h2 : r1.toInt < (0 : Int)) (h10 : r1.toInt < (0 : Int)) (g14 : p_176 a0 (Int32.ofInt (1)) (Int32.ofInt (1)) (q_w τ1 a0 14 (.int (q_i (τ1.1 a0 12)))) r14 τ14) (h15 : r14.toInt = (0 : Int)) (h16 : 0 ≤ (Int32.ofInt (1237)).toInt ∧ (Int32.ofInt (1237)).toInt < (τ14.2.1 (q_r (τ14.1 a0 1)) : Int)) :
    i_232 a0 σ a0 r1 (Int32.ofInt (0)) (q_w τ14 (q_r (τ14.1 a0 1)) (Int32.ofInt (1237)).toNatClampNeg (.int r1)) := by
  have := g14.1
  rw [this] at h15
  exact absurd h15 (by decide)
theorem sp_232_efff (a0 : Nat) (σ : zSg) (τ1 : zSg) (r1 : Int32) (τ14 : zSg) (r14 : Int32) (g1 : p_230 a0 (Int32.ofInt (0)) σ r1 τ1) (h2 : r1.toInt < (0 : Int)) (h10 : r1.toInt < (0 : Int)) (g14 : p_176 a0 (Int32.ofInt (1)) (Int32.ofInt (1)) (q_w τ1 a0 14 (.int (q_i (τ1.1 a0 12)))) r14 τ14) (h15 : r14.toInt ≠ (0 : Int)) :
    p_232 (a0) σ (Int32.ofInt (0)) τ14 := by
  intro W b E H
  have hW := H.2.2.2.1
  obtain ⟨fa, hz, R, hR, hT⟩ := g1 rfl W b E H
  cases R with
  | inl q =>
    exfalso
    obtain ⟨ls, l⟩ := q
    obtain ⟨e1, e2, -⟩ := hT
    rw [e1, o32 (by omega)] at h2
    omega
  | inr F =>
  obtain rfl := (g14.2.1 (by decide)).symm
  have q12 : q_i (τ1.1 a0 12) = Int32.ofNat F := by rw [hT.2]; rfl
  rw [q12]
  refine ⟨((rFL.ofA fa).tr (rFL.w (by omega))).tr (rFL.w (by omega)), ?_, _, hR, rfl, q_w_at _ _ _ _, ?_, ?_, fun k hk => ?_⟩
  · rw [q_w_ne (fun _ q => by omega), q_w_ne (fun _ q => by omega)]; exact hz.2
  · rw [q_w_ne (fun _ q => by omega), q_w_at]
  · rw [q_w_ne (fun _ q => by omega), q_w_ne (fun _ q => by omega)]
    exact fa.2 a0 7 (fun q => by omega) (fun q => hW q.1.symm)
  · rw [q_w_ne (fun q _ => hW q), q_w_ne (fun q _ => hW q)]
    exact fa.2 W k (fun q => hW q.1) (fun q => by omega)
theorem sp_232_c30_t (a0 : Nat) (σ : zSg) (l0 : Nat) (l1 : Int32) (l2 : Int32) (τ : zSg) (hI : i_232 a0 σ l0 l1 l2 τ) (h17 : l2.toInt ≥ (849 : Int)) (h18 : 0 ≤ (Int32.ofInt (3)).toInt ∧ (Int32.ofInt (3)).toInt < (τ.2.1 (q_r (τ.1 l0 1)) : Int)) :
    p_232 (a0) σ l1 (q_w (q_w τ (q_r (τ.1 l0 1)) (Int32.ofInt (3)).toNatClampNeg (.int (Int32.ofInt (1)))) l0 7 (.int (Int32.ofInt (0)))) := by
  obtain ⟨rfl, G⟩ := hI
  intro W b E H
  obtain ⟨hW, σ1, K, ls, l, rfl, hK, rfl, hR, rfl, h12, h400, fl, z9, z0, z14, q1, w0, hl, hs⟩ := G W b E H
  have q1x : q_r ((rCp σ1 W K).1 l0 1) = W := by rw [rCp_ne (fun q => hW q.1.symm), q1]; rfl
  rw [zofNat2 (by omega)] at h17
  have hK2 : K = 849 := by omega
  subst hK2
  have k1 : (Int32.ofInt 3).toNatClampNeg = 3 := rfl
  rw [q1x, k1]
  have na : ∀ k, k ≠ 7 → (q_w (q_w (rCp σ1 W 849) W 3 (.int (Int32.ofInt 1))) l0 7 (.int (Int32.ofInt 0))).1 l0 k = σ1.1 l0 k := by
    intro k hk
    rw [q_w_ne (fun _ q => hk q), q_w_ne (fun q _ => hW q.symm), rCp_ne (fun q => hW q.1.symm)]
  have nw : ∀ k, 388 ≤ k → k < 1237 → (q_w (q_w (rCp σ1 W 849) W 3 (.int (Int32.ofInt 1))) l0 7 (.int (Int32.ofInt 0))).1 W k = .int (q_i (σ1.1 W (k + 849))) := by
    intro k h1 h2
    rw [q_w_ne (fun q _ => hW q), q_w_ne (fun _ q => by omega), rCp_at (by omega)]
  refine ⟨((fl.tr rFL.cp).tr (rFL.ww (by omega))).tr (rFL.w (by omega)), ?_, _, hR, rfl, h12, ?_, ?_, q_w_at _ _ _ _, ?_, h400, ?_, ?_, ?_⟩
  · rw [na 9 (by omega)]; exact z9
  · rw [na 0 (by omega)]; exact z0
  · rw [na 14 (by omega)]; exact z14
  · rw [q_w_ne (fun q _ => hW q), q_w_at]
  · rw [nw 388 (by omega) (by omega), w0]; rfl
  · intro i x hx
    have hi : i < ls.length := (List.getElem?_eq_some_iff.mp hx).1
    obtain ⟨a1, a2, a3, a4⟩ := hl i x hx
    rw [nw _ (by omega) (by omega), nw _ (by omega) (by omega), nw _ (by omega) (by omega), nw _ (by omega) (by omega), show 389 + 4 * i + 849 = 1238 + 4 * i by omega, show 390 + 4 * i + 849 = 1239 + 4 * i by omega, show 391 + 4 * i + 849 = 1240 + 4 * i by omega, show 392 + 4 * i + 849 = 1241 + 4 * i by omega, a1, a2, a3, a4]
    exact ⟨rfl, rfl, rfl, rfl⟩
  · intro i x hx
    have hi : i < l.length := (List.getElem?_eq_some_iff.mp hx).1
    obtain ⟨a1, a2⟩ := hs i x hx
    rw [nw _ (by omega) (by omega), nw _ (by omega) (by omega), show 437 + 2 * i + 849 = 1286 + 2 * i by omega, show 438 + 2 * i + 849 = 1287 + 2 * i by omega, a1, a2]
    exact ⟨rfl, rfl⟩
theorem sp_232_c30_f (a0 : Nat) (σ : zSg) (l0 : Nat) (l1 : Int32) (l2 : Int32) (τ : zSg) (hI : i_232 a0 σ l0 l1 l2 τ) (h17 : l2.toInt < (849 : Int)) (h19 : 0 ≤ ((Int32.ofInt (1237)) + l2).toInt ∧ ((Int32.ofInt (1237)) + l2).toInt < (τ.2.1 (q_r (τ.1 l0 1)) : Int)) (h20 : 0 ≤ ((Int32.ofInt (388)) + l2).toInt ∧ ((Int32.ofInt (388)) + l2).toInt < (τ.2.1 (q_r (τ.1 l0 1)) : Int)) :
    i_232 a0 σ l0 l1 (l2 + Int32.ofInt (1)) (q_w τ (q_r (τ.1 l0 1)) ((Int32.ofInt (388)) + l2).toNatClampNeg (.int (q_i (τ.1 (q_r (τ.1 l0 1)) ((Int32.ofInt (1237)) + l2).toNatClampNeg)))) := by
  obtain ⟨rfl, G⟩ := hI
  refine ⟨rfl, fun W b E H => ?_⟩
  obtain ⟨hW, σ1, K, ls, l, rfl, hK, rfl, hR, rfl, h12, h400, fl, z9, z0, z14, q1, w0, hl, hs⟩ := G W b E H
  have q1x : q_r ((rCp σ1 W K).1 l0 1) = W := by rw [rCp_ne (fun q => hW q.1.symm), q1]; rfl
  rw [zofNat2 (by omega)] at h17
  have k1 : (Int32.ofInt 388 + Int32.ofNat K).toNatClampNeg = 388 + K := znat (by rw [zI_add (zI_c (by omega) (by omega)) (zofNat2 (by omega)) (by omega) (by omega)]; omega)
  have k2 : (Int32.ofInt 1237 + Int32.ofNat K).toNatClampNeg = 1237 + K := znat (by rw [zI_add (zI_c (by omega) (by omega)) (zofNat2 (by omega)) (by omega) (by omega)]; omega)
  rw [q1x, k1, k2, rCp_s (by omega), o32i (by omega)]
  exact ⟨hW, σ1, K + 1, ls, l, rfl, by omega, rfl, hR, rfl, h12, h400, fl, z9, z0, z14, q1, w0, hl, hs⟩
noncomputable def qP_232 : zPp := fun as σ o σ' => match as with
  | [a0] => ∃ r, o = .inl (some (.int r)) ∧ p_232 (q_r a0) σ r σ'
  | _ => True
set_option maxRecDepth 100000 in
theorem sp_232 {sx : zX} (S230 : zEe sx 230 2 qP_230) (S176 : zEe sx 176 3 qP_176) : zEe sx 232 1 qP_232 := by
  refine zfle zJ_232 (sps := [(230, 2, qP_230), (176, 3, qP_176)]) (fun q hq => by
    simp only [List.mem_cons, List.not_mem_nil, or_false] at hq
    rcases hq with rfl | rfl
    · exact S230
    · exact S176) (fun as σ hl => ?_)
  match as, hl with
  | [a0], _ =>
  refine ⟨[(30, fun lo st τ => st = [] ∧ i_232 (q_r a0) σ (q_r (lo 0)) (q_i (lo 1)) (q_i (lo 2)) τ)], 400, ?_, ?_⟩
  · intro q hq
    simp only [List.mem_cons, List.not_mem_nil, or_false] at hq
    rcases hq with rfl
    · rintro lo st τ ⟨rfl, hI⟩
      refine ⟨400, ?_⟩
      refine And.intro (fun h17 => ?_) (fun h17 => ?_)
      · refine fun h18 => ?_
        exact ⟨_, rfl, sp_232_c30_t (q_r a0) σ (q_r (lo 0)) (q_i (lo 1)) (q_i (lo 2)) τ hI (cm3t h17) (q_inp h18)⟩
      · refine fun h19 => ?_
        refine fun h20 => ?_
        exact ⟨rfl, sp_232_c30_f (q_r a0) σ (q_r (lo 0)) (q_i (lo 1)) (q_i (lo 2)) τ hI (cm3f h17) (q_inp h19) (q_inp h20)⟩
  · refine fun o1 τ1 g1 => ?_
    obtain ⟨r1, rfl, g1⟩ := g1
    refine And.intro (fun h2 => ?_) (fun h2 => ?_)
    · refine And.intro (fun h3 => ?_) (fun h3 => ?_)
      · refine fun o4 τ4 g4 => ?_
        obtain ⟨r4, rfl, g4⟩ := g4
        refine And.intro (fun h5 => ?_) (fun h5 => ?_)
        · refine fun h6 => ?_
          exact ⟨rfl, sp_232_ettt (q_r a0) σ τ1 r1 τ4 r4 g1 (cm3t h2) (cm3t h3) g4 (cm0t h5) (q_inp h6)⟩
        · exact ⟨_, rfl, sp_232_ettf (q_r a0) σ τ1 r1 τ4 r4 g1 (cm3t h2) (cm3t h3) g4 (cm0f h5)⟩
      · refine fun o7 τ7 g7 => ?_
        obtain ⟨r7, rfl, g7⟩ := g7
        refine And.intro (fun h8 => ?_) (fun h8 => ?_)
        · refine fun h9 => ?_
          exact ⟨rfl, sp_232_etft (q_r a0) σ τ1 r1 τ7 r7 g1 (cm3t h2) (cm3f h3) g7 (cm0t h8) (q_inp h9)⟩
        · exact ⟨_, rfl, sp_232_etff (q_r a0) σ τ1 r1 τ7 r7 g1 (cm3t h2) (cm3f h3) g7 (cm0f h8)⟩
    · refine And.intro (fun h10 => ?_) (fun h10 => ?_)
      · refine fun o11 τ11 g11 => ?_
        obtain ⟨r11, rfl, g11⟩ := g11
        refine And.intro (fun h12 => ?_) (fun h12 => ?_)
        · refine fun h13 => ?_
          exact ⟨rfl, sp_232_eftt (q_r a0) σ τ1 r1 τ11 r11 g1 (cm3f h2) (cm3t h10) g11 (cm0t h12) (q_inp h13)⟩
        · exact ⟨_, rfl, sp_232_eftf (q_r a0) σ τ1 r1 τ11 r11 g1 (cm3f h2) (cm3t h10) g11 (cm0f h12)⟩
      · refine fun o14 τ14 g14 => ?_
        obtain ⟨r14, rfl, g14⟩ := g14
        refine And.intro (fun h15 => ?_) (fun h15 => ?_)
        · refine fun h16 => ?_
          exact ⟨rfl, sp_232_efft (q_r a0) σ τ1 r1 τ14 r14 g1 (cm3f h2) (cm3f h10) g14 (cm0t h15) (q_inp h16)⟩
        · exact ⟨_, rfl, sp_232_efff (q_r a0) σ τ1 r1 τ14 r14 g1 (cm3f h2) (cm3f h10) g14 (cm0f h15)⟩
end
section
/-! the reference's texts of a deed, exact; printed with wip/gen/gen_d2.py -/
noncomputable def p_229d (a : Nat) (dd n : Int32) (σ : zSg) (r : Int32) (σ' : zSg) : Prop := a = 205 → dd.toInt ≠ 0 → ∀ b P E nf nt A N, rD σ b P E A → A 0 = Int32.ofNat nf → nf ≤ 6 → A 1 = Int32.ofNat nt → nt ≤ 8 → n = Int32.ofNat N → N ≤ 14 → rDF σ σ' ∧ (N = 14 → r.toInt = 0 ∧ σ'.1 205 12 = .int (Int32.ofNat (zBl b E P))) ∧ (N < 14 → rOL σ' b E nf nt A r (dLine b E nf nt (zBl b E P)))
theorem sd_229_ett (a0 : Nat) (a1 : Int32) (a2 : Int32) (σ : zSg) (τ1 : zSg) (g1 : p_203 a0 σ τ1) (h2 : a1.toInt = (0 : Int)) (h3 : a2.toInt ≥ (12 : Int)) :
    p_229d (a0) (a1) (a2) σ (Int32.ofInt (0)) τ1 := by
  intro _ hd
  exact absurd h2 hd
theorem sd_229_etftt (a0 : Nat) (a1 : Int32) (a2 : Int32) (σ : zSg) (τ1 : zSg) (τ5 : zSg) (r5 : Int32) (g1 : p_203 a0 σ τ1) (h2 : a1.toInt = (0 : Int)) (h3 : a2.toInt < (12 : Int)) (h4 : a1.toInt = (0 : Int)) (g5 : p_228 a0 a2 τ1 r5 τ5) (h6 : r5.toInt = (0 : Int)) :
    p_229d (a0) (a1) (a2) σ (Int32.ofInt (0)) τ5 := by
  intro _ hd
  exact absurd h2 hd
theorem sd_229_etftf (a0 : Nat) (a1 : Int32) (a2 : Int32) (σ : zSg) (τ1 : zSg) (τ5 : zSg) (r5 : Int32) (g1 : p_203 a0 σ τ1) (h2 : a1.toInt = (0 : Int)) (h3 : a2.toInt < (12 : Int)) (h4 : a1.toInt = (0 : Int)) (g5 : p_228 a0 a2 τ1 r5 τ5) (h6 : r5.toInt ≠ (0 : Int)) :
    p_229d (a0) (a1) (a2) σ (Int32.ofInt (1)) τ5 := by
  intro _ hd
  exact absurd h2 hd
theorem sd_229_etfft (a0 : Nat) (a1 : Int32) (a2 : Int32) (σ : zSg) (τ1 : zSg) (τ7 : zSg) (r7 : Int32) (g1 : p_203 a0 σ τ1) (h2 : a1.toInt = (0 : Int)) (h3 : a2.toInt < (12 : Int)) (h4 : a1.toInt ≠ (0 : Int)) (g7 : p_220 a0 τ1 r7 τ7) (h8 : r7.toInt = (0 : Int)) :
    p_229d (a0) (a1) (a2) σ (Int32.ofInt (0)) τ7 := by
  intro _ hd
  exact absurd h2 hd
theorem sd_229_etfff (a0 : Nat) (a1 : Int32) (a2 : Int32) (σ : zSg) (τ1 : zSg) (τ7 : zSg) (r7 : Int32) (g1 : p_203 a0 σ τ1) (h2 : a1.toInt = (0 : Int)) (h3 : a2.toInt < (12 : Int)) (h4 : a1.toInt ≠ (0 : Int)) (g7 : p_220 a0 τ1 r7 τ7) (h8 : r7.toInt ≠ (0 : Int)) :
    p_229d (a0) (a1) (a2) σ (Int32.ofInt (1)) τ7 := by
  intro _ hd
  exact absurd h2 hd
theorem sd_229_eft (a0 : Nat) (a1 : Int32) (a2 : Int32) (σ : zSg) (τ1 : zSg) (g1 : p_203 a0 σ τ1) (h2 : a1.toInt ≠ (0 : Int)) (h9 : a2.toInt ≥ (14 : Int)) :
    p_229d (a0) (a1) (a2) σ (Int32.ofInt (0)) τ1 := by
  rintro rfl hd b P E nf nt A N H h0 hf h1 ht rfl hN
  obtain ⟨f1, t12, H1⟩ := H.lt g1
  rw [o32 (by omega)] at h9
  exact ⟨f1, fun _ => ⟨rfl, t12⟩, fun q => by omega⟩
theorem sd_229_efftt (a0 : Nat) (a1 : Int32) (a2 : Int32) (σ : zSg) (τ1 : zSg) (τ11 : zSg) (r11 : Int32) (g1 : p_203 a0 σ τ1) (h2 : a1.toInt ≠ (0 : Int)) (h9 : a2.toInt < (14 : Int)) (h10 : a1.toInt = (0 : Int)) (g11 : p_228 a0 a2 τ1 r11 τ11) (h12 : r11.toInt = (0 : Int)) :
    p_229d (a0) (a1) (a2) σ (Int32.ofInt (0)) τ11 := by
  exact absurd h10 h2
theorem sd_229_efftf (a0 : Nat) (a1 : Int32) (a2 : Int32) (σ : zSg) (τ1 : zSg) (τ11 : zSg) (r11 : Int32) (g1 : p_203 a0 σ τ1) (h2 : a1.toInt ≠ (0 : Int)) (h9 : a2.toInt < (14 : Int)) (h10 : a1.toInt = (0 : Int)) (g11 : p_228 a0 a2 τ1 r11 τ11) (h12 : r11.toInt ≠ (0 : Int)) :
    p_229d (a0) (a1) (a2) σ (Int32.ofInt (1)) τ11 := by
  exact absurd h10 h2
theorem sd_229_effft (a0 : Nat) (a1 : Int32) (a2 : Int32) (σ : zSg) (τ1 : zSg) (τ13 : zSg) (r13 : Int32) (g1 : p_203 a0 σ τ1) (h2 : a1.toInt ≠ (0 : Int)) (h9 : a2.toInt < (14 : Int)) (h10 : a1.toInt ≠ (0 : Int)) (g13 : p_220 a0 τ1 r13 τ13) (h14 : r13.toInt = (0 : Int)) :
    p_229d (a0) (a1) (a2) σ (Int32.ofInt (0)) τ13 := by
  rintro rfl hd b P E nf nt A N H h0 hf h1 ht rfl hN
  obtain ⟨f1, t12, H1⟩ := H.lt g1
  rw [o32 (by omega)] at h9
  obtain ⟨f2, g⟩ := g13 rfl b _ E nf nt A ⟨H1, t12, h0, hf, h1, ht⟩
  refine ⟨f1.tr f2, fun q => by omega, fun _ => ?_⟩
  cases hR : dLine b E nf nt (zBl b E P) with
  | inl q => rw [hR] at g; exact absurd h14 g.1
  | inr F => rw [hR] at g; exact ⟨rfl, g.2⟩
theorem sd_229_effff (a0 : Nat) (a1 : Int32) (a2 : Int32) (σ : zSg) (τ1 : zSg) (τ13 : zSg) (r13 : Int32) (g1 : p_203 a0 σ τ1) (h2 : a1.toInt ≠ (0 : Int)) (h9 : a2.toInt < (14 : Int)) (h10 : a1.toInt ≠ (0 : Int)) (g13 : p_220 a0 τ1 r13 τ13) (h14 : r13.toInt ≠ (0 : Int)) :
    p_229d (a0) (a1) (a2) σ (Int32.ofInt (1)) τ13 := by
  rintro rfl hd b P E nf nt A N H h0 hf h1 ht rfl hN
  obtain ⟨f1, t12, H1⟩ := H.lt g1
  rw [o32 (by omega)] at h9
  obtain ⟨f2, g⟩ := g13 rfl b _ E nf nt A ⟨H1, t12, h0, hf, h1, ht⟩
  refine ⟨f1.tr f2, fun q => by omega, fun _ => ?_⟩
  cases hR : dLine b E nf nt (zBl b E P) with
  | inl q => rw [hR] at g; exact ⟨by decide, g.2⟩
  | inr F => rw [hR] at g; exact absurd g.1 h14
noncomputable def qP_229d : zPp := fun as σ o σ' => match as with
  | [a0, a1, a2] => ∃ r, o = .inl (some (.int r)) ∧ p_229d (q_r a0) (q_i a1) (q_i a2) σ r σ'
  | _ => True
set_option maxRecDepth 100000 in
theorem sd_229 {sx : zX} (S203 : zEe sx 203 1 qP_203) (S228 : zEe sx 228 2 qP_228) (S220 : zEe sx 220 1 qP_220) : zEe sx 229 3 qP_229d := by
  refine zfle zJ_229 (sps := [(203, 1, qP_203), (228, 2, qP_228), (220, 1, qP_220)]) (fun q hq => by
    simp only [List.mem_cons, List.not_mem_nil, or_false] at hq
    rcases hq with rfl | rfl | rfl
    · exact S203
    · exact S228
    · exact S220) (fun as σ hl => ?_)
  match as, hl with
  | [a0, a1, a2], _ =>
  refine ⟨[], 400, ?_, ?_⟩
  · exact fun q hq => absurd hq List.not_mem_nil
  · refine fun o1 τ1 g1 => ?_
    obtain ⟨rfl, g1⟩ := g1
    refine And.intro (fun h2 => ?_) (fun h2 => ?_)
    · refine And.intro (fun h3 => ?_) (fun h3 => ?_)
      · exact ⟨_, rfl, sd_229_ett (q_r a0) (q_i a1) (q_i a2) σ τ1 g1 (cm0t h2) (cm3t h3)⟩
      · refine And.intro (fun h4 => ?_) (fun h4 => ?_)
        · refine fun o5 τ5 g5 => ?_
          obtain ⟨r5, rfl, g5⟩ := g5
          refine And.intro (fun h6 => ?_) (fun h6 => ?_)
          · exact ⟨_, rfl, sd_229_etftt (q_r a0) (q_i a1) (q_i a2) σ τ1 τ5 r5 g1 (cm0t h2) (cm3f h3) (cm0t h4) g5 (cm0t h6)⟩
          · exact ⟨_, rfl, sd_229_etftf (q_r a0) (q_i a1) (q_i a2) σ τ1 τ5 r5 g1 (cm0t h2) (cm3f h3) (cm0t h4) g5 (cm0f h6)⟩
        · refine fun o7 τ7 g7 => ?_
          obtain ⟨r7, rfl, g7⟩ := g7
          refine And.intro (fun h8 => ?_) (fun h8 => ?_)
          · exact ⟨_, rfl, sd_229_etfft (q_r a0) (q_i a1) (q_i a2) σ τ1 τ7 r7 g1 (cm0t h2) (cm3f h3) (cm0f h4) g7 (cm0t h8)⟩
          · exact ⟨_, rfl, sd_229_etfff (q_r a0) (q_i a1) (q_i a2) σ τ1 τ7 r7 g1 (cm0t h2) (cm3f h3) (cm0f h4) g7 (cm0f h8)⟩
    · refine And.intro (fun h9 => ?_) (fun h9 => ?_)
      · exact ⟨_, rfl, sd_229_eft (q_r a0) (q_i a1) (q_i a2) σ τ1 g1 (cm0f h2) (cm3t h9)⟩
      · refine And.intro (fun h10 => ?_) (fun h10 => ?_)
        · refine fun o11 τ11 g11 => ?_
          obtain ⟨r11, rfl, g11⟩ := g11
          refine And.intro (fun h12 => ?_) (fun h12 => ?_)
          · exact ⟨_, rfl, sd_229_efftt (q_r a0) (q_i a1) (q_i a2) σ τ1 τ11 r11 g1 (cm0f h2) (cm3f h9) (cm0t h10) g11 (cm0t h12)⟩
          · exact ⟨_, rfl, sd_229_efftf (q_r a0) (q_i a1) (q_i a2) σ τ1 τ11 r11 g1 (cm0f h2) (cm3f h9) (cm0t h10) g11 (cm0f h12)⟩
        · refine fun o13 τ13 g13 => ?_
          obtain ⟨r13, rfl, g13⟩ := g13
          refine And.intro (fun h14 => ?_) (fun h14 => ?_)
          · exact ⟨_, rfl, sd_229_effft (q_r a0) (q_i a1) (q_i a2) σ τ1 τ13 r13 g1 (cm0f h2) (cm3f h9) (cm0f h10) g13 (cm0t h14)⟩
          · exact ⟨_, rfl, sd_229_effff (q_r a0) (q_i a1) (q_i a2) σ τ1 τ13 r13 g1 (cm0f h2) (cm3f h9) (cm0f h10) g13 (cm0f h14)⟩
/-- ahead of a text -/
noncomputable def rE (σ : zSg) (b : Nat → Int) (E nf nt : Nat) (A : Nat → Int32) : Prop := σ.1 205 8 = .ref 211 ∧ rb σ 205 = b ∧ rW σ A ∧ σ.1 205 9 = .int (Int32.ofNat E) ∧ E ≤ 400 ∧ A 0 = Int32.ofNat nf ∧ nf ≤ 6 ∧ A 1 = Int32.ofNat nt ∧ nt ≤ 8
noncomputable def rEF (σ σ' : zSg) : Prop := σ'.2 = σ.2 ∧ ∀ c k, ¬ (c = 205 ∧ (k = 0 ∨ k = 9 ∨ k = 10 ∨ k = 11 ∨ k = 12 ∨ k = 16)) → ¬ (c = 206 ∧ k < 88) → σ'.1 c k = σ.1 c k
theorem rEF.tr {σ τ υ : zSg} (h1 : rEF σ τ) (h2 : rEF τ υ) : rEF σ υ := ⟨h2.1.trans h1.1, fun c k q1 q2 => (h2.2 c k q1 q2).trans (h1.2 c k q1 q2)⟩
theorem rEF.of {σ τ : zSg} (h : rDF σ τ) : rEF σ τ := ⟨h.1, fun c k q1 q2 => h.2 c k (fun q => q1 ⟨q.1, by omega⟩) q2⟩
theorem rEF.w {σ : zSg} {k : Nat} {v : Value} (h : k = 0 ∨ k = 9 ∨ k = 10 ∨ k = 11 ∨ k = 12 ∨ k = 16) : rEF σ (q_w σ 205 k v) := ⟨rfl, fun c i q1 _ => q_w_ne (fun e1 e2 => q1 ⟨e1, by omega⟩)⟩
theorem rEF.us {σ : zSg} : rEF σ (q_us σ 205) := (((rEF.w (by omega)).tr (rEF.w (by omega))).tr (rEF.w (by omega))).tr (rEF.w (by omega))
theorem rb_el {σ : zSg} {k : Nat} {v : Value} (h8 : σ.1 205 8 = .ref 211) (hk : k ≠ 8) : rb (q_w σ 205 k v) 205 = rb σ 205 := by
  funext i
  unfold rb
  rw [q_w_ne (c' := 205) (k' := 8) (fun _ q => by omega), h8]
  show (q_i ((q_w σ 205 k v).1 211 i)).toInt = (q_i (σ.1 211 i)).toInt
  rw [q_w_ne (fun q _ => by omega)]
theorem rW.el {σ : zSg} {k : Nat} {v : Value} {A : Nat → Int32} (H : rW σ A) (hk : k ≠ 1) : rW (q_w σ 205 k v) A := by
  refine ⟨?_, fun i hi => ?_⟩
  · rw [q_w_ne (fun _ q => by omega)]; exact H.1
  · rw [q_w_ne (fun q _ => by omega)]; exact H.2 i hi
theorem rD.el {σ : zSg} {b : Nat → Int} {P E k : Nat} {A : Nat → Int32} {v : Value} (H : rD σ b P E A) (hk : k ≠ 1 ∧ k ≠ 8 ∧ k ≠ 10 ∧ k ≠ 11) : rD (q_w σ 205 k v) b P E A := by
  obtain ⟨⟨g1, g2, g3, g4, g5⟩, h2, h3, h4⟩ := H
  refine ⟨⟨?_, ?_, ?_, g4, g5⟩, (rb_el h3 (by omega)).trans h2, ?_, h4.el (by omega)⟩
  · rw [q_w_ne (fun _ q => by omega)]; exact g1
  · rw [q_w_ne (fun _ q => by omega)]; exact g2
  · rw [q_w_ne (fun _ q => by omega)]; exact g3
  · rw [q_w_ne (fun _ q => by omega)]; exact h3
theorem rE.us {σ : zSg} {b : Nat → Int} {E nf nt : Nat} {A : Nat → Int32} (H : rE σ b E nf nt A) : rD (q_us σ 205) b 0 E A ∧ (q_us σ 205).1 205 0 = .int (Int32.ofInt 0) ∧ (q_us σ 205).1 205 9 = .int (Int32.ofInt 0) := by
  obtain ⟨h1, h2, h3, h4, h5, -⟩ := H
  have e9 : q_i (σ.1 205 9) = Int32.ofNat E := by rw [h4]; rfl
  unfold q_us
  rw [e9]
  have z : ∀ {τ : zSg} {k : Nat} {v : Value}, k ≠ 8 → τ.1 205 8 = .ref 211 → (q_w τ 205 k v).1 205 8 = .ref 211 := fun hk h => by rw [q_w_ne (fun _ q => by omega)]; exact h
  have a1 := z (v := .int (Int32.ofInt 0)) (show 0 ≠ 8 by omega) h1
  have a2 := z (v := .int (Int32.ofNat E)) (show 11 ≠ 8 by omega) a1
  have a3 := z (v := .int (Int32.ofInt 0)) (show 9 ≠ 8 by omega) a2
  have a4 := z (v := .int (Int32.ofInt 0)) (show 10 ≠ 8 by omega) a3
  refine ⟨⟨⟨?_, ?_, ?_, by omega, h5⟩, ?_, a4, ((((h3.el (by omega)).el (by omega)).el (by omega)).el (by omega))⟩, ?_, ?_⟩
  · rw [a4]; decide
  · rw [q_w_at]; rfl
  · rw [q_w_ne (fun _ q => by omega), q_w_ne (fun _ q => by omega), q_w_at]
  · rw [rb_el a3 (by omega), rb_el a2 (by omega), rb_el a1 (by omega), rb_el h1 (by omega)]; exact h2
  · rw [q_w_ne (fun _ q => by omega), q_w_ne (fun _ q => by omega), q_w_ne (fun _ q => by omega), q_w_at]
  · rw [q_w_ne (fun _ q => by omega), q_w_at]
theorem rDF.z {σ τ : zSg} {k : Nat} (h : rDF σ τ) (hk : k ≠ 10 ∧ k ≠ 12) : τ.1 205 k = σ.1 205 k := h.2 205 k (by omega) (by omega)
abbrev rDo (σ' : zSg) (nf nt : Nat) (A : Nat → Int32) (r : Int32) (R : List dOp ⊕ Nat) : Prop := match R with
  | .inl os => 0 ≤ r.toInt ∧ rW σ' (dApps os nf nt A)
  | .inr F => r.toInt = -1 ∧ σ'.1 205 12 = .int (Int32.ofNat F)
noncomputable def p_230d (a : Nat) (dd : Int32) (σ : zSg) (r : Int32) (σ' : zSg) : Prop := a = 205 → dd.toInt ≠ 0 → ∀ b E nf nt A, rE σ b E nf nt A → rEF σ σ' ∧ σ'.1 205 0 = .int (Int32.ofInt 0) ∧ σ'.1 205 9 = .int (Int32.ofInt 0) ∧ rDo σ' nf nt A r (dDeed b E nf nt)
noncomputable def i_230d (a : Nat) (dd : Int32) (σ : zSg) (l0 : Nat) (l1 l2 : Int32) (τ : zSg) : Prop := l0 = a ∧ l1 = dd ∧ (a = 205 → dd.toInt ≠ 0 → ∀ b E nf nt A, rE σ b E nf nt A → rEF σ τ ∧ τ.1 205 0 = .int (Int32.ofInt 0) ∧ τ.1 205 9 = .int (Int32.ofInt 0) ∧ ∃ P os N, l2 = Int32.ofNat N ∧ N ≤ 14 ∧ os.length = N ∧ rD τ b P E (dApps os nf nt A) ∧ dApps os nf nt A 0 = Int32.ofNat (nf + dFs os) ∧ nf + dFs os ≤ 6 ∧ dApps os nf nt A 1 = Int32.ofNat (nt + dTs os) ∧ nt + dTs os ≤ 8 ∧ dDeed b E nf nt = dText b E (14 - N) (nf + dFs os) (nt + dTs os) (zBl b E P) os)
theorem sd_230_et (a0 : Nat) (a1 : Int32) (σ : zSg) (τ1 : zSg) (τ2 : zSg) (g1 : p_210 a0 σ τ1) (g2 : p_202 a0 (q_w τ1 a0 16 (.int (Int32.ofInt (0)))) τ2) (h3 : (q_i (τ2.1 a0 10)).toInt ≠ (q_i (τ2.1 a0 11)).toInt) :
    i_230d a0 a1 σ a0 a1 (Int32.ofInt (0)) τ2 := by
  refine ⟨rfl, rfl, ?_⟩
  rintro rfl hd b E nf nt A H
  obtain rfl := g1
  obtain ⟨H1, z0, z9⟩ := H.us
  have H2 := H1.el (k := 16) (v := .int (Int32.ofInt 0)) (by omega)
  have h3 := g2 0 E H2.1
  rw [H2.2.1] at h3
  subst h3
  have H3 := H2.rs (K := zBl b E 0) (Q := zBl b E 0) (zBl_le (by omega))
  have ff : rEF σ (q_rs (q_w (q_us σ 205) 205 16 (.int (Int32.ofInt 0))) 205 (zBl b E 0) (zBl b E 0)) := (rEF.us.tr (rEF.w (by omega))).tr (rEF.of rDF.rs)
  have y0 : (q_rs (q_w (q_us σ 205) 205 16 (.int (Int32.ofInt 0))) 205 (zBl b E 0) (zBl b E 0)).1 205 0 = .int (Int32.ofInt 0) := by rw [rDF.rs.z (by omega), q_w_ne (fun _ q => by omega)]; exact z0
  have y9 : (q_rs (q_w (q_us σ 205) 205 16 (.int (Int32.ofInt 0))) 205 (zBl b E 0) (zBl b E 0)).1 205 9 = .int (Int32.ofInt 0) := by rw [rDF.rs.z (by omega), q_w_ne (fun _ q => by omega)]; exact z9
  rw [q_rs_10, H3.1.2.2.1] at h3
  have hle := H3.le
  simp only [q_ii] at h3
  rw [o32 (by omega), o32 (by omega)] at h3
  refine ⟨ff, y0, y9, zBl b E 0, [], 0, rfl, by omega, rfl, H3, H.2.2.2.2.2.1, H.2.2.2.2.2.2.1, H.2.2.2.2.2.2.2.1, H.2.2.2.2.2.2.2.2, ?_⟩
  unfold dDeed
  rw [if_neg (by omega), zBl_bl]
  rfl
theorem sd_230_ef (a0 : Nat) (a1 : Int32) (σ : zSg) (τ1 : zSg) (τ2 : zSg) (g1 : p_210 a0 σ τ1) (g2 : p_202 a0 (q_w τ1 a0 16 (.int (Int32.ofInt (0)))) τ2) (h3 : (q_i (τ2.1 a0 10)).toInt = (q_i (τ2.1 a0 11)).toInt) :
    p_230d (a0) (a1) σ (Int32.ofInt (0)) τ2 := by
  rintro rfl hd b E nf nt A H
  obtain rfl := g1
  obtain ⟨H1, z0, z9⟩ := H.us
  have H2 := H1.el (k := 16) (v := .int (Int32.ofInt 0)) (by omega)
  have h3 := g2 0 E H2.1
  rw [H2.2.1] at h3
  subst h3
  have H3 := H2.rs (K := zBl b E 0) (Q := zBl b E 0) (zBl_le (by omega))
  have ff : rEF σ (q_rs (q_w (q_us σ 205) 205 16 (.int (Int32.ofInt 0))) 205 (zBl b E 0) (zBl b E 0)) := (rEF.us.tr (rEF.w (by omega))).tr (rEF.of rDF.rs)
  have y0 : (q_rs (q_w (q_us σ 205) 205 16 (.int (Int32.ofInt 0))) 205 (zBl b E 0) (zBl b E 0)).1 205 0 = .int (Int32.ofInt 0) := by rw [rDF.rs.z (by omega), q_w_ne (fun _ q => by omega)]; exact z0
  have y9 : (q_rs (q_w (q_us σ 205) 205 16 (.int (Int32.ofInt 0))) 205 (zBl b E 0) (zBl b E 0)).1 205 9 = .int (Int32.ofInt 0) := by rw [rDF.rs.z (by omega), q_w_ne (fun _ q => by omega)]; exact z9
  rw [q_rs_10, H3.1.2.2.1] at h3
  have hle := H3.le
  simp only [q_ii] at h3
  rw [o32 (by omega), o32 (by omega)] at h3
  refine ⟨ff, y0, y9, ?_⟩
  unfold dDeed
  rw [if_pos (by omega)]
  exact ⟨by decide, H3.w⟩
theorem sd_230_c16_ttt (a0 : Nat) (a1 : Int32) (σ : zSg) (l0 : Nat) (l1 : Int32) (l2 : Int32) (τ : zSg) (τ4 : zSg) (r4 : Int32) (τ6 : zSg) (τ8 : zSg) (r8 : Int32) (hI : i_230d a0 a1 σ l0 l1 l2 τ) (g4 : p_229d l0 l1 l2 τ r4 τ4) (h5 : r4.toInt ≠ (0 : Int)) (g6 : p_202 l0 τ4 τ6) (h7 : (q_i (τ6.1 l0 10)).toInt ≠ (q_i (τ6.1 l0 11)).toInt) (g8 : p_201 l0 (Int32.ofInt (59)) (Int32.ofInt (59)) τ6 r8 τ8) (h9 : r8.toInt ≠ (0 : Int)) :
    i_230d a0 a1 σ l0 l1 (l2 + Int32.ofInt (1)) (q_w τ8 l0 10 (.int ((q_i (τ8.1 l0 10)) + (Int32.ofInt (1))))) := by
  obtain ⟨rfl, rfl, hI⟩ := hI
  refine ⟨rfl, rfl, ?_⟩
  rintro rfl hd b E nf nt A H
  obtain ⟨ff, y0, y9, P, os, N, rfl, hN, hos, H1, c0, cf, c1, ct, hT⟩ := hI rfl hd b E nf nt A H
  obtain ⟨f2, k14, kl⟩ := g4 rfl hd b P E _ _ _ N H1 c0 cf c1 ct rfl hN
  have n14 : N < 14 := by
    rcases Nat.lt_or_ge N 14 with h | h
    · exact h
    · exact absurd (k14 (by omega)).1 h5
  have g := kl n14
  obtain ⟨k, hk⟩ : ∃ k, 14 - N = k + 1 := ⟨13 - N, by omega⟩
  rw [hk] at hT
  unfold dText at hT
  cases hR : dLine b E (nf + dFs os) (nt + dTs os) (zBl b E P) with
  | inr F => rw [hR] at g; exact absurd g.1 h5
  | inl q =>
  obtain ⟨A1, o⟩ := q
  rw [hR] at g hT
  obtain ⟨-, P', rfl, H2⟩ := g
  dsimp only at hT
  have h3 := g6 P' E H2.1
  rw [H2.2.1] at h3
  subst h3
  have H3 := H2.rs (K := zBl b E P') (Q := zBl b E P') H2.bl
  have hle := H3.le
  rw [q_rs_10, H3.1.2.2.1] at h7
  simp only [q_ii] at h7
  rw [o32 (by omega), o32 (by omega)] at h7
  have ho := dLine_ok cf ct hR
  have hap : dApp (nf + dFs os) (nt + dTs os) (dApps os nf nt A) o = dApps (os ++ [o]) nf nt A := (dApps_app os [o] nf nt A).symm
  rw [hap] at H3
  have f3 : rDF τ (q_rs τ4 205 (zBl b E P') (zBl b E P')) := f2.tr rDF.rs
  have t9 := g8.t H3.1 h9
  obtain ⟨rfl, -⟩ := g8
  rw [H3.2.1] at t9
  have c59 : (Int32.ofInt 59).toInt = 59 := rfl
  rw [c59] at t9
  have hts : ts b E 59 (zBl b E P') = some (zBl b E (zBl b E P' + 1)) := by
    unfold ts
    rw [if_pos ⟨t9.1, by omega⟩]
  rw [if_neg (by omega), hts] at hT
  dsimp only at hT
  have e10 : q_i ((q_rs τ4 205 (zBl b E P') (zBl b E P')).1 205 10) + Int32.ofInt 1 = Int32.ofNat (zBl b E P' + 1) := by
    rw [q_rs_10]
    exact o32i (by omega)
  simp only [e10]
  have e11 : q_w (q_rs τ4 205 (zBl b E P') (zBl b E P')) 205 10 (.int (Int32.ofNat (zBl b E P' + 1))) = q_rs τ4 205 (zBl b E P' + 1) (zBl b E P') := q_rs_pt
  rw [e11]
  have H4 := H2.rs (K := zBl b E P' + 1) (Q := zBl b E P') (by omega)
  rw [hap] at H4
  have f4 : rDF τ (q_rs τ4 205 (zBl b E P' + 1) (zBl b E P')) := f2.tr rDF.rs
  have hc := dApp_01 ho c0 c1
  rw [hap] at hc
  have d1 : dFs (os ++ [o]) = dFs os + dF1 o := by rw [dFs_app]; rfl
  have d2 : dTs (os ++ [o]) = dTs os + dT1 o := by rw [dTs_app]; rfl
  refine ⟨ff.tr (rEF.of f4), (f4.z (by omega)).trans y0, (f4.z (by omega)).trans y9, zBl b E P' + 1, os ++ [o], N + 1, o32i (by omega), by omega, by rw [List.length_append, hos]; rfl, H4, ?_, ?_, ?_, ?_, ?_⟩
  · rw [d1, ← Nat.add_assoc]; exact hc.1
  · have := hc.2.2.1; omega
  · rw [d2, ← Nat.add_assoc]; exact hc.2.1
  · have := hc.2.2.2; omega
  · rw [hT, d1, d2, show 14 - (N + 1) = k by omega, Nat.add_assoc, Nat.add_assoc]
theorem sd_230_c16_ttf (a0 : Nat) (a1 : Int32) (σ : zSg) (l0 : Nat) (l1 : Int32) (l2 : Int32) (τ : zSg) (τ4 : zSg) (r4 : Int32) (τ6 : zSg) (τ8 : zSg) (r8 : Int32) (hI : i_230d a0 a1 σ l0 l1 l2 τ) (g4 : p_229d l0 l1 l2 τ r4 τ4) (h5 : r4.toInt ≠ (0 : Int)) (g6 : p_202 l0 τ4 τ6) (h7 : (q_i (τ6.1 l0 10)).toInt ≠ (q_i (τ6.1 l0 11)).toInt) (g8 : p_201 l0 (Int32.ofInt (59)) (Int32.ofInt (59)) τ6 r8 τ8) (h9 : r8.toInt = (0 : Int)) :
    p_230d (a0) (a1) σ (Int32.ofInt (-1)) τ8 := by
  obtain ⟨rfl, rfl, hI⟩ := hI
  rintro rfl hd b E nf nt A H
  obtain ⟨ff, y0, y9, P, os, N, rfl, hN, hos, H1, c0, cf, c1, ct, hT⟩ := hI rfl hd b E nf nt A H
  obtain ⟨f2, k14, kl⟩ := g4 rfl hd b P E _ _ _ N H1 c0 cf c1 ct rfl hN
  have n14 : N < 14 := by
    rcases Nat.lt_or_ge N 14 with h | h
    · exact h
    · exact absurd (k14 (by omega)).1 h5
  have g := kl n14
  obtain ⟨k, hk⟩ : ∃ k, 14 - N = k + 1 := ⟨13 - N, by omega⟩
  rw [hk] at hT
  unfold dText at hT
  cases hR : dLine b E (nf + dFs os) (nt + dTs os) (zBl b E P) with
  | inr F => rw [hR] at g; exact absurd g.1 h5
  | inl q =>
  obtain ⟨A1, o⟩ := q
  rw [hR] at g hT
  obtain ⟨-, P', rfl, H2⟩ := g
  dsimp only at hT
  have h3 := g6 P' E H2.1
  rw [H2.2.1] at h3
  subst h3
  have H3 := H2.rs (K := zBl b E P') (Q := zBl b E P') H2.bl
  have hle := H3.le
  rw [q_rs_10, H3.1.2.2.1] at h7
  simp only [q_ii] at h7
  rw [o32 (by omega), o32 (by omega)] at h7
  have ho := dLine_ok cf ct hR
  have hap : dApp (nf + dFs os) (nt + dTs os) (dApps os nf nt A) o = dApps (os ++ [o]) nf nt A := (dApps_app os [o] nf nt A).symm
  rw [hap] at H3
  have f3 : rDF τ (q_rs τ4 205 (zBl b E P') (zBl b E P')) := f2.tr rDF.rs
  have f9 := g8.f H3.1 h9
  obtain ⟨rfl, -⟩ := g8
  refine ⟨ff.tr (rEF.of f3), (f3.z (by omega)).trans y0, (f3.z (by omega)).trans y9, ?_⟩
  rw [H3.2.1] at f9
  have hts : ts b E 59 (zBl b E P') = none := by
    unfold ts
    rw [if_neg (fun q => f9 ⟨q.1, by rw [q.2]; decide, by rw [q.2]; decide⟩)]
  rw [hT, if_neg (by omega), hts]
  exact ⟨rfl, q_rs_12⟩
theorem sd_230_c16_tf (a0 : Nat) (a1 : Int32) (σ : zSg) (l0 : Nat) (l1 : Int32) (l2 : Int32) (τ : zSg) (τ4 : zSg) (r4 : Int32) (τ6 : zSg) (hI : i_230d a0 a1 σ l0 l1 l2 τ) (g4 : p_229d l0 l1 l2 τ r4 τ4) (h5 : r4.toInt ≠ (0 : Int)) (g6 : p_202 l0 τ4 τ6) (h7 : (q_i (τ6.1 l0 10)).toInt = (q_i (τ6.1 l0 11)).toInt) :
    p_230d (a0) (a1) σ (l2 + (Int32.ofInt (1))) τ6 := by
  obtain ⟨rfl, rfl, hI⟩ := hI
  rintro rfl hd b E nf nt A H
  obtain ⟨ff, y0, y9, P, os, N, rfl, hN, hos, H1, c0, cf, c1, ct, hT⟩ := hI rfl hd b E nf nt A H
  obtain ⟨f2, k14, kl⟩ := g4 rfl hd b P E _ _ _ N H1 c0 cf c1 ct rfl hN
  have n14 : N < 14 := by
    rcases Nat.lt_or_ge N 14 with h | h
    · exact h
    · exact absurd (k14 (by omega)).1 h5
  have g := kl n14
  obtain ⟨k, hk⟩ : ∃ k, 14 - N = k + 1 := ⟨13 - N, by omega⟩
  rw [hk] at hT
  unfold dText at hT
  cases hR : dLine b E (nf + dFs os) (nt + dTs os) (zBl b E P) with
  | inr F => rw [hR] at g; exact absurd g.1 h5
  | inl q =>
  obtain ⟨A1, o⟩ := q
  rw [hR] at g hT
  obtain ⟨-, P', rfl, H2⟩ := g
  dsimp only at hT
  have h3 := g6 P' E H2.1
  rw [H2.2.1] at h3
  subst h3
  have H3 := H2.rs (K := zBl b E P') (Q := zBl b E P') H2.bl
  have hle := H3.le
  rw [q_rs_10, H3.1.2.2.1] at h7
  simp only [q_ii] at h7
  rw [o32 (by omega), o32 (by omega)] at h7
  have ho := dLine_ok cf ct hR
  have hap : dApp (nf + dFs os) (nt + dTs os) (dApps os nf nt A) o = dApps (os ++ [o]) nf nt A := (dApps_app os [o] nf nt A).symm
  rw [hap] at H3
  have f3 : rDF τ (q_rs τ4 205 (zBl b E P') (zBl b E P')) := f2.tr rDF.rs
  refine ⟨ff.tr (rEF.of f3), (f3.z (by omega)).trans y0, (f3.z (by omega)).trans y9, ?_⟩
  rw [hT, if_pos (by omega)]
  refine ⟨?_, H3.w⟩
  rw [o32i (by omega), o32 (by omega)]
  omega
theorem sd_230_c16_f (a0 : Nat) (a1 : Int32) (σ : zSg) (l0 : Nat) (l1 : Int32) (l2 : Int32) (τ : zSg) (τ4 : zSg) (r4 : Int32) (hI : i_230d a0 a1 σ l0 l1 l2 τ) (g4 : p_229d l0 l1 l2 τ r4 τ4) (h5 : r4.toInt = (0 : Int)) :
    p_230d (a0) (a1) σ (Int32.ofInt (-1)) τ4 := by
  obtain ⟨rfl, rfl, hI⟩ := hI
  rintro rfl hd b E nf nt A H
  obtain ⟨ff, y0, y9, P, os, N, rfl, hN, hos, H1, c0, cf, c1, ct, hT⟩ := hI rfl hd b E nf nt A H
  obtain ⟨f2, k14, kl⟩ := g4 rfl hd b P E _ _ _ N H1 c0 cf c1 ct rfl hN
  refine ⟨ff.tr (rEF.of f2), (f2.z (by omega)).trans y0, (f2.z (by omega)).trans y9, ?_⟩
  rw [hT]
  rcases Nat.lt_or_ge N 14 with n14 | n14
  · have g := kl n14
    obtain ⟨k, hk⟩ : ∃ k, 14 - N = k + 1 := ⟨13 - N, by omega⟩
    rw [hk]
    unfold dText
    cases hR : dLine b E (nf + dFs os) (nt + dTs os) (zBl b E P) with
    | inr F => rw [hR] at g; exact ⟨rfl, g.2⟩
    | inl q => rw [hR] at g; exact absurd h5 g.1
  · rw [show 14 - N = 0 by omega]
    exact ⟨rfl, (k14 (by omega)).2⟩
noncomputable def qP_230d : zPp := fun as σ o σ' => match as with
  | [a0, a1] => ∃ r, o = .inl (some (.int r)) ∧ p_230d (q_r a0) (q_i a1) σ r σ'
  | _ => True
set_option maxRecDepth 100000 in
theorem sd_230 {sx : zX} (S210 : zEe sx 210 1 qP_210) (S202 : zEe sx 202 1 qP_202) (S229 : zEe sx 229 3 qP_229d) (S201 : zEe sx 201 3 qP_201) : zEe sx 230 2 qP_230d := by
  refine zfle zJ_230 (sps := [(210, 1, qP_210), (202, 1, qP_202), (229, 3, qP_229d), (201, 3, qP_201)]) (fun q hq => by
    simp only [List.mem_cons, List.not_mem_nil, or_false] at hq
    rcases hq with rfl | rfl | rfl | rfl
    · exact S210
    · exact S202
    · exact S229
    · exact S201) (fun as σ hl => ?_)
  match as, hl with
  | [a0, a1], _ =>
  refine ⟨[(16, fun lo st τ => st = [] ∧ i_230d (q_r a0) (q_i a1) σ (q_r (lo 0)) (q_i (lo 1)) (q_i (lo 2)) τ)], 400, ?_, ?_⟩
  · intro q hq
    simp only [List.mem_cons, List.not_mem_nil, or_false] at hq
    rcases hq with rfl
    · rintro lo st τ ⟨rfl, hI⟩
      refine ⟨400, ?_⟩
      refine fun o4 τ4 g4 => ?_
      obtain ⟨r4, rfl, g4⟩ := g4
      refine And.intro (fun h5 => ?_) (fun h5 => ?_)
      · refine fun o6 τ6 g6 => ?_
        obtain ⟨rfl, g6⟩ := g6
        refine And.intro (fun h7 => ?_) (fun h7 => ?_)
        · refine fun o8 τ8 g8 => ?_
          obtain ⟨r8, rfl, g8⟩ := g8
          refine And.intro (fun h9 => ?_) (fun h9 => ?_)
          · exact ⟨rfl, sd_230_c16_ttt (q_r a0) (q_i a1) σ (q_r (lo 0)) (q_i (lo 1)) (q_i (lo 2)) τ τ4 r4 τ6 τ8 r8 hI g4 (cm1t h5) g6 (cm1t h7) g8 (cm1t h9)⟩
          · exact ⟨_, rfl, sd_230_c16_ttf (q_r a0) (q_i a1) σ (q_r (lo 0)) (q_i (lo 1)) (q_i (lo 2)) τ τ4 r4 τ6 τ8 r8 hI g4 (cm1t h5) g6 (cm1t h7) g8 (cm1f h9)⟩
        · exact ⟨_, rfl, sd_230_c16_tf (q_r a0) (q_i a1) σ (q_r (lo 0)) (q_i (lo 1)) (q_i (lo 2)) τ τ4 r4 τ6 hI g4 (cm1t h5) g6 (cm1f h7)⟩
      · exact ⟨_, rfl, sd_230_c16_f (q_r a0) (q_i a1) σ (q_r (lo 0)) (q_i (lo 1)) (q_i (lo 2)) τ τ4 r4 hI g4 (cm1f h5)⟩
  · refine fun o1 τ1 g1 => ?_
    obtain ⟨rfl, g1⟩ := g1
    refine fun o2 τ2 g2 => ?_
    obtain ⟨rfl, g2⟩ := g2
    refine And.intro (fun h3 => ?_) (fun h3 => ?_)
    · exact ⟨rfl, sd_230_et (q_r a0) (q_i a1) σ τ1 τ2 g1 g2 (cm1t h3)⟩
    · exact ⟨_, rfl, sd_230_ef (q_r a0) (q_i a1) σ τ1 τ2 g1 g2 (cm1f h3)⟩
end
section
/-! A HOUSE OF THE CLASS at cell b holds a row of ints: which place tells which of them -/
noncomputable def hKr (b c j d : Nat) : Prop := (c = b ∧ ((j = 0 ∧ d = b + 1) ∨ (j = 1 ∧ d = b + 2) ∨ (j = 2 ∧ d = b + 7) ∨ (j = 3 ∧ d = b + 10) ∨ (j = 4 ∧ d = b + 12))) ∨ (c = b + 2 ∧ j ≤ 3 ∧ d = b + 3 + j) ∨ (c = b + 7 ∧ j ≤ 1 ∧ d = b + 8 + j) ∨ (c = b + 10 ∧ j = 0 ∧ d = b + 11)
noncomputable def hPr (b k c j : Nat) : Prop := (k = 0 ∧ c = b + 2 ∧ j = 4) ∨ (k = 1 ∧ c = b + 7 ∧ j = 3) ∨ (k = 2 ∧ c = b ∧ j = 6) ∨ (4 ≤ k ∧ k ≤ 13 ∧ c = b ∧ j = k + 3) ∨ (k = 14 ∧ c = b + 10 ∧ j = 2) ∨ (k = 15 ∧ c = b ∧ j = 17) ∨ (16 ≤ k ∧ k < 40 ∧ c = b + 1 ∧ j + 16 = k) ∨ (j < 6 ∧ b + 3 ≤ c ∧ c ≤ b + 6 ∧ k + b + 3 = 40 + 4 * j + c) ∨ (j < 8 ∧ c = b + 8 ∧ k = 64 + 3 * j) ∨ (j < 8 ∧ c = b + 9 ∧ k = 65 + 3 * j)
noncomputable def hLe (σ : zSg) (b : Nat) (A : Nat → Int32) : Prop := ∃ l : Int32, σ.1 (b + 7) 2 = .int l ∧ ∀ t, t < 8 → A (66 + 3 * t) = if btb l (Int32.ofNat t) = true then Int32.ofInt 1 else Int32.ofInt 0
noncomputable def hGe (σ : zSg) (b : Nat) (A : Nat → Int32) : Prop := ∃ nx, nx < 60 ∧ σ.1 (b + 10) 1 = .int (Int32.ofNat nx) ∧ ∀ i j, i < 60 → j < 5 → σ.1 (b + 11) (5 * ((nx + 59 - i) % 60) + j) = .int (A (88 + 5 * i + j))
noncomputable def hWe (σ : zSg) (b : Nat) (A : Nat → Int32) : Prop := (σ.1 b 5 = .null ∧ A 3 = Int32.ofInt 0) ∨ (∃ r, σ.1 b 5 = .ref r ∧ A 3 = Int32.ofInt 1)
noncomputable def hH (σ : zSg) (b : Nat) (A : Nat → Int32) : Prop := (∀ c j d, hKr b c j d → σ.1 c j = .ref d) ∧ (∀ k c j, hPr b k c j → σ.1 c j = .int (A k)) ∧ hLe σ b A ∧ hGe σ b A ∧ hWe σ b A ∧ σ.2.1 (b + 11) = 300 ∧ σ.2.1 (b + 12) = 8
/-- nothing else is changed -/
noncomputable def hHF (b : Nat) (σ σ' : zSg) : Prop := σ'.2 = σ.2 ∧ ∀ c k, ¬ (b ≤ c ∧ c ≤ b + 12 ∧ ¬ (c = b ∧ k = 5)) → σ'.1 c k = σ.1 c k
section HHL
variable {σ τ υ : zSg} {b : Nat} {A B : Nat → Int32}
theorem hPr.inj {k k' c j : Nat} (h : hPr b k c j) (h' : hPr b k' c j) : k = k' := by
  unfold hPr at h h'
  omega
theorem hPr.fn {k c j c' j' : Nat} (h : hPr b k c j) (h' : hPr b k c' j') : c = c' ∧ j = j' := by
  unfold hPr at h h'
  omega
theorem hPr.sk {k c j d : Nat} (h : hPr b k c j) (h' : hKr b c j d) : False := by
  unfold hPr at h
  unfold hKr at h'
  omega
theorem hPr.no {k c j : Nat} (h : hPr b k c j) : k < 88 ∧ k ≠ 3 ∧ (∀ t, k ≠ 66 + 3 * t) ∧ ¬ (c = b + 7 ∧ j = 2) ∧ ¬ (c = b + 10 ∧ j = 1) ∧ c ≠ b + 11 ∧ ¬ (c = b ∧ j = 5) ∧ b ≤ c ∧ c ≤ b + 12 := by
  unfold hPr at h
  refine ⟨by omega, by omega, fun t => by omega, by omega, by omega, by omega, by omega, by omega, by omega⟩
theorem hH.k (H : hH σ b A) {c j d : Nat} (h : hKr b c j d) : q_r (σ.1 c j) = d := by rw [H.1 c j d h]; rfl
theorem hH.p (H : hH σ b A) {k c j : Nat} (h : hPr b k c j) : q_i (σ.1 c j) = A k := by rw [H.2.1 k c j h]; rfl
theorem hH.ww {k c j : Nat} {v : Int32} (H : hH σ b A) (h : hPr b k c j) : hH (q_w σ c j (.int v)) b (aU A k v) := by
  obtain ⟨h1, h2, ⟨l, h3, h3'⟩, ⟨nx, h4, h4', h4''⟩, h5, h6, h7⟩ := H
  obtain ⟨n1, n2, n3, n4, n5, n6, n7, -, -⟩ := h.no
  refine ⟨fun c' j' d hk => ?_, fun k' c' j' hp => ?_, ⟨l, ?_, fun t ht => ?_⟩, ⟨nx, h4, ?_, fun i i' hi hj => ?_⟩, ?_, h6, h7⟩
  · rw [q_w_ne (fun e1 e2 => by subst e1; subst e2; exact h.sk hk)]; exact h1 c' j' d hk
  · by_cases he : k' = k
    · subst he
      obtain ⟨rfl, rfl⟩ := h.fn hp
      rw [aU_at, q_w_at]
    · rw [aU_ne he, q_w_ne (fun e1 e2 => by subst e1; subst e2; exact he (hp.inj h))]
      exact h2 k' c' j' hp
  · rw [q_w_ne (fun e1 e2 => n4 ⟨e1.symm, e2.symm⟩)]; exact h3
  · rw [aU_ne (fun e => n3 t e.symm)]; exact h3' t ht
  · rw [q_w_ne (fun e1 e2 => n5 ⟨e1.symm, e2.symm⟩)]; exact h4'
  · rw [q_w_ne (fun e1 e2 => n6 e1.symm), aU_ne (by omega)]; exact h4'' i i' hi hj
  · rcases h5 with ⟨g1, g2⟩ | ⟨r, g1, g2⟩
    · exact Or.inl ⟨by rw [q_w_ne (fun e1 e2 => n7 ⟨e1.symm, e2.symm⟩)]; exact g1, by rw [aU_ne (fun e => n2 e.symm)]; exact g2⟩
    · exact Or.inr ⟨r, by rw [q_w_ne (fun e1 e2 => n7 ⟨e1.symm, e2.symm⟩)]; exact g1, by rw [aU_ne (fun e => n2 e.symm)]; exact g2⟩
/-- what is left in the house -/
theorem hH.wl {l' v : Int32} {t0 : Nat} (H : hH σ b A) (h0 : t0 < 8) (hv : v = if btb l' (Int32.ofNat t0) = true then Int32.ofInt 1 else Int32.ofInt 0) (hl : ∀ t, t < 8 → t ≠ t0 → btb l' (Int32.ofNat t) = btb (q_i (σ.1 (b + 7) 2)) (Int32.ofNat t)) : hH (q_w σ (b + 7) 2 (.int l')) b (aU A (66 + 3 * t0) v) := by
  obtain ⟨h1, h2, ⟨l, h3, h3'⟩, ⟨nx, h4, h4', h4''⟩, h5, h6, h7⟩ := H
  refine ⟨fun c' j' d hk => ?_, fun k' c' j' hp => ?_, ⟨l', q_w_at _ _ _ _, fun t ht => ?_⟩, ⟨nx, h4, ?_, fun i i' hi hj => ?_⟩, ?_, h6, h7⟩
  · rw [q_w_ne (fun e1 e2 => by unfold hKr at hk; omega)]; exact h1 c' j' d hk
  · have hn := hp.no
    rw [q_w_ne (fun e1 e2 => hn.2.2.2.1 ⟨e1, e2⟩), aU_ne (hn.2.2.1 t0)]
    exact h2 k' c' j' hp
  · by_cases he : t = t0
    · rw [he, aU_at]; exact hv
    · rw [aU_ne (by omega), h3' t ht, hl t ht he, h3]
      rfl
  · rw [q_w_ne (fun e1 e2 => by omega)]; exact h4'
  · rw [q_w_ne (fun e1 e2 => by omega), aU_ne (by omega)]; exact h4'' i i' hi hj
  · rcases h5 with ⟨g1, g2⟩ | ⟨r, g1, g2⟩
    · exact Or.inl ⟨by rw [q_w_ne (fun e1 e2 => by omega)]; exact g1, by rw [aU_ne (by omega)]; exact g2⟩
    · exact Or.inr ⟨r, by rw [q_w_ne (fun e1 e2 => by omega)]; exact g1, by rw [aU_ne (by omega)]; exact g2⟩
theorem hH.cg (H : hH σ b A) (h : ∀ k, k < 388 → A k = B k) : hH σ b B := by
  obtain ⟨h1, h2, ⟨l, h3, h3'⟩, ⟨nx, h4, h4', h4''⟩, h5, h6⟩ := H
  refine ⟨h1, fun k c j hp => ?_, ⟨l, h3, fun t ht => ?_⟩, ⟨nx, h4, h4', fun i j hi hj => ?_⟩, ?_, h6⟩
  · rw [← h k (by have := hp.no; omega)]; exact h2 k c j hp
  · rw [← h _ (by omega)]; exact h3' t ht
  · rw [← h _ (by omega)]; exact h4'' i j hi hj
  · unfold hWe
    rw [← h 3 (by omega)]
    exact h5
/-- cells elsewhere may change -/
theorem hH.fr (H : hH σ b A) (h2' : τ.2 = σ.2) (h : ∀ c j, b ≤ c → c ≤ b + 12 → τ.1 c j = σ.1 c j) : hH τ b A := by
  obtain ⟨h1, h2, ⟨l, h3, h3'⟩, ⟨nx, h4, h4', h4''⟩, h5, h6, h7⟩ := H
  refine ⟨fun c j d hk => ?_, fun k c j hp => ?_, ⟨l, ?_, h3'⟩, ⟨nx, h4, ?_, fun i j hi hj => ?_⟩, ?_, by rw [h2']; exact h6, by rw [h2']; exact h7⟩
  · rw [h c j (by unfold hKr at hk; omega) (by unfold hKr at hk; omega)]; exact h1 c j d hk
  · have hn := hp.no
    rw [h c j hn.2.2.2.2.2.2.2.1 hn.2.2.2.2.2.2.2.2]; exact h2 k c j hp
  · rw [h _ _ (by omega) (by omega)]; exact h3
  · rw [h _ _ (by omega) (by omega)]; exact h4'
  · rw [h _ _ (by omega) (by omega)]; exact h4'' i j hi hj
  · unfold hWe
    rw [h b 5 (by omega) (by omega)]
    exact h5
theorem hHF.rf : hHF b σ σ := ⟨rfl, fun _ _ _ => rfl⟩
theorem hHF.tr (h1 : hHF b σ τ) (h2 : hHF b τ υ) : hHF b σ υ := ⟨h2.1.trans h1.1, fun c k q => (h2.2 c k q).trans (h1.2 c k q)⟩
theorem hHF.w {k c j : Nat} {v : Value} (h : hPr b k c j) : hHF b σ (q_w σ c j v) := ⟨rfl, fun c' k' q => q_w_ne (fun e1 e2 => by have hn := h.no; exact q ⟨by omega, by omega, by omega⟩)⟩
theorem hHF.wl {v : Value} : hHF b σ (q_w σ (b + 7) 2 v) := ⟨rfl, fun c' k' q => q_w_ne (fun e1 e2 => q ⟨by omega, by omega, by omega⟩)⟩
end HHL
/-! the places, by name -/
theorem hp_0 {b : Nat}  : hPr b 0 (b + 2) 4 := Or.inl ⟨rfl, rfl, rfl⟩
theorem hp_1 {b : Nat}  : hPr b 1 (b + 7) 3 := Or.inr (Or.inl ⟨rfl, rfl, rfl⟩)
theorem hp_2 {b : Nat}  : hPr b 2 (b) 6 := Or.inr (Or.inr (Or.inl ⟨rfl, rfl, rfl⟩))
theorem hp_s {b : Nat} {k : Nat} (h1 : 4 ≤ k) (h2 : k ≤ 13) : hPr b k (b) (k + 3) := Or.inr (Or.inr (Or.inr (Or.inl ⟨h1, h2, rfl, rfl⟩)))
theorem hp_14 {b : Nat}  : hPr b 14 (b + 10) 2 := Or.inr (Or.inr (Or.inr (Or.inr (Or.inl ⟨rfl, rfl, rfl⟩))))
theorem hp_15 {b : Nat}  : hPr b 15 (b) 17 := Or.inr (Or.inr (Or.inr (Or.inr (Or.inr (Or.inl ⟨rfl, rfl, rfl⟩)))))
theorem hp_h {b : Nat} {h : Nat} (hh : h < 24) : hPr b (16 + h) (b + 1) h := Or.inr (Or.inr (Or.inr (Or.inr (Or.inr (Or.inr (Or.inl ⟨by omega, by omega, rfl, by omega⟩))))))
theorem hp_f0 {b : Nat} {f : Nat} (hf : f < 6) : hPr b (40 + 4 * f) (b + 3) f := Or.inr (Or.inr (Or.inr (Or.inr (Or.inr (Or.inr (Or.inr (Or.inl ⟨hf, by omega, by omega, by omega⟩)))))))
theorem hp_f1 {b : Nat} {f : Nat} (hf : f < 6) : hPr b (41 + 4 * f) (b + 4) f := Or.inr (Or.inr (Or.inr (Or.inr (Or.inr (Or.inr (Or.inr (Or.inl ⟨hf, by omega, by omega, by omega⟩)))))))
theorem hp_f2 {b : Nat} {f : Nat} (hf : f < 6) : hPr b (42 + 4 * f) (b + 5) f := Or.inr (Or.inr (Or.inr (Or.inr (Or.inr (Or.inr (Or.inr (Or.inl ⟨hf, by omega, by omega, by omega⟩)))))))
theorem hp_f3 {b : Nat} {f : Nat} (hf : f < 6) : hPr b (43 + 4 * f) (b + 6) f := Or.inr (Or.inr (Or.inr (Or.inr (Or.inr (Or.inr (Or.inr (Or.inl ⟨hf, by omega, by omega, by omega⟩)))))))
theorem hp_o {b : Nat} {t : Nat} (ht : t < 8) : hPr b (64 + 3 * t) (b + 8) t := Or.inr (Or.inr (Or.inr (Or.inr (Or.inr (Or.inr (Or.inr (Or.inr (Or.inl ⟨ht, rfl, rfl⟩))))))))
theorem hp_b {b : Nat} {t : Nat} (ht : t < 8) : hPr b (65 + 3 * t) (b + 9) t := Or.inr (Or.inr (Or.inr (Or.inr (Or.inr (Or.inr (Or.inr (Or.inr (Or.inr (⟨ht, rfl, rfl⟩)))))))))
theorem hk_0 {b : Nat} : hKr b b 0 (b + 1) := Or.inl ⟨rfl, Or.inl ⟨rfl, rfl⟩⟩
theorem hk_1 {b : Nat} : hKr b b 1 (b + 2) := Or.inl ⟨rfl, Or.inr (Or.inl ⟨rfl, rfl⟩)⟩
theorem hk_2 {b : Nat} : hKr b b 2 (b + 7) := Or.inl ⟨rfl, Or.inr (Or.inr (Or.inl ⟨rfl, rfl⟩))⟩
theorem hk_3 {b : Nat} : hKr b b 3 (b + 10) := Or.inl ⟨rfl, Or.inr (Or.inr (Or.inr (Or.inl ⟨rfl, rfl⟩)))⟩
theorem hk_4 {b : Nat} : hKr b b 4 (b + 12) := Or.inl ⟨rfl, Or.inr (Or.inr (Or.inr (Or.inr (⟨rfl, rfl⟩))))⟩
theorem hk_f0 {b : Nat} : hKr b (b + 2) 0 (b + 3) := Or.inr (Or.inl ⟨rfl, by omega, rfl⟩)
theorem hk_f1 {b : Nat} : hKr b (b + 2) 1 (b + 4) := Or.inr (Or.inl ⟨rfl, by omega, rfl⟩)
theorem hk_f2 {b : Nat} : hKr b (b + 2) 2 (b + 5) := Or.inr (Or.inl ⟨rfl, by omega, rfl⟩)
theorem hk_f3 {b : Nat} : hKr b (b + 2) 3 (b + 6) := Or.inr (Or.inl ⟨rfl, by omega, rfl⟩)
theorem hk_t0 {b : Nat} : hKr b (b + 7) 0 (b + 8) := Or.inr (Or.inr (Or.inl ⟨rfl, by omega, rfl⟩))
theorem hk_t1 {b : Nat} : hKr b (b + 7) 1 (b + 9) := Or.inr (Or.inr (Or.inl ⟨rfl, by omega, rfl⟩))
theorem hk_l {b : Nat} : hKr b (b + 10) 0 (b + 11) := Or.inr (Or.inr (Or.inr ⟨rfl, rfl, rfl⟩))
/-! bits -/
theorem btb_g (x k : Int32) : btb x k = (x >>> (k &&& 31)).toBitVec.getLsbD 0 := by
  have h : ∀ y : Int32, decide ((y &&& Int32.ofInt 1).toInt = 1) = y.toBitVec.getLsbD 0 := by
    intro y
    have e : (y &&& Int32.ofInt 1).toBitVec = (BitVec.ofBool (y.toBitVec.getLsbD 0)).setWidth 32 := by
      rw [Int32.toBitVec_and]
      exact BitVec.and_one_eq_setWidth_ofBool_getLsbD
    have e2 : (y &&& Int32.ofInt 1) = Int32.ofBitVec ((BitVec.ofBool (y.toBitVec.getLsbD 0)).setWidth 32) := Int32.toBitVec_inj.1 e
    rw [e2]
    cases y.toBitVec.getLsbD 0 <;> decide
  exact h _
theorem btb_or (x y k : Int32) : btb (x ||| y) k = (btb x k || btb y k) := by
  rw [btb_g, btb_g, btb_g, Int32.shiftRight_or, Int32.toBitVec_or, BitVec.getLsbD_or]
theorem btb_and (x y k : Int32) : btb (x &&& y) k = (btb x k && btb y k) := by
  rw [btb_g, btb_g, btb_g, Int32.shiftRight_and, Int32.toBitVec_and, BitVec.getLsbD_and]
theorem btb_1_all : (List.range 32).all (fun t => (List.range 32).all (fun u => decide (btb (Int32.ofInt 1 <<< (Int32.ofNat t &&& 31)) (Int32.ofNat u) = decide (t = u)))) = true := by decide +kernel
theorem btb_1 {t u : Nat} (ht : t < 32) (hu : u < 32) : btb (Int32.ofInt 1 <<< (Int32.ofNat t &&& 31)) (Int32.ofNat u) = decide (t = u) := of_decide_eq_true (List.all_eq_true.mp (List.all_eq_true.mp btb_1_all t (List.mem_range.mpr ht)) u (List.mem_range.mpr hu))
theorem btb_n_all : (List.range 32).all (fun t => (List.range 32).all (fun u => decide (btb ((Int32.ofInt 1 <<< (Int32.ofNat t &&& 31)) ^^^ Int32.ofInt (-1)) (Int32.ofNat u) = !decide (t = u)))) = true := by decide +kernel
theorem btb_n {t u : Nat} (ht : t < 32) (hu : u < 32) : btb ((Int32.ofInt 1 <<< (Int32.ofNat t &&& 31)) ^^^ Int32.ofInt (-1)) (Int32.ofNat u) = !decide (t = u) := of_decide_eq_true (List.all_eq_true.mp (List.all_eq_true.mp btb_n_all t (List.mem_range.mpr ht)) u (List.mem_range.mpr hu))
/-- a thing is put down -/
theorem hH.pd {σ : zSg} {b t : Nat} {A : Nat → Int32} (H : hH σ b A) (ht : t < 8) : hH (q_w σ (b + 7) 2 (.int (q_i (σ.1 (b + 7) 2) ||| (Int32.ofInt 1 <<< (Int32.ofNat t &&& 31))))) b (aU A (66 + 3 * t) (Int32.ofInt 1)) := by
  refine H.wl ht ?_ (fun u hu hne => ?_)
  · rw [btb_or, btb_1 (by omega) (by omega), decide_eq_true rfl, Bool.or_true, if_pos rfl]
  · rw [btb_or, btb_1 (by omega) (by omega), decide_eq_false (fun e => hne e.symm), Bool.or_false]
/-- a thing is taken along -/
theorem hH.ta {σ : zSg} {b t : Nat} {A : Nat → Int32} (H : hH σ b A) (ht : t < 8) : hH (q_w σ (b + 7) 2 (.int (q_i (σ.1 (b + 7) 2) &&& ((Int32.ofInt 1 <<< (Int32.ofNat t &&& 31)) ^^^ Int32.ofInt (-1))))) b (aU A (66 + 3 * t) (Int32.ofInt 0)) := by
  refine H.wl ht ?_ (fun u hu hne => ?_)
  · rw [btb_and, btb_n (by omega) (by omega), decide_eq_true rfl, Bool.not_true, Bool.and_false, if_neg (by decide)]
  · rw [btb_and, btb_n (by omega) (by omega), decide_eq_false (fun e => hne e.symm), Bool.not_false, Bool.and_true]
/-! the class's reader of a deed: tape 1, its bytes 2, the draft 21 -/
noncomputable def dZ (nt : Nat) (A : Nat → Int32) : Prop := ∀ t, nt ≤ t → t < 8 → A (66 + 3 * t) = Int32.ofInt 0
noncomputable def dC (nf nt : Nat) (A : Nat → Int32) : Prop := A 0 = Int32.ofNat nf ∧ nf ≤ 6 ∧ A 1 = Int32.ofNat nt ∧ nt ≤ 8 ∧ dZ nt A
noncomputable def cR (σ : zSg) (b : Nat → Int) (A E nf nt : Nat) (H : Nat → Int32) : Prop := cS σ 1 A E ∧ cb σ 1 = b ∧ (q_i (σ.1 1 3)).toInt = -1 ∧ σ.1 1 0 = .ref 2 ∧ hH σ 21 H ∧ dC nf nt H
noncomputable def cQ (σ : zSg) (b : Nat → Int) (E F : Nat) : Prop := (∃ A, cS σ 1 A E) ∧ cb σ 1 = b ∧ σ.1 1 3 = .int (Int32.ofNat F) ∧ F ≤ 400 ∧ σ.1 1 0 = .ref 2 ∧ ∃ H nf nt, hH σ 21 H ∧ dC nf nt H
noncomputable def cDF (σ σ' : zSg) : Prop := σ'.2 = σ.2 ∧ ∀ c k, ¬ (c = 1 ∧ (k = 2 ∨ k = 3)) → ¬ (21 ≤ c ∧ c ≤ 33 ∧ ¬ (c = 21 ∧ k = 5)) → σ'.1 c k = σ.1 c k
section CRL
variable {σ τ υ : zSg} {A E F nf nt : Nat} {b : Nat → Int} {H H' : Nat → Int32}
theorem cDF.rf : cDF σ σ := ⟨rfl, fun _ _ _ _ => rfl⟩
theorem cDF.tr (h1 : cDF σ τ) (h2 : cDF τ υ) : cDF σ υ := ⟨h2.1.trans h1.1, fun c k q1 q2 => (h2.2 c k q1 q2).trans (h1.2 c k q1 q2)⟩
theorem cDF.tp {k : Nat} {v : Value} (h : k = 2 ∨ k = 3) : cDF σ (q_w σ 1 k v) := ⟨rfl, fun c i q1 _ => q_w_ne (fun e1 e2 => q1 ⟨e1, by omega⟩)⟩
theorem cDF.of (h : hHF 21 σ τ) : cDF σ τ := ⟨h.1, fun c k _ q2 => h.2 c k q2⟩
theorem cR.le (K : cR σ b A E nf nt H) : A ≤ E ∧ E ≤ 400 := ⟨K.1.2.2.2.1, K.1.2.2.2.2.1⟩
theorem hH.tp {k : Nat} {v : Value} (K : hH σ 21 H) : hH (q_w σ 1 k v) 21 H := K.fr rfl (fun c j h1 h2 => q_w_ne (fun e _ => by omega))
theorem cR.at {A1 : Nat} (K : cR σ b A E nf nt H) (h : A1 ≤ E) : cR (q_w σ 1 2 (.int (Int32.ofNat A1))) b A1 E nf nt H := by
  obtain ⟨h1, h2, h3, h4, h5, h6⟩ := K
  refine ⟨h1.at h, (cb_w h1.1 (by omega)).trans h2, ?_, ?_, h5.tp, h6⟩
  · rw [q_w_ne (fun _ q => by omega)]; exact h3
  · rw [q_w_ne (fun _ q => by omega)]; exact h4
theorem cR.wr (K : cR σ b A E nf nt H) : cQ (q_w σ 1 3 (.int (Int32.ofNat A))) b E A := by
  have hl := K.le
  obtain ⟨h1, h2, h3, h4, h5, h6⟩ := K
  exact ⟨⟨A, h1.wr⟩, (cb_w h1.1 (by omega)).trans h2, q_w_at _ _ _ _, by omega, by rw [q_w_ne (fun _ q => by omega)]; exact h4, H, nf, nt, h5.tp, h6⟩
theorem cQ.no (K : cQ σ b E F) : (q_i (σ.1 1 3)).toInt ≠ -1 := by
  obtain ⟨h1, h2, h3, h4, h5⟩ := K
  rw [h3]
  show (Int32.ofNat F).toInt ≠ -1
  rw [o32 (by omega)]
  omega
theorem cQ.at {A1 : Nat} (K : cQ σ b E F) (h : A1 ≤ E) : cQ (q_w σ 1 2 (.int (Int32.ofNat A1))) b E F := by
  obtain ⟨⟨A, h1⟩, h2, h3, h4, h5, H, nf, nt, h6, h7⟩ := K
  exact ⟨⟨A1, h1.at h⟩, (cb_w h1.1 (by omega)).trans h2, by rw [q_w_ne (fun _ q => by omega)]; exact h3, h4, by rw [q_w_ne (fun _ q => by omega)]; exact h5, H, nf, nt, h6.tp, h7⟩
/-- the draft alone was changed -/
theorem cS.hs (K : cS σ 1 A E) (h4 : σ.1 1 0 = .ref 2) (f : hHF 21 σ τ) : cS τ 1 A E ∧ cb τ 1 = cb σ 1 ∧ τ.1 1 0 = .ref 2 ∧ τ.1 1 3 = σ.1 1 3 := by
  have g : ∀ i, τ.1 1 i = σ.1 1 i := fun i => f.2 1 i (by omega)
  have gb : cu τ 1 = cu σ 1 := by
    funext i
    unfold cu
    rw [g 0, h4]
    show (q_i (τ.1 2 i)).toInt = (q_i (σ.1 2 i)).toInt
    rw [f.2 2 i (by omega)]
  obtain ⟨a1, a2, a3, a4, a5, a6⟩ := K
  refine ⟨⟨?_, ?_, ?_, a4, a5, ?_⟩, ?_, ?_, g 3⟩
  · rw [g]; exact a1
  · rw [g]; exact a2
  · rw [g]; exact a3
  · rw [gb]; exact a6
  · funext i
    unfold cb
    rw [gb]
  · rw [g]; exact h4
theorem cR.hs {nf' nt' : Nat} (K : cR σ b A E nf nt H) (f : hHF 21 σ τ) (h : hH τ 21 H') (hc : dC nf' nt' H') : cR τ b A E nf' nt' H' := by
  obtain ⟨h1, h2, h3, h4, h5, h6⟩ := K
  obtain ⟨g1, g2, g3, g4⟩ := h1.hs h4 f
  exact ⟨g1, g2.trans h2, by rw [g4]; exact h3, g3, h, hc⟩
theorem cQ.hs (K : cQ σ b E F) (f : hHF 21 σ τ) (h : ∀ H nf nt, hH σ 21 H → dC nf nt H → ∃ H' nf' nt', hH τ 21 H' ∧ dC nf' nt' H') : cQ τ b E F := by
  obtain ⟨⟨A, h1⟩, h2, h3, h4, h5, H, nf, nt, h6, h7⟩ := K
  obtain ⟨g1, g2, g3, g4⟩ := h1.hs h5 f
  exact ⟨⟨A, g1⟩, g2.trans h2, by rw [g4]; exact h3, h4, g3, h H nf nt h6 h7⟩
theorem cR.tk {w : Nat} {x : Int32} {z : List Int} (K : cR σ b A E nf nt H) (G : p_91 1 w σ x τ) (hw : zwk w) (hz : q_si w = z) : cDF σ τ ∧ (x.toInt ≠ 0 → ∃ A1, tw b E z A = some A1 ∧ cR τ b A1 E nf nt H) ∧ (x.toInt = 0 → tw b E z A = none ∧ τ = σ) := by
  have hb := K.2.1
  have hl : (q_s w).length = z.length := by rw [← hz, q_si_len]
  have hA := K.le
  have := G A E K.1 hw
  rw [hb, hz, hl] at this
  rcases this with ⟨g1, g2, g3, rfl⟩ | ⟨g1, g2, rfl⟩
  · have g4 : A + z.length ≤ E := by
      have h8 : zRn b E 97 122 A = A + z.length := g3.1
      rw [← h8]
      exact zRn_le hA.1
    exact ⟨cDF.tp (Or.inl rfl), fun _ => ⟨_, tw_pos g3, K.at (zBl_le g4)⟩, fun q => absurd q g1⟩
  · exact ⟨cDF.rf, fun q => absurd g1 q, fun _ => ⟨tw_neg (g2 K.2.2.1), rfl⟩⟩
theorem cQ.tk {w : Nat} {x : Int32} (K : cQ σ b E F) (G : p_91 1 w σ x τ) (hw : zwk w) : x.toInt = 0 ∧ τ = σ := by
  have hn := K.no
  obtain ⟨⟨A, g1⟩, -⟩ := K
  rcases G A E g1 hw with ⟨-, g2, -⟩ | ⟨g1, -, g3⟩
  · exact absurd g2 hn
  · exact ⟨g1, g3⟩
theorem cR.nw {w : Nat} {z : List Int} (K : cR σ b A E nf nt H) (G : p_92 1 w σ τ) (hw : zwk w) (hz : q_si w = z) : cDF σ τ ∧ (∀ A1, tw b E z A = some A1 → cR τ b A1 E nf nt H) ∧ (tw b E z A = none → cQ τ b E A) := by
  have hb := K.2.1
  have hl : (q_s w).length = z.length := by rw [← hz, q_si_len]
  have hA := K.le
  have := (G A E K.1 hw).1 K.2.2.1
  rw [hb, hz, hl] at this
  by_cases hc : zWa b E z A
  · obtain rfl := this.1 hc
    have g4 : A + z.length ≤ E := by
      have h8 : zRn b E 97 122 A = A + z.length := hc.1
      rw [← h8]
      exact zRn_le hA.1
    refine ⟨cDF.tp (Or.inl rfl), fun A1 q => ?_, fun q => ?_⟩
    · rw [tw_pos hc] at q
      cases q
      exact K.at (zBl_le g4)
    · rw [tw_pos hc] at q
      cases q
  · obtain rfl := this.2 hc
    refine ⟨cDF.tp (Or.inr rfl), fun A1 q => ?_, fun _ => K.wr⟩
    rw [tw_neg hc] at q
    cases q
theorem cQ.nw {w : Nat} (K : cQ σ b E F) (G : p_92 1 w σ τ) (hw : zwk w) : τ = σ := by
  have hn := K.no
  obtain ⟨⟨A, g1⟩, -⟩ := K
  exact (G A E g1 hw).2 hn
theorem cR.nb {lo hi x : Int32} (K : cR σ b A E nf nt H) (G : p_96 1 lo hi σ x τ) (h0 : 0 ≤ lo.toInt) : cDF σ τ ∧ (∀ A1 v, tn b E lo.toInt hi.toInt A = some (A1, v) → x = Int32.ofNat v ∧ cR τ b A1 E nf nt H) ∧ (tn b E lo.toInt hi.toInt A = none → cQ τ b E A) := by
  have hb := K.2.1
  have hA := K.le
  have := (G A E K.1 h0).1 K.2.2.1
  rw [hb] at this
  rcases this with ⟨g1, g2, rfl⟩ | ⟨g1, g2, rfl⟩
  · have hv := zNm_ge (b := b) (E := E) (lo := lo.toInt) (hi := hi.toInt) (A := A) (by omega)
    refine ⟨cDF.tp (Or.inl rfl), fun A1 v q => ?_, fun q => ?_⟩
    · unfold tn at q
      rw [if_pos g1] at q
      cases q
      refine ⟨Int32.toInt_inj.mp ?_, K.at (zBl_le (zRn_le hA.1))⟩
      rw [g2, zofNat2 (by omega)]
      omega
    · unfold tn at q
      rw [if_pos g1] at q
      cases q
  · refine ⟨cDF.tp (Or.inr rfl), fun A1 v q => ?_, fun _ => K.wr⟩
    unfold tn at q
    rw [if_neg (by omega)] at q
    cases q
theorem cQ.nb {lo hi x : Int32} (K : cQ σ b E F) (G : p_96 1 lo hi σ x τ) (h0 : 0 ≤ lo.toInt) : cDF σ τ ∧ cQ τ b E F := by
  have hn := K.no
  obtain ⟨A, g1⟩ := K.1
  obtain ⟨-, A', h1, rfl⟩ := (G A E g1 h0).2 hn
  exact ⟨cDF.tp (Or.inl rfl), K.at h1⟩
theorem cR.ns {c : Int32} (K : cR σ b A E nf nt H) (G : p_94 1 c σ τ) (h0 : 0 ≤ c.toInt) (h1 : c.toInt ≤ 127) : cDF σ τ ∧ (∀ A1, ts b E c.toInt A = some A1 → cR τ b A1 E nf nt H) ∧ (ts b E c.toInt A = none → cQ τ b E A) := by
  have hb := K.2.1
  have hA := K.le
  have := (G A E K.1 h0 h1).1 K.2.2.1
  rw [hb] at this
  by_cases hc : A < E ∧ b A = c.toInt
  · obtain rfl := this.1 hc
    refine ⟨cDF.tp (Or.inl rfl), fun A1 q => ?_, fun q => ?_⟩
    · unfold ts at q
      rw [if_pos hc] at q
      cases q
      exact K.at (zBl_le (by omega))
    · unfold ts at q
      rw [if_pos hc] at q
      cases q
  · obtain rfl := this.2 hc
    refine ⟨cDF.tp (Or.inr rfl), fun A1 q => ?_, fun _ => K.wr⟩
    unfold ts at q
    rw [if_neg hc] at q
    cases q
theorem cQ.ns {c : Int32} (K : cQ σ b E F) (G : p_94 1 c σ τ) (h0 : 0 ≤ c.toInt) (h1 : c.toInt ≤ 127) : τ = σ := by
  have hn := K.no
  obtain ⟨⟨A, g1⟩, -⟩ := K
  exact (G A E g1 h0 h1).2 hn
theorem cR.rf (K : cR σ b A E nf nt H) (G : p_90 1 σ τ) : cDF σ τ ∧ cQ τ b E A := by
  have := G.2 K.2.2.1
  rw [K.1.2.2.1] at this
  have e : τ = q_w σ 1 3 (.int (Int32.ofNat A)) := this
  subst e
  exact ⟨cDF.tp (Or.inr rfl), K.wr⟩
theorem cQ.rf (K : cQ σ b E F) (G : p_90 1 σ τ) : τ = σ := G.1 K.no
abbrev cOA (σ' : zSg) (b : Nat → Int) (E nf nt : Nat) (H : Nat → Int32) (x : Int32) (R : (Nat × Nat) ⊕ Nat) : Prop := match R with
  | .inl (A1, v) => x = Int32.ofNat v ∧ cR σ' b A1 E nf nt H
  | .inr F => cQ σ' b E F
theorem cR.af {w : Nat} {z : List Int} {lo hi x : Int32} (K : cR σ b A E nf nt H) (G1 : p_92 1 w σ τ) (G2 : p_96 1 lo hi τ x υ) (hw : zwk w) (hz : q_si w = z) (h0 : 0 ≤ lo.toInt) : cDF σ υ ∧ cOA υ b E nf nt H x (dAf b E z lo.toInt hi.toInt A) := by
  obtain ⟨f1, u1, v1⟩ := K.nw G1 hw hz
  unfold dAf
  cases h1 : tw b E z A with
  | none =>
    obtain ⟨f2, K2⟩ := (v1 h1).nb G2 h0
    exact ⟨f1.tr f2, K2⟩
  | some A1 =>
    obtain ⟨f2, u2, v2⟩ := (u1 A1 h1).nb G2 h0
    dsimp only
    cases h2 : tn b E lo.toInt hi.toInt A1 with
    | none => exact ⟨f1.tr f2, v2 h2⟩
    | some q => exact ⟨f1.tr f2, u2 q.1 q.2 h2⟩
theorem cQ.af {w : Nat} {lo hi x : Int32} (K : cQ σ b E F) (G1 : p_92 1 w σ τ) (G2 : p_96 1 lo hi τ x υ) (hw : zwk w) (h0 : 0 ≤ lo.toInt) : cDF σ υ ∧ cQ υ b E F := by
  obtain rfl := K.nw G1 hw
  exact K.nb G2 h0
end CRL
end
section
/-! the class's readers of a deed, exact; printed with wip/gen/gen_d3.py -/
theorem zJ_9 : zJ3 9 z_m9 z_c9 z_h9 := ⟨rfl, rfl, rfl⟩
noncomputable def p_9 (a : Nat) (f : Int32) (σ : zSg) (r : Int32) (σ' : zSg) : Prop := σ' = σ ∧ (r.toInt ≠ 0 ↔ 0 ≤ f.toInt ∧ f.toInt < (q_i (σ.1 a 4)).toInt ∧ f.toInt < 6)
theorem sp_9_et (a0 : Nat) (a1 : Int32) (σ : zSg) (h1 : a1.toInt < (0 : Int)) :
    p_9 (a0) (a1) σ (Int32.ofInt (0)) σ := by
  exact ⟨rfl, fun h => absurd rfl h, fun h => by omega⟩
theorem sp_9_eft (a0 : Nat) (a1 : Int32) (σ : zSg) (h1 : a1.toInt ≥ (0 : Int)) (h2 : a1.toInt ≥ (q_i (σ.1 a0 4)).toInt) :
    p_9 (a0) (a1) σ (Int32.ofInt (0)) σ := by
  exact ⟨rfl, fun h => absurd rfl h, fun h => by omega⟩
theorem sp_9_efft (a0 : Nat) (a1 : Int32) (σ : zSg) (h1 : a1.toInt ≥ (0 : Int)) (h2 : a1.toInt < (q_i (σ.1 a0 4)).toInt) (h3 : a1.toInt ≥ (6 : Int)) :
    p_9 (a0) (a1) σ (Int32.ofInt (0)) σ := by
  exact ⟨rfl, fun h => absurd rfl h, fun h => by omega⟩
theorem sp_9_efff (a0 : Nat) (a1 : Int32) (σ : zSg) (h1 : a1.toInt ≥ (0 : Int)) (h2 : a1.toInt < (q_i (σ.1 a0 4)).toInt) (h3 : a1.toInt < (6 : Int)) :
    p_9 (a0) (a1) σ (Int32.ofInt (1)) σ := by
  exact ⟨rfl, fun _ => ⟨by omega, by omega, by omega⟩, fun _ => by decide⟩
noncomputable def qP_9 : zPp := fun as σ o σ' => match as with
  | [a0, a1] => ∃ r, o = .inl (some (.int r)) ∧ p_9 (q_r a0) (q_i a1) σ r σ'
  | _ => True
set_option maxRecDepth 100000 in
theorem sp_9 {sx : zX}  : zEe sx 9 2 qP_9 := by
  refine zfle zJ_9 (sps := []) (fun q hq => absurd hq List.not_mem_nil) (fun as σ hl => ?_)
  match as, hl with
  | [a0, a1], _ =>
  refine ⟨[], 400, ?_, ?_⟩
  · exact fun q hq => absurd hq List.not_mem_nil
  · refine And.intro (fun h1 => ?_) (fun h1 => ?_)
    · exact ⟨_, rfl, sp_9_et (q_r a0) (q_i a1) σ (cm2t h1)⟩
    · refine And.intro (fun h2 => ?_) (fun h2 => ?_)
      · exact ⟨_, rfl, sp_9_eft (q_r a0) (q_i a1) σ (cm2f h1) (cm3t h2)⟩
      · refine And.intro (fun h3 => ?_) (fun h3 => ?_)
        · exact ⟨_, rfl, sp_9_efft (q_r a0) (q_i a1) σ (cm2f h1) (cm3f h2) (cm3t h3)⟩
        · exact ⟨_, rfl, sp_9_efff (q_r a0) (q_i a1) σ (cm2f h1) (cm3f h2) (cm3f h3)⟩
theorem zJ_10 : zJ3 10 z_m10 z_c10 z_h10 := ⟨rfl, rfl, rfl⟩
noncomputable def p_10 (a : Nat) (σ : zSg) (r : Int32) (σ' : zSg) : Prop := σ' = σ ∧ (r.toInt ≠ 0 ↔ (q_i (σ.1 a 4)).toInt < 6)
theorem sp_10_et (a0 : Nat) (σ : zSg) (h1 : (q_i (σ.1 a0 4)).toInt ≥ (6 : Int)) :
    p_10 (a0) σ (Int32.ofInt (0)) σ := by
  exact ⟨rfl, fun h => absurd rfl h, fun h => by omega⟩
theorem sp_10_ef (a0 : Nat) (σ : zSg) (h1 : (q_i (σ.1 a0 4)).toInt < (6 : Int)) :
    p_10 (a0) σ (Int32.ofInt (1)) σ := by
  exact ⟨rfl, fun _ => h1, fun _ => by decide⟩
noncomputable def qP_10 : zPp := fun as σ o σ' => match as with
  | [a0] => ∃ r, o = .inl (some (.int r)) ∧ p_10 (q_r a0) σ r σ'
  | _ => True
set_option maxRecDepth 100000 in
theorem sp_10 {sx : zX}  : zEe sx 10 1 qP_10 := by
  refine zfle zJ_10 (sps := []) (fun q hq => absurd hq List.not_mem_nil) (fun as σ hl => ?_)
  match as, hl with
  | [a0], _ =>
  refine ⟨[], 400, ?_, ?_⟩
  · exact fun q hq => absurd hq List.not_mem_nil
  · refine And.intro (fun h1 => ?_) (fun h1 => ?_)
    · exact ⟨_, rfl, sp_10_et (q_r a0) σ (cm3t h1)⟩
    · exact ⟨_, rfl, sp_10_ef (q_r a0) σ (cm3f h1)⟩
theorem zJ_103 : zJ3 103 z_m103 z_c103 z_h103 := ⟨rfl, rfl, rfl⟩
noncomputable def p_103 (a : Nat) (σ : zSg) (r : Int32) (σ' : zSg) : Prop := σ' = σ ∧ (r.toInt ≠ 0 ↔ (q_i (σ.1 a 3)).toInt < 8)
theorem sp_103_et (a0 : Nat) (σ : zSg) (h1 : (q_i (σ.1 a0 3)).toInt ≥ (8 : Int)) :
    p_103 (a0) σ (Int32.ofInt (0)) σ := by
  exact ⟨rfl, fun h => absurd rfl h, fun h => by omega⟩
theorem sp_103_ef (a0 : Nat) (σ : zSg) (h1 : (q_i (σ.1 a0 3)).toInt < (8 : Int)) :
    p_103 (a0) σ (Int32.ofInt (1)) σ := by
  exact ⟨rfl, fun _ => h1, fun _ => by decide⟩
noncomputable def qP_103 : zPp := fun as σ o σ' => match as with
  | [a0] => ∃ r, o = .inl (some (.int r)) ∧ p_103 (q_r a0) σ r σ'
  | _ => True
set_option maxRecDepth 100000 in
theorem sp_103 {sx : zX}  : zEe sx 103 1 qP_103 := by
  refine zfle zJ_103 (sps := []) (fun q hq => absurd hq List.not_mem_nil) (fun as σ hl => ?_)
  match as, hl with
  | [a0], _ =>
  refine ⟨[], 400, ?_, ?_⟩
  · exact fun q hq => absurd hq List.not_mem_nil
  · refine And.intro (fun h1 => ?_) (fun h1 => ?_)
    · exact ⟨_, rfl, sp_103_et (q_r a0) σ (cm3t h1)⟩
    · exact ⟨_, rfl, sp_103_ef (q_r a0) σ (cm3f h1)⟩
theorem zJ_106 : zJ3 106 z_m106 z_c106 z_h106 := ⟨rfl, rfl, rfl⟩
noncomputable def p_106 (a : Nat) (t : Int32) (σ σ' : zSg) : Prop := σ' = q_w σ a 2 (.int (q_i (σ.1 a 2) ||| (Int32.ofInt 1 <<< (t &&& 31))))
theorem sp_106_e (a0 : Nat) (a1 : Int32) (σ : zSg)  :
    p_106 (a0) (a1) σ (q_w σ a0 2 (.int ((q_i (σ.1 a0 2)) ||| ((Int32.ofInt (1)) <<< (a1 &&& 31))))) := by
  exact rfl
noncomputable def qP_106 : zPp := fun as σ o σ' => match as with
  | [a0, a1] => o = .inl none ∧ p_106 (q_r a0) (q_i a1) σ σ'
  | _ => True
set_option maxRecDepth 100000 in
theorem sp_106 {sx : zX}  : zEe sx 106 2 qP_106 := by
  refine zfle zJ_106 (sps := []) (fun q hq => absurd hq List.not_mem_nil) (fun as σ hl => ?_)
  match as, hl with
  | [a0, a1], _ =>
  refine ⟨[], 400, ?_, ?_⟩
  · exact fun q hq => absurd hq List.not_mem_nil
  · exact ⟨rfl, sp_106_e (q_r a0) (q_i a1) σ ⟩
noncomputable def dFd (H : Nat → Int32) (nf : Nat) (p d s : Int32) : Nat → Int32 := aU (aU (aU (aU (aU H (40 + 4 * nf) p) (41 + 4 * nf) d) (42 + 4 * nf) s) (43 + 4 * nf) (Int32.ofInt 0)) 0 (Int32.ofNat (nf + 1))
theorem zJ_12 : zJ3 12 z_m12 z_c12 z_h12 := ⟨rfl, rfl, rfl⟩
noncomputable def p_12 (a : Nat) (p d s : Int32) (σ : zSg) (r : Int32) (σ' : zSg) : Prop := ∀ b H nf, a = b + 2 → hH σ b H → H 0 = Int32.ofNat nf → nf ≤ 6 → hHF b σ σ' ∧ (nf = 6 → σ' = σ) ∧ (nf < 6 → r = Int32.ofNat nf ∧ hH σ' b (dFd H nf p d s))
theorem sp_12_et (a0 : Nat) (a1 : Int32) (a2 : Int32) (a3 : Int32) (σ : zSg) (τ1 : zSg) (r1 : Int32) (g1 : p_10 a0 σ r1 τ1) (h2 : r1.toInt ≠ (0 : Int)) (h3 : 0 ≤ (q_i (τ1.1 a0 4)).toInt ∧ (q_i (τ1.1 a0 4)).toInt < (τ1.2.1 (q_r (τ1.1 a0 0)) : Int)) (h4 : 0 ≤ (q_i ((q_w τ1 (q_r (τ1.1 a0 0)) (q_i (τ1.1 a0 4)).toNatClampNeg (.int a1)).1 a0 4)).toInt ∧ (q_i ((q_w τ1 (q_r (τ1.1 a0 0)) (q_i (τ1.1 a0 4)).toNatClampNeg (.int a1)).1 a0 4)).toInt < ((q_w τ1 (q_r (τ1.1 a0 0)) (q_i (τ1.1 a0 4)).toNatClampNeg (.int a1)).2.1 (q_r ((q_w τ1 (q_r (τ1.1 a0 0)) (q_i (τ1.1 a0 4)).toNatClampNeg (.int a1)).1 a0 1)) : Int)) (h5 : 0 ≤ (q_i ((q_w (q_w τ1 (q_r (τ1.1 a0 0)) (q_i (τ1.1 a0 4)).toNatClampNeg (.int a1)) (q_r ((q_w τ1 (q_r (τ1.1 a0 0)) (q_i (τ1.1 a0 4)).toNatClampNeg (.int a1)).1 a0 1)) (q_i ((q_w τ1 (q_r (τ1.1 a0 0)) (q_i (τ1.1 a0 4)).toNatClampNeg (.int a1)).1 a0 4)).toNatClampNeg (.int a2)).1 a0 4)).toInt ∧ (q_i ((q_w (q_w τ1 (q_r (τ1.1 a0 0)) (q_i (τ1.1 a0 4)).toNatClampNeg (.int a1)) (q_r ((q_w τ1 (q_r (τ1.1 a0 0)) (q_i (τ1.1 a0 4)).toNatClampNeg (.int a1)).1 a0 1)) (q_i ((q_w τ1 (q_r (τ1.1 a0 0)) (q_i (τ1.1 a0 4)).toNatClampNeg (.int a1)).1 a0 4)).toNatClampNeg (.int a2)).1 a0 4)).toInt < ((q_w (q_w τ1 (q_r (τ1.1 a0 0)) (q_i (τ1.1 a0 4)).toNatClampNeg (.int a1)) (q_r ((q_w τ1 (q_r (τ1.1 a0 0)) (q_i (τ1.1 a0 4)).toNatClampNeg (.int a1)).1 a0 1)) (q_i ((q_w τ1 (q_r (τ1.1 a0 0)) (q_i (τ1.1 a0 4)).toNatClampNeg (.int a1)).1 a0 4)).toNatClampNeg (.int a2)).2.1 (q_r ((q_w (q_w τ1 (q_r (τ1.1 a0 0)) (q_i (τ1.1 a0 4)).toNatClampNeg (.int a1)) (q_r ((q_w τ1 (q_r (τ1.1 a0 0)) (q_i (τ1.1 a0 4)).toNatClampNeg (.int a1)).1 a0 1)) (q_i ((q_w τ1 (q_r (τ1.1 a0 0)) (q_i (τ1.1 a0 4)).toNatClampNeg (.int a1)).1 a0 4)).toNatClampNeg (.int a2)).1 a0 2)) : Int)) (h6 : 0 ≤ (q_i ((q_w (q_w (q_w τ1 (q_r (τ1.1 a0 0)) (q_i (τ1.1 a0 4)).toNatClampNeg (.int a1)) (q_r ((q_w τ1 (q_r (τ1.1 a0 0)) (q_i (τ1.1 a0 4)).toNatClampNeg (.int a1)).1 a0 1)) (q_i ((q_w τ1 (q_r (τ1.1 a0 0)) (q_i (τ1.1 a0 4)).toNatClampNeg (.int a1)).1 a0 4)).toNatClampNeg (.int a2)) (q_r ((q_w (q_w τ1 (q_r (τ1.1 a0 0)) (q_i (τ1.1 a0 4)).toNatClampNeg (.int a1)) (q_r ((q_w τ1 (q_r (τ1.1 a0 0)) (q_i (τ1.1 a0 4)).toNatClampNeg (.int a1)).1 a0 1)) (q_i ((q_w τ1 (q_r (τ1.1 a0 0)) (q_i (τ1.1 a0 4)).toNatClampNeg (.int a1)).1 a0 4)).toNatClampNeg (.int a2)).1 a0 2)) (q_i ((q_w (q_w τ1 (q_r (τ1.1 a0 0)) (q_i (τ1.1 a0 4)).toNatClampNeg (.int a1)) (q_r ((q_w τ1 (q_r (τ1.1 a0 0)) (q_i (τ1.1 a0 4)).toNatClampNeg (.int a1)).1 a0 1)) (q_i ((q_w τ1 (q_r (τ1.1 a0 0)) (q_i (τ1.1 a0 4)).toNatClampNeg (.int a1)).1 a0 4)).toNatClampNeg (.int a2)).1 a0 4)).toNatClampNeg (.int a3)).1 a0 4)).toInt ∧ (q_i ((q_w (q_w (q_w τ1 (q_r (τ1.1 a0 0)) (q_i (τ1.1 a0 4)).toNatClampNeg (.int a1)) (q_r ((q_w τ1 (q_r (τ1.1 a0 0)) (q_i (τ1.1 a0 4)).toNatClampNeg (.int a1)).1 a0 1)) (q_i ((q_w τ1 (q_r (τ1.1 a0 0)) (q_i (τ1.1 a0 4)).toNatClampNeg (.int a1)).1 a0 4)).toNatClampNeg (.int a2)) (q_r ((q_w (q_w τ1 (q_r (τ1.1 a0 0)) (q_i (τ1.1 a0 4)).toNatClampNeg (.int a1)) (q_r ((q_w τ1 (q_r (τ1.1 a0 0)) (q_i (τ1.1 a0 4)).toNatClampNeg (.int a1)).1 a0 1)) (q_i ((q_w τ1 (q_r (τ1.1 a0 0)) (q_i (τ1.1 a0 4)).toNatClampNeg (.int a1)).1 a0 4)).toNatClampNeg (.int a2)).1 a0 2)) (q_i ((q_w (q_w τ1 (q_r (τ1.1 a0 0)) (q_i (τ1.1 a0 4)).toNatClampNeg (.int a1)) (q_r ((q_w τ1 (q_r (τ1.1 a0 0)) (q_i (τ1.1 a0 4)).toNatClampNeg (.int a1)).1 a0 1)) (q_i ((q_w τ1 (q_r (τ1.1 a0 0)) (q_i (τ1.1 a0 4)).toNatClampNeg (.int a1)).1 a0 4)).toNatClampNeg (.int a2)).1 a0 4)).toNatClampNeg (.int a3)).1 a0 4)).toInt < ((q_w (q_w (q_w τ1 (q_r (τ1.1 a0 0)) (q_i (τ1.1 a0 4)).toNatClampNeg (.int a1)) (q_r ((q_w τ1 (q_r (τ1.1 a0 0)) (q_i (τ1.1 a0 4)).toNatClampNeg (.int a1)).1 a0 1)) (q_i ((q_w τ1 (q_r (τ1.1 a0 0)) (q_i (τ1.1 a0 4)).toNatClampNeg (.int a1)).1 a0 4)).toNatClampNeg (.int a2)) (q_r ((q_w (q_w τ1 (q_r (τ1.1 a0 0)) (q_i (τ1.1 a0 4)).toNatClampNeg (.int a1)) (q_r ((q_w τ1 (q_r (τ1.1 a0 0)) (q_i (τ1.1 a0 4)).toNatClampNeg (.int a1)).1 a0 1)) (q_i ((q_w τ1 (q_r (τ1.1 a0 0)) (q_i (τ1.1 a0 4)).toNatClampNeg (.int a1)).1 a0 4)).toNatClampNeg (.int a2)).1 a0 2)) (q_i ((q_w (q_w τ1 (q_r (τ1.1 a0 0)) (q_i (τ1.1 a0 4)).toNatClampNeg (.int a1)) (q_r ((q_w τ1 (q_r (τ1.1 a0 0)) (q_i (τ1.1 a0 4)).toNatClampNeg (.int a1)).1 a0 1)) (q_i ((q_w τ1 (q_r (τ1.1 a0 0)) (q_i (τ1.1 a0 4)).toNatClampNeg (.int a1)).1 a0 4)).toNatClampNeg (.int a2)).1 a0 4)).toNatClampNeg (.int a3)).2.1 (q_r ((q_w (q_w (q_w τ1 (q_r (τ1.1 a0 0)) (q_i (τ1.1 a0 4)).toNatClampNeg (.int a1)) (q_r ((q_w τ1 (q_r (τ1.1 a0 0)) (q_i (τ1.1 a0 4)).toNatClampNeg (.int a1)).1 a0 1)) (q_i ((q_w τ1 (q_r (τ1.1 a0 0)) (q_i (τ1.1 a0 4)).toNatClampNeg (.int a1)).1 a0 4)).toNatClampNeg (.int a2)) (q_r ((q_w (q_w τ1 (q_r (τ1.1 a0 0)) (q_i (τ1.1 a0 4)).toNatClampNeg (.int a1)) (q_r ((q_w τ1 (q_r (τ1.1 a0 0)) (q_i (τ1.1 a0 4)).toNatClampNeg (.int a1)).1 a0 1)) (q_i ((q_w τ1 (q_r (τ1.1 a0 0)) (q_i (τ1.1 a0 4)).toNatClampNeg (.int a1)).1 a0 4)).toNatClampNeg (.int a2)).1 a0 2)) (q_i ((q_w (q_w τ1 (q_r (τ1.1 a0 0)) (q_i (τ1.1 a0 4)).toNatClampNeg (.int a1)) (q_r ((q_w τ1 (q_r (τ1.1 a0 0)) (q_i (τ1.1 a0 4)).toNatClampNeg (.int a1)).1 a0 1)) (q_i ((q_w τ1 (q_r (τ1.1 a0 0)) (q_i (τ1.1 a0 4)).toNatClampNeg (.int a1)).1 a0 4)).toNatClampNeg (.int a2)).1 a0 4)).toNatClampNeg (.int a3)).1 a0 3)) : Int)) :
    p_12 (a0) (a1) (a2) (a3) σ ((q_i ((q_w (q_w (q_w (q_w (q_w τ1 (q_r (τ1.1 a0 0)) (q_i (τ1.1 a0 4)).toNatClampNeg (.int a1)) (q_r ((q_w τ1 (q_r (τ1.1 a0 0)) (q_i (τ1.1 a0 4)).toNatClampNeg (.int a1)).1 a0 1)) (q_i ((q_w τ1 (q_r (τ1.1 a0 0)) (q_i (τ1.1 a0 4)).toNatClampNeg (.int a1)).1 a0 4)).toNatClampNeg (.int a2)) (q_r ((q_w (q_w τ1 (q_r (τ1.1 a0 0)) (q_i (τ1.1 a0 4)).toNatClampNeg (.int a1)) (q_r ((q_w τ1 (q_r (τ1.1 a0 0)) (q_i (τ1.1 a0 4)).toNatClampNeg (.int a1)).1 a0 1)) (q_i ((q_w τ1 (q_r (τ1.1 a0 0)) (q_i (τ1.1 a0 4)).toNatClampNeg (.int a1)).1 a0 4)).toNatClampNeg (.int a2)).1 a0 2)) (q_i ((q_w (q_w τ1 (q_r (τ1.1 a0 0)) (q_i (τ1.1 a0 4)).toNatClampNeg (.int a1)) (q_r ((q_w τ1 (q_r (τ1.1 a0 0)) (q_i (τ1.1 a0 4)).toNatClampNeg (.int a1)).1 a0 1)) (q_i ((q_w τ1 (q_r (τ1.1 a0 0)) (q_i (τ1.1 a0 4)).toNatClampNeg (.int a1)).1 a0 4)).toNatClampNeg (.int a2)).1 a0 4)).toNatClampNeg (.int a3)) (q_r ((q_w (q_w (q_w τ1 (q_r (τ1.1 a0 0)) (q_i (τ1.1 a0 4)).toNatClampNeg (.int a1)) (q_r ((q_w τ1 (q_r (τ1.1 a0 0)) (q_i (τ1.1 a0 4)).toNatClampNeg (.int a1)).1 a0 1)) (q_i ((q_w τ1 (q_r (τ1.1 a0 0)) (q_i (τ1.1 a0 4)).toNatClampNeg (.int a1)).1 a0 4)).toNatClampNeg (.int a2)) (q_r ((q_w (q_w τ1 (q_r (τ1.1 a0 0)) (q_i (τ1.1 a0 4)).toNatClampNeg (.int a1)) (q_r ((q_w τ1 (q_r (τ1.1 a0 0)) (q_i (τ1.1 a0 4)).toNatClampNeg (.int a1)).1 a0 1)) (q_i ((q_w τ1 (q_r (τ1.1 a0 0)) (q_i (τ1.1 a0 4)).toNatClampNeg (.int a1)).1 a0 4)).toNatClampNeg (.int a2)).1 a0 2)) (q_i ((q_w (q_w τ1 (q_r (τ1.1 a0 0)) (q_i (τ1.1 a0 4)).toNatClampNeg (.int a1)) (q_r ((q_w τ1 (q_r (τ1.1 a0 0)) (q_i (τ1.1 a0 4)).toNatClampNeg (.int a1)).1 a0 1)) (q_i ((q_w τ1 (q_r (τ1.1 a0 0)) (q_i (τ1.1 a0 4)).toNatClampNeg (.int a1)).1 a0 4)).toNatClampNeg (.int a2)).1 a0 4)).toNatClampNeg (.int a3)).1 a0 3)) (q_i ((q_w (q_w (q_w τ1 (q_r (τ1.1 a0 0)) (q_i (τ1.1 a0 4)).toNatClampNeg (.int a1)) (q_r ((q_w τ1 (q_r (τ1.1 a0 0)) (q_i (τ1.1 a0 4)).toNatClampNeg (.int a1)).1 a0 1)) (q_i ((q_w τ1 (q_r (τ1.1 a0 0)) (q_i (τ1.1 a0 4)).toNatClampNeg (.int a1)).1 a0 4)).toNatClampNeg (.int a2)) (q_r ((q_w (q_w τ1 (q_r (τ1.1 a0 0)) (q_i (τ1.1 a0 4)).toNatClampNeg (.int a1)) (q_r ((q_w τ1 (q_r (τ1.1 a0 0)) (q_i (τ1.1 a0 4)).toNatClampNeg (.int a1)).1 a0 1)) (q_i ((q_w τ1 (q_r (τ1.1 a0 0)) (q_i (τ1.1 a0 4)).toNatClampNeg (.int a1)).1 a0 4)).toNatClampNeg (.int a2)).1 a0 2)) (q_i ((q_w (q_w τ1 (q_r (τ1.1 a0 0)) (q_i (τ1.1 a0 4)).toNatClampNeg (.int a1)) (q_r ((q_w τ1 (q_r (τ1.1 a0 0)) (q_i (τ1.1 a0 4)).toNatClampNeg (.int a1)).1 a0 1)) (q_i ((q_w τ1 (q_r (τ1.1 a0 0)) (q_i (τ1.1 a0 4)).toNatClampNeg (.int a1)).1 a0 4)).toNatClampNeg (.int a2)).1 a0 4)).toNatClampNeg (.int a3)).1 a0 4)).toNatClampNeg (.int (Int32.ofInt (0)))) a0 4 (.int ((q_i ((q_w (q_w (q_w (q_w τ1 (q_r (τ1.1 a0 0)) (q_i (τ1.1 a0 4)).toNatClampNeg (.int a1)) (q_r ((q_w τ1 (q_r (τ1.1 a0 0)) (q_i (τ1.1 a0 4)).toNatClampNeg (.int a1)).1 a0 1)) (q_i ((q_w τ1 (q_r (τ1.1 a0 0)) (q_i (τ1.1 a0 4)).toNatClampNeg (.int a1)).1 a0 4)).toNatClampNeg (.int a2)) (q_r ((q_w (q_w τ1 (q_r (τ1.1 a0 0)) (q_i (τ1.1 a0 4)).toNatClampNeg (.int a1)) (q_r ((q_w τ1 (q_r (τ1.1 a0 0)) (q_i (τ1.1 a0 4)).toNatClampNeg (.int a1)).1 a0 1)) (q_i ((q_w τ1 (q_r (τ1.1 a0 0)) (q_i (τ1.1 a0 4)).toNatClampNeg (.int a1)).1 a0 4)).toNatClampNeg (.int a2)).1 a0 2)) (q_i ((q_w (q_w τ1 (q_r (τ1.1 a0 0)) (q_i (τ1.1 a0 4)).toNatClampNeg (.int a1)) (q_r ((q_w τ1 (q_r (τ1.1 a0 0)) (q_i (τ1.1 a0 4)).toNatClampNeg (.int a1)).1 a0 1)) (q_i ((q_w τ1 (q_r (τ1.1 a0 0)) (q_i (τ1.1 a0 4)).toNatClampNeg (.int a1)).1 a0 4)).toNatClampNeg (.int a2)).1 a0 4)).toNatClampNeg (.int a3)) (q_r ((q_w (q_w (q_w τ1 (q_r (τ1.1 a0 0)) (q_i (τ1.1 a0 4)).toNatClampNeg (.int a1)) (q_r ((q_w τ1 (q_r (τ1.1 a0 0)) (q_i (τ1.1 a0 4)).toNatClampNeg (.int a1)).1 a0 1)) (q_i ((q_w τ1 (q_r (τ1.1 a0 0)) (q_i (τ1.1 a0 4)).toNatClampNeg (.int a1)).1 a0 4)).toNatClampNeg (.int a2)) (q_r ((q_w (q_w τ1 (q_r (τ1.1 a0 0)) (q_i (τ1.1 a0 4)).toNatClampNeg (.int a1)) (q_r ((q_w τ1 (q_r (τ1.1 a0 0)) (q_i (τ1.1 a0 4)).toNatClampNeg (.int a1)).1 a0 1)) (q_i ((q_w τ1 (q_r (τ1.1 a0 0)) (q_i (τ1.1 a0 4)).toNatClampNeg (.int a1)).1 a0 4)).toNatClampNeg (.int a2)).1 a0 2)) (q_i ((q_w (q_w τ1 (q_r (τ1.1 a0 0)) (q_i (τ1.1 a0 4)).toNatClampNeg (.int a1)) (q_r ((q_w τ1 (q_r (τ1.1 a0 0)) (q_i (τ1.1 a0 4)).toNatClampNeg (.int a1)).1 a0 1)) (q_i ((q_w τ1 (q_r (τ1.1 a0 0)) (q_i (τ1.1 a0 4)).toNatClampNeg (.int a1)).1 a0 4)).toNatClampNeg (.int a2)).1 a0 4)).toNatClampNeg (.int a3)).1 a0 3)) (q_i ((q_w (q_w (q_w τ1 (q_r (τ1.1 a0 0)) (q_i (τ1.1 a0 4)).toNatClampNeg (.int a1)) (q_r ((q_w τ1 (q_r (τ1.1 a0 0)) (q_i (τ1.1 a0 4)).toNatClampNeg (.int a1)).1 a0 1)) (q_i ((q_w τ1 (q_r (τ1.1 a0 0)) (q_i (τ1.1 a0 4)).toNatClampNeg (.int a1)).1 a0 4)).toNatClampNeg (.int a2)) (q_r ((q_w (q_w τ1 (q_r (τ1.1 a0 0)) (q_i (τ1.1 a0 4)).toNatClampNeg (.int a1)) (q_r ((q_w τ1 (q_r (τ1.1 a0 0)) (q_i (τ1.1 a0 4)).toNatClampNeg (.int a1)).1 a0 1)) (q_i ((q_w τ1 (q_r (τ1.1 a0 0)) (q_i (τ1.1 a0 4)).toNatClampNeg (.int a1)).1 a0 4)).toNatClampNeg (.int a2)).1 a0 2)) (q_i ((q_w (q_w τ1 (q_r (τ1.1 a0 0)) (q_i (τ1.1 a0 4)).toNatClampNeg (.int a1)) (q_r ((q_w τ1 (q_r (τ1.1 a0 0)) (q_i (τ1.1 a0 4)).toNatClampNeg (.int a1)).1 a0 1)) (q_i ((q_w τ1 (q_r (τ1.1 a0 0)) (q_i (τ1.1 a0 4)).toNatClampNeg (.int a1)).1 a0 4)).toNatClampNeg (.int a2)).1 a0 4)).toNatClampNeg (.int a3)).1 a0 4)).toNatClampNeg (.int (Int32.ofInt (0)))).1 a0 4)) + (Int32.ofInt (1))))).1 a0 4)) - (Int32.ofInt (1))) (q_w (q_w (q_w (q_w (q_w τ1 (q_r (τ1.1 a0 0)) (q_i (τ1.1 a0 4)).toNatClampNeg (.int a1)) (q_r ((q_w τ1 (q_r (τ1.1 a0 0)) (q_i (τ1.1 a0 4)).toNatClampNeg (.int a1)).1 a0 1)) (q_i ((q_w τ1 (q_r (τ1.1 a0 0)) (q_i (τ1.1 a0 4)).toNatClampNeg (.int a1)).1 a0 4)).toNatClampNeg (.int a2)) (q_r ((q_w (q_w τ1 (q_r (τ1.1 a0 0)) (q_i (τ1.1 a0 4)).toNatClampNeg (.int a1)) (q_r ((q_w τ1 (q_r (τ1.1 a0 0)) (q_i (τ1.1 a0 4)).toNatClampNeg (.int a1)).1 a0 1)) (q_i ((q_w τ1 (q_r (τ1.1 a0 0)) (q_i (τ1.1 a0 4)).toNatClampNeg (.int a1)).1 a0 4)).toNatClampNeg (.int a2)).1 a0 2)) (q_i ((q_w (q_w τ1 (q_r (τ1.1 a0 0)) (q_i (τ1.1 a0 4)).toNatClampNeg (.int a1)) (q_r ((q_w τ1 (q_r (τ1.1 a0 0)) (q_i (τ1.1 a0 4)).toNatClampNeg (.int a1)).1 a0 1)) (q_i ((q_w τ1 (q_r (τ1.1 a0 0)) (q_i (τ1.1 a0 4)).toNatClampNeg (.int a1)).1 a0 4)).toNatClampNeg (.int a2)).1 a0 4)).toNatClampNeg (.int a3)) (q_r ((q_w (q_w (q_w τ1 (q_r (τ1.1 a0 0)) (q_i (τ1.1 a0 4)).toNatClampNeg (.int a1)) (q_r ((q_w τ1 (q_r (τ1.1 a0 0)) (q_i (τ1.1 a0 4)).toNatClampNeg (.int a1)).1 a0 1)) (q_i ((q_w τ1 (q_r (τ1.1 a0 0)) (q_i (τ1.1 a0 4)).toNatClampNeg (.int a1)).1 a0 4)).toNatClampNeg (.int a2)) (q_r ((q_w (q_w τ1 (q_r (τ1.1 a0 0)) (q_i (τ1.1 a0 4)).toNatClampNeg (.int a1)) (q_r ((q_w τ1 (q_r (τ1.1 a0 0)) (q_i (τ1.1 a0 4)).toNatClampNeg (.int a1)).1 a0 1)) (q_i ((q_w τ1 (q_r (τ1.1 a0 0)) (q_i (τ1.1 a0 4)).toNatClampNeg (.int a1)).1 a0 4)).toNatClampNeg (.int a2)).1 a0 2)) (q_i ((q_w (q_w τ1 (q_r (τ1.1 a0 0)) (q_i (τ1.1 a0 4)).toNatClampNeg (.int a1)) (q_r ((q_w τ1 (q_r (τ1.1 a0 0)) (q_i (τ1.1 a0 4)).toNatClampNeg (.int a1)).1 a0 1)) (q_i ((q_w τ1 (q_r (τ1.1 a0 0)) (q_i (τ1.1 a0 4)).toNatClampNeg (.int a1)).1 a0 4)).toNatClampNeg (.int a2)).1 a0 4)).toNatClampNeg (.int a3)).1 a0 3)) (q_i ((q_w (q_w (q_w τ1 (q_r (τ1.1 a0 0)) (q_i (τ1.1 a0 4)).toNatClampNeg (.int a1)) (q_r ((q_w τ1 (q_r (τ1.1 a0 0)) (q_i (τ1.1 a0 4)).toNatClampNeg (.int a1)).1 a0 1)) (q_i ((q_w τ1 (q_r (τ1.1 a0 0)) (q_i (τ1.1 a0 4)).toNatClampNeg (.int a1)).1 a0 4)).toNatClampNeg (.int a2)) (q_r ((q_w (q_w τ1 (q_r (τ1.1 a0 0)) (q_i (τ1.1 a0 4)).toNatClampNeg (.int a1)) (q_r ((q_w τ1 (q_r (τ1.1 a0 0)) (q_i (τ1.1 a0 4)).toNatClampNeg (.int a1)).1 a0 1)) (q_i ((q_w τ1 (q_r (τ1.1 a0 0)) (q_i (τ1.1 a0 4)).toNatClampNeg (.int a1)).1 a0 4)).toNatClampNeg (.int a2)).1 a0 2)) (q_i ((q_w (q_w τ1 (q_r (τ1.1 a0 0)) (q_i (τ1.1 a0 4)).toNatClampNeg (.int a1)) (q_r ((q_w τ1 (q_r (τ1.1 a0 0)) (q_i (τ1.1 a0 4)).toNatClampNeg (.int a1)).1 a0 1)) (q_i ((q_w τ1 (q_r (τ1.1 a0 0)) (q_i (τ1.1 a0 4)).toNatClampNeg (.int a1)).1 a0 4)).toNatClampNeg (.int a2)).1 a0 4)).toNatClampNeg (.int a3)).1 a0 4)).toNatClampNeg (.int (Int32.ofInt (0)))) a0 4 (.int ((q_i ((q_w (q_w (q_w (q_w τ1 (q_r (τ1.1 a0 0)) (q_i (τ1.1 a0 4)).toNatClampNeg (.int a1)) (q_r ((q_w τ1 (q_r (τ1.1 a0 0)) (q_i (τ1.1 a0 4)).toNatClampNeg (.int a1)).1 a0 1)) (q_i ((q_w τ1 (q_r (τ1.1 a0 0)) (q_i (τ1.1 a0 4)).toNatClampNeg (.int a1)).1 a0 4)).toNatClampNeg (.int a2)) (q_r ((q_w (q_w τ1 (q_r (τ1.1 a0 0)) (q_i (τ1.1 a0 4)).toNatClampNeg (.int a1)) (q_r ((q_w τ1 (q_r (τ1.1 a0 0)) (q_i (τ1.1 a0 4)).toNatClampNeg (.int a1)).1 a0 1)) (q_i ((q_w τ1 (q_r (τ1.1 a0 0)) (q_i (τ1.1 a0 4)).toNatClampNeg (.int a1)).1 a0 4)).toNatClampNeg (.int a2)).1 a0 2)) (q_i ((q_w (q_w τ1 (q_r (τ1.1 a0 0)) (q_i (τ1.1 a0 4)).toNatClampNeg (.int a1)) (q_r ((q_w τ1 (q_r (τ1.1 a0 0)) (q_i (τ1.1 a0 4)).toNatClampNeg (.int a1)).1 a0 1)) (q_i ((q_w τ1 (q_r (τ1.1 a0 0)) (q_i (τ1.1 a0 4)).toNatClampNeg (.int a1)).1 a0 4)).toNatClampNeg (.int a2)).1 a0 4)).toNatClampNeg (.int a3)) (q_r ((q_w (q_w (q_w τ1 (q_r (τ1.1 a0 0)) (q_i (τ1.1 a0 4)).toNatClampNeg (.int a1)) (q_r ((q_w τ1 (q_r (τ1.1 a0 0)) (q_i (τ1.1 a0 4)).toNatClampNeg (.int a1)).1 a0 1)) (q_i ((q_w τ1 (q_r (τ1.1 a0 0)) (q_i (τ1.1 a0 4)).toNatClampNeg (.int a1)).1 a0 4)).toNatClampNeg (.int a2)) (q_r ((q_w (q_w τ1 (q_r (τ1.1 a0 0)) (q_i (τ1.1 a0 4)).toNatClampNeg (.int a1)) (q_r ((q_w τ1 (q_r (τ1.1 a0 0)) (q_i (τ1.1 a0 4)).toNatClampNeg (.int a1)).1 a0 1)) (q_i ((q_w τ1 (q_r (τ1.1 a0 0)) (q_i (τ1.1 a0 4)).toNatClampNeg (.int a1)).1 a0 4)).toNatClampNeg (.int a2)).1 a0 2)) (q_i ((q_w (q_w τ1 (q_r (τ1.1 a0 0)) (q_i (τ1.1 a0 4)).toNatClampNeg (.int a1)) (q_r ((q_w τ1 (q_r (τ1.1 a0 0)) (q_i (τ1.1 a0 4)).toNatClampNeg (.int a1)).1 a0 1)) (q_i ((q_w τ1 (q_r (τ1.1 a0 0)) (q_i (τ1.1 a0 4)).toNatClampNeg (.int a1)).1 a0 4)).toNatClampNeg (.int a2)).1 a0 4)).toNatClampNeg (.int a3)).1 a0 3)) (q_i ((q_w (q_w (q_w τ1 (q_r (τ1.1 a0 0)) (q_i (τ1.1 a0 4)).toNatClampNeg (.int a1)) (q_r ((q_w τ1 (q_r (τ1.1 a0 0)) (q_i (τ1.1 a0 4)).toNatClampNeg (.int a1)).1 a0 1)) (q_i ((q_w τ1 (q_r (τ1.1 a0 0)) (q_i (τ1.1 a0 4)).toNatClampNeg (.int a1)).1 a0 4)).toNatClampNeg (.int a2)) (q_r ((q_w (q_w τ1 (q_r (τ1.1 a0 0)) (q_i (τ1.1 a0 4)).toNatClampNeg (.int a1)) (q_r ((q_w τ1 (q_r (τ1.1 a0 0)) (q_i (τ1.1 a0 4)).toNatClampNeg (.int a1)).1 a0 1)) (q_i ((q_w τ1 (q_r (τ1.1 a0 0)) (q_i (τ1.1 a0 4)).toNatClampNeg (.int a1)).1 a0 4)).toNatClampNeg (.int a2)).1 a0 2)) (q_i ((q_w (q_w τ1 (q_r (τ1.1 a0 0)) (q_i (τ1.1 a0 4)).toNatClampNeg (.int a1)) (q_r ((q_w τ1 (q_r (τ1.1 a0 0)) (q_i (τ1.1 a0 4)).toNatClampNeg (.int a1)).1 a0 1)) (q_i ((q_w τ1 (q_r (τ1.1 a0 0)) (q_i (τ1.1 a0 4)).toNatClampNeg (.int a1)).1 a0 4)).toNatClampNeg (.int a2)).1 a0 4)).toNatClampNeg (.int a3)).1 a0 4)).toNatClampNeg (.int (Int32.ofInt (0)))).1 a0 4)) + (Int32.ofInt (1))))) := by
  rintro b H nf rfl K h0 hn
  obtain ⟨rfl, e1⟩ := g1
  have p0 : q_i (τ1.1 (b + 2) 4) = Int32.ofNat nf := (K.p hp_0).trans h0
  rw [p0, o32 (by omega)] at e1
  have h6 : nf < 6 := by have := e1.mp h2; omega
  have w0 : hPr b (40 + 4 * nf) (b + 3) nf := hp_f0 h6
  have w1 : hPr b (41 + 4 * nf) (b + 4) nf := hp_f1 h6
  have w2 : hPr b (42 + 4 * nf) (b + 5) nf := hp_f2 h6
  have w3 : hPr b (43 + 4 * nf) (b + 6) nf := hp_f3 h6
  have w4 : hPr b 0 (b + 2) 4 := hp_0
  have K0 := K.ww (v := a1) w0
  have K1 := K0.ww (v := a2) w1
  have K2 := K1.ww (v := a3) w2
  have K3 := K2.ww (v := Int32.ofInt 0) w3
  have n0 : (Int32.ofNat nf).toNatClampNeg = nf := o32n (by omega)
  have d0 : q_r (τ1.1 (b + 2) 0) = b + 3 := K.k hk_f0
  have d1 := K0.k hk_f1
  have d2 := K1.k hk_f2
  have d3 := K2.k hk_f3
  have c0 : aU H (40 + 4 * nf) a1 0 = Int32.ofNat nf := (aU_ne (by omega)).trans h0
  have c1 : aU (aU H (40 + 4 * nf) a1) (41 + 4 * nf) a2 0 = Int32.ofNat nf := (aU_ne (by omega)).trans c0
  have c2 : aU (aU (aU H (40 + 4 * nf) a1) (41 + 4 * nf) a2) (42 + 4 * nf) a3 0 = Int32.ofNat nf := (aU_ne (by omega)).trans c1
  have c3 : aU (aU (aU (aU H (40 + 4 * nf) a1) (41 + 4 * nf) a2) (42 + 4 * nf) a3) (43 + 4 * nf) (Int32.ofInt 0) 0 = Int32.ofNat nf := (aU_ne (by omega)).trans c2
  have p1 := (K0.p w4).trans c0
  have p2 := (K1.p w4).trans c1
  have p3 := (K2.p w4).trans c2
  have p4 := (K3.p w4).trans c3
  have K4 := K3.ww (v := Int32.ofNat (nf + 1)) w4
  have p5 := (K4.p w4).trans aU_at
  have i1 : Int32.ofNat nf + Int32.ofInt 1 = Int32.ofNat (nf + 1) := o32i (by omega)
  simp only [d0, d1, d2, d3, p0, p1, p2, p3, p4, n0, i1, p5]
  refine ⟨((((hHF.w w0).tr (hHF.w w1)).tr (hHF.w w2)).tr (hHF.w w3)).tr (hHF.w w4), fun h => by omega, fun _ => ⟨?_, K4⟩⟩
  refine Int32.toInt_inj.mp ?_
  rw [zI_sub (o32 (by omega)) (zI_c (by omega) (by omega)) (by omega) (by omega), o32 (by omega)]
  omega
theorem sp_12_ef (a0 : Nat) (a1 : Int32) (a2 : Int32) (a3 : Int32) (σ : zSg) (τ1 : zSg) (r1 : Int32) (g1 : p_10 a0 σ r1 τ1) (h2 : r1.toInt = (0 : Int)) :
    p_12 (a0) (a1) (a2) (a3) σ (Int32.ofInt (-1)) τ1 := by
  rintro b H nf rfl K h0 hn
  obtain ⟨rfl, e1⟩ := g1
  have p0 : q_i (τ1.1 (b + 2) 4) = Int32.ofNat nf := (K.p hp_0).trans h0
  rw [p0, o32 (by omega)] at e1
  refine ⟨hHF.rf, fun _ => rfl, fun h => ?_⟩
  exact absurd h2 (e1.mpr (by omega))
noncomputable def qP_12 : zPp := fun as σ o σ' => match as with
  | [a0, a1, a2, a3] => ∃ r, o = .inl (some (.int r)) ∧ p_12 (q_r a0) (q_i a1) (q_i a2) (q_i a3) σ r σ'
  | _ => True
set_option maxRecDepth 100000 in
theorem sp_12 {sx : zX} (S10 : zEe sx 10 1 qP_10) : zEe sx 12 4 qP_12 := by
  refine zfle zJ_12 (sps := [(10, 1, qP_10)]) (fun q hq => by
    simp only [List.mem_cons, List.not_mem_nil, or_false] at hq
    rcases hq with rfl
    · exact S10) (fun as σ hl => ?_)
  match as, hl with
  | [a0, a1, a2, a3], _ =>
  refine ⟨[], 400, ?_, ?_⟩
  · exact fun q hq => absurd hq List.not_mem_nil
  · refine fun o1 τ1 g1 => ?_
    obtain ⟨r1, rfl, g1⟩ := g1
    refine And.intro (fun h2 => ?_) (fun h2 => ?_)
    · refine fun h3 => ?_
      refine fun h4 => ?_
      refine fun h5 => ?_
      refine fun h6 => ?_
      exact ⟨_, rfl, sp_12_et (q_r a0) (q_i a1) (q_i a2) (q_i a3) σ τ1 r1 g1 (cm1t h2) (q_inp h3) (q_inp h4) (q_inp h5) (q_inp h6)⟩
    · exact ⟨_, rfl, sp_12_ef (q_r a0) (q_i a1) (q_i a2) (q_i a3) σ τ1 r1 g1 (cm1f h2)⟩
theorem zJ_13 : zJ3 13 z_m13 z_c13 z_h13 := ⟨rfl, rfl, rfl⟩
noncomputable def p_13 (a : Nat) (f q : Int32) (σ σ' : zSg) : Prop := ∀ b H nf, a = b + 2 → hH σ b H → H 0 = Int32.ofNat nf → nf ≤ 6 → hHF b σ σ' ∧ (∀ F, f = Int32.ofNat F → F < nf → hH σ' b (aU H (43 + 4 * F) (H (43 + 4 * F) ||| q))) ∧ ∃ H', hH σ' b H' ∧ ∀ k, ¬ (40 ≤ k ∧ k < 64) → H' k = H k
theorem sp_13_et (a0 : Nat) (a1 : Int32) (a2 : Int32) (σ : zSg) (τ1 : zSg) (r1 : Int32) (g1 : p_9 a0 a1 σ r1 τ1) (h2 : r1.toInt = (0 : Int)) :
    p_13 (a0) (a1) (a2) σ τ1 := by
  rintro b H nf rfl K h0 hn
  obtain ⟨rfl, e1⟩ := g1
  have p0 : q_i (τ1.1 (b + 2) 4) = Int32.ofNat nf := (K.p hp_0).trans h0
  rw [p0, o32 (by omega)] at e1
  refine ⟨hHF.rf, fun F hF hl => ?_, H, K, fun _ _ => rfl⟩
  refine absurd h2 (e1.mpr ?_)
  rw [hF, o32 (by omega)]
  omega
theorem sp_13_ef (a0 : Nat) (a1 : Int32) (a2 : Int32) (σ : zSg) (τ1 : zSg) (r1 : Int32) (g1 : p_9 a0 a1 σ r1 τ1) (h2 : r1.toInt ≠ (0 : Int)) (h3 : 0 ≤ a1.toInt ∧ a1.toInt < (τ1.2.1 (q_r (τ1.1 a0 3)) : Int)) (h4 : 0 ≤ a1.toInt ∧ a1.toInt < (τ1.2.1 (q_r (τ1.1 a0 3)) : Int)) :
    p_13 (a0) (a1) (a2) σ (q_w τ1 (q_r (τ1.1 a0 3)) a1.toNatClampNeg (.int ((q_i (τ1.1 (q_r (τ1.1 a0 3)) a1.toNatClampNeg)) ||| a2))) := by
  rintro b H nf rfl K h0 hn
  obtain ⟨rfl, e1⟩ := g1
  have p0 : q_i (τ1.1 (b + 2) 4) = Int32.ofNat nf := (K.p hp_0).trans h0
  rw [p0, o32 (by omega)] at e1
  have hf := e1.mp h2
  obtain ⟨F, hF⟩ : ∃ F : Nat, a1.toInt = (F : Int) := ⟨a1.toInt.toNat, by omega⟩
  have eF : a1 = Int32.ofNat F := Int32.toInt_inj.mp (by rw [hF, o32 (by omega)])
  subst eF
  have nF : (Int32.ofNat F).toNatClampNeg = F := o32n (by omega)
  have w3 : hPr b (43 + 4 * F) (b + 6) F := hp_f3 (by omega)
  have d3 := K.k hk_f3
  have p3 := K.p w3
  simp only [d3, nF, p3]
  have K1 := K.ww (v := H (43 + 4 * F) ||| a2) w3
  refine ⟨hHF.w w3, fun G hG hl => ?_, _, K1, fun k hk => aU_ne (by omega)⟩
  have : F = G := by
    have h9 := congrArg Int32.toInt hG
    rw [o32 (by omega), o32 (by omega)] at h9
    omega
  subst this
  exact K1
noncomputable def qP_13 : zPp := fun as σ o σ' => match as with
  | [a0, a1, a2] => o = .inl none ∧ p_13 (q_r a0) (q_i a1) (q_i a2) σ σ'
  | _ => True
set_option maxRecDepth 100000 in
theorem sp_13 {sx : zX} (S9 : zEe sx 9 2 qP_9) : zEe sx 13 3 qP_13 := by
  refine zfle zJ_13 (sps := [(9, 2, qP_9)]) (fun q hq => by
    simp only [List.mem_cons, List.not_mem_nil, or_false] at hq
    rcases hq with rfl
    · exact S9) (fun as σ hl => ?_)
  match as, hl with
  | [a0, a1, a2], _ =>
  refine ⟨[], 400, ?_, ?_⟩
  · exact fun q hq => absurd hq List.not_mem_nil
  · refine fun o1 τ1 g1 => ?_
    obtain ⟨r1, rfl, g1⟩ := g1
    refine And.intro (fun h2 => ?_) (fun h2 => ?_)
    · exact ⟨rfl, sp_13_et (q_r a0) (q_i a1) (q_i a2) σ τ1 r1 g1 (cm0t h2)⟩
    · refine fun h3 => ?_
      refine fun h4 => ?_
      exact ⟨rfl, sp_13_ef (q_r a0) (q_i a1) (q_i a2) σ τ1 r1 g1 (cm0f h2) (q_inp h3) (q_inp h4)⟩
theorem zJ_29 : zJ3 29 z_m29 z_c29 z_h29 := ⟨rfl, rfl, rfl⟩
noncomputable def p_29 (a : Nat) (q f : Int32) (σ σ' : zSg) : Prop := ∀ H, hH σ a H → hHF a σ σ' ∧ hH σ' a (dG H q f)
noncomputable def i_29 (a : Nat) (q f : Int32) (σ : zSg) (l0 : Nat) (l1 l2 l3 : Int32) (τ : zSg) : Prop := l0 = a ∧ l1 = q ∧ l2 = f ∧ ∀ H, hH σ a H → ∃ n, n ≤ 24 ∧ l3 = Int32.ofNat n ∧ hHF a σ τ ∧ hH τ a (gN H q f n)
theorem sp_29_e (a0 : Nat) (a1 : Int32) (a2 : Int32) (σ : zSg)  :
    i_29 a0 a1 a2 σ a0 a1 a2 (Int32.ofInt (0)) σ := by
  exact ⟨rfl, rfl, rfl, fun H K => ⟨0, by omega, rfl, hHF.rf, K.cg (fun k _ => gN_0 k)⟩⟩
theorem sp_29_c2_t (a0 : Nat) (a1 : Int32) (a2 : Int32) (σ : zSg) (l0 : Nat) (l1 : Int32) (l2 : Int32) (l3 : Int32) (τ : zSg) (hI : i_29 a0 a1 a2 σ l0 l1 l2 l3 τ) (h1 : l3.toInt ≥ (24 : Int)) :
    p_29 (a0) (a1) (a2) σ τ := by
  obtain ⟨rfl, rfl, rfl, hI⟩ := hI
  intro H K
  obtain ⟨n, hn, rfl, f1, K1⟩ := hI H K
  rw [o32 (by omega)] at h1
  have : n = 24 := by omega
  subst this
  exact ⟨f1, K1.cg (fun k _ => gN_24 k)⟩
theorem sp_29_c2_ft (a0 : Nat) (a1 : Int32) (a2 : Int32) (σ : zSg) (l0 : Nat) (l1 : Int32) (l2 : Int32) (l3 : Int32) (τ : zSg) (hI : i_29 a0 a1 a2 σ l0 l1 l2 l3 τ) (h1 : l3.toInt < (24 : Int)) (h2 : ((l1 >>> (l3 &&& 31)) &&& (Int32.ofInt (1))).toInt ≠ (1 : Int)) :
    i_29 a0 a1 a2 σ l0 l1 l2 (l3 + Int32.ofInt (1)) τ := by
  obtain ⟨rfl, rfl, rfl, hI⟩ := hI
  refine ⟨rfl, rfl, rfl, fun H K => ?_⟩
  obtain ⟨n, hn, rfl, f1, K1⟩ := hI H K
  rw [o32 (by omega)] at h1
  refine ⟨n + 1, by omega, o32i (by omega), f1, K1.cg (fun k hk => ?_)⟩
  have h9 : ¬ btb l1 (Int32.ofNat n) = true := fun h => h2 (of_decide_eq_true h)
  rw [← gN_s (v := gN H l1 l2 n (16 + n)) (by omega) (by rw [if_neg h9]; unfold gN; rw [if_neg (by omega)]) k]
  by_cases h : k = 16 + n
  · rw [h, aU_at]
  · rw [aU_ne h]
theorem sp_29_c2_ff (a0 : Nat) (a1 : Int32) (a2 : Int32) (σ : zSg) (l0 : Nat) (l1 : Int32) (l2 : Int32) (l3 : Int32) (τ : zSg) (hI : i_29 a0 a1 a2 σ l0 l1 l2 l3 τ) (h1 : l3.toInt < (24 : Int)) (h2 : ((l1 >>> (l3 &&& 31)) &&& (Int32.ofInt (1))).toInt = (1 : Int)) (h3 : 0 ≤ l3.toInt ∧ l3.toInt < (τ.2.1 (q_r (τ.1 l0 0)) : Int)) :
    i_29 a0 a1 a2 σ l0 l1 l2 (l3 + Int32.ofInt (1)) (q_w τ (q_r (τ.1 l0 0)) l3.toNatClampNeg (.int l2)) := by
  obtain ⟨rfl, rfl, rfl, hI⟩ := hI
  refine ⟨rfl, rfl, rfl, fun H K => ?_⟩
  obtain ⟨n, hn, rfl, f1, K1⟩ := hI H K
  rw [o32 (by omega)] at h1
  have h9 : btb l1 (Int32.ofNat n) = true := decide_eq_true h2
  have nn : (Int32.ofNat n).toNatClampNeg = n := o32n (by omega)
  have w0 : hPr l0 (16 + n) (l0 + 1) n := hp_h (by omega)
  have d0 := K1.k hk_0
  simp only [d0, nn]
  exact ⟨n + 1, by omega, o32i (by omega), f1.tr (hHF.w w0), (K1.ww w0).cg (fun k _ => gN_s (by omega) (by rw [if_pos h9]) k)⟩
noncomputable def qP_29 : zPp := fun as σ o σ' => match as with
  | [a0, a1, a2] => o = .inl none ∧ p_29 (q_r a0) (q_i a1) (q_i a2) σ σ'
  | _ => True
set_option maxRecDepth 100000 in
theorem sp_29 {sx : zX}  : zEe sx 29 3 qP_29 := by
  refine zfle zJ_29 (sps := []) (fun q hq => absurd hq List.not_mem_nil) (fun as σ hl => ?_)
  match as, hl with
  | [a0, a1, a2], _ =>
  refine ⟨[(2, fun lo st τ => st = [] ∧ i_29 (q_r a0) (q_i a1) (q_i a2) σ (q_r (lo 0)) (q_i (lo 1)) (q_i (lo 2)) (q_i (lo 3)) τ)], 400, ?_, ?_⟩
  · intro q hq
    simp only [List.mem_cons, List.not_mem_nil, or_false] at hq
    rcases hq with rfl
    · rintro lo st τ ⟨rfl, hI⟩
      refine ⟨400, ?_⟩
      refine And.intro (fun h1 => ?_) (fun h1 => ?_)
      · exact ⟨rfl, sp_29_c2_t (q_r a0) (q_i a1) (q_i a2) σ (q_r (lo 0)) (q_i (lo 1)) (q_i (lo 2)) (q_i (lo 3)) τ hI (cm3t h1)⟩
      · refine And.intro (fun h2 => ?_) (fun h2 => ?_)
        · exact ⟨rfl, sp_29_c2_ft (q_r a0) (q_i a1) (q_i a2) σ (q_r (lo 0)) (q_i (lo 1)) (q_i (lo 2)) (q_i (lo 3)) τ hI (cm3f h1) (cm1t h2)⟩
        · refine fun h3 => ?_
          exact ⟨rfl, sp_29_c2_ff (q_r a0) (q_i a1) (q_i a2) σ (q_r (lo 0)) (q_i (lo 1)) (q_i (lo 2)) (q_i (lo 3)) τ hI (cm3f h1) (cm1f h2) (q_inp h3)⟩
  · exact ⟨rfl, sp_29_e (q_r a0) (q_i a1) (q_i a2) σ ⟩
noncomputable def dBr (H : Nat → Int32) (nt : Nat) (f v l : Int32) : Nat → Int32 := aU (aU (aU (aU H (64 + 3 * nt) f) (65 + 3 * nt) v) (66 + 3 * nt) l) 1 (Int32.ofNat (nt + 1))
theorem zJ_104 : zJ3 104 z_m104 z_c104 z_h104 := ⟨rfl, rfl, rfl⟩
noncomputable def p_104 (a : Nat) (f v l : Int32) (σ σ' : zSg) : Prop := ∀ b H nt, a = b + 7 → hH σ b H → H 1 = Int32.ofNat nt → nt ≤ 8 → hHF b σ σ' ∧ (nt = 8 → σ' = σ) ∧ (nt < 8 → (l.toInt ≠ 0 → hH σ' b (dBr H nt f v (Int32.ofInt 1))) ∧ (l.toInt = 0 → hH σ' b (dBr H nt f v (H (66 + 3 * nt)))))
theorem sp_104_ett (a0 : Nat) (a1 : Int32) (a2 : Int32) (a3 : Int32) (σ : zSg) (τ1 : zSg) (r1 : Int32) (g1 : p_103 a0 σ r1 τ1) (h2 : r1.toInt ≠ (0 : Int)) (h3 : 0 ≤ (q_i (τ1.1 a0 3)).toInt ∧ (q_i (τ1.1 a0 3)).toInt < (τ1.2.1 (q_r (τ1.1 a0 0)) : Int)) (h4 : 0 ≤ (q_i ((q_w τ1 (q_r (τ1.1 a0 0)) (q_i (τ1.1 a0 3)).toNatClampNeg (.int a1)).1 a0 3)).toInt ∧ (q_i ((q_w τ1 (q_r (τ1.1 a0 0)) (q_i (τ1.1 a0 3)).toNatClampNeg (.int a1)).1 a0 3)).toInt < ((q_w τ1 (q_r (τ1.1 a0 0)) (q_i (τ1.1 a0 3)).toNatClampNeg (.int a1)).2.1 (q_r ((q_w τ1 (q_r (τ1.1 a0 0)) (q_i (τ1.1 a0 3)).toNatClampNeg (.int a1)).1 a0 1)) : Int)) (h5 : a3.toInt = (0 : Int)) :
    p_104 (a0) (a1) (a2) (a3) σ (q_w (q_w (q_w τ1 (q_r (τ1.1 a0 0)) (q_i (τ1.1 a0 3)).toNatClampNeg (.int a1)) (q_r ((q_w τ1 (q_r (τ1.1 a0 0)) (q_i (τ1.1 a0 3)).toNatClampNeg (.int a1)).1 a0 1)) (q_i ((q_w τ1 (q_r (τ1.1 a0 0)) (q_i (τ1.1 a0 3)).toNatClampNeg (.int a1)).1 a0 3)).toNatClampNeg (.int a2)) a0 3 (.int ((q_i ((q_w (q_w τ1 (q_r (τ1.1 a0 0)) (q_i (τ1.1 a0 3)).toNatClampNeg (.int a1)) (q_r ((q_w τ1 (q_r (τ1.1 a0 0)) (q_i (τ1.1 a0 3)).toNatClampNeg (.int a1)).1 a0 1)) (q_i ((q_w τ1 (q_r (τ1.1 a0 0)) (q_i (τ1.1 a0 3)).toNatClampNeg (.int a1)).1 a0 3)).toNatClampNeg (.int a2)).1 a0 3)) + (Int32.ofInt (1))))) := by
  rintro b H nt rfl K h1 hn
  obtain ⟨rfl, e1⟩ := g1
  have p1 : q_i (τ1.1 (b + 7) 3) = Int32.ofNat nt := (K.p hp_1).trans h1
  rw [p1, o32 (by omega)] at e1
  have h8 : nt < 8 := by have := e1.mp h2; omega
  have w0 : hPr b (64 + 3 * nt) (b + 8) nt := hp_o h8
  have w1 : hPr b (65 + 3 * nt) (b + 9) nt := hp_b h8
  have w3 : hPr b 1 (b + 7) 3 := hp_1
  have K0 := K.ww (v := a1) w0
  have K1 := K0.ww (v := a2) w1
  have n0 : (Int32.ofNat nt).toNatClampNeg = nt := o32n (by omega)
  have d0 := K.k hk_t0
  have d1 := K0.k hk_t1
  have c0 : aU H (64 + 3 * nt) a1 1 = Int32.ofNat nt := (aU_ne (by omega)).trans h1
  have c1 : aU (aU H (64 + 3 * nt) a1) (65 + 3 * nt) a2 1 = Int32.ofNat nt := (aU_ne (by omega)).trans c0
  have p2 := (K0.p w3).trans c0
  have p3 := (K1.p w3).trans c1
  have i1 : Int32.ofNat nt + Int32.ofInt 1 = Int32.ofNat (nt + 1) := o32i (by omega)
  simp only [d0, d1, p1, p2, p3, n0, i1]
  have K3 := K1.ww (v := Int32.ofNat (nt + 1)) w3
  refine ⟨((hHF.w w0).tr (hHF.w w1)).tr (hHF.w w3), fun h => by omega, fun _ => ⟨fun h => ?_, fun _ => ?_⟩⟩
  · exact absurd ‹_› h
  · refine K3.cg (fun k _ => ?_)
    unfold dBr
    by_cases h : k = 1
    · rw [h, aU_at, aU_at]
    · rw [aU_ne h, aU_ne h]
      by_cases h9 : k = 66 + 3 * nt
      · rw [h9, aU_at, aU_ne (by omega), aU_ne (by omega)]
      · rw [aU_ne (k := 66 + 3 * nt) h9]
theorem sp_104_etf (a0 : Nat) (a1 : Int32) (a2 : Int32) (a3 : Int32) (σ : zSg) (τ1 : zSg) (r1 : Int32) (τ6 : zSg) (g1 : p_103 a0 σ r1 τ1) (h2 : r1.toInt ≠ (0 : Int)) (h3 : 0 ≤ (q_i (τ1.1 a0 3)).toInt ∧ (q_i (τ1.1 a0 3)).toInt < (τ1.2.1 (q_r (τ1.1 a0 0)) : Int)) (h4 : 0 ≤ (q_i ((q_w τ1 (q_r (τ1.1 a0 0)) (q_i (τ1.1 a0 3)).toNatClampNeg (.int a1)).1 a0 3)).toInt ∧ (q_i ((q_w τ1 (q_r (τ1.1 a0 0)) (q_i (τ1.1 a0 3)).toNatClampNeg (.int a1)).1 a0 3)).toInt < ((q_w τ1 (q_r (τ1.1 a0 0)) (q_i (τ1.1 a0 3)).toNatClampNeg (.int a1)).2.1 (q_r ((q_w τ1 (q_r (τ1.1 a0 0)) (q_i (τ1.1 a0 3)).toNatClampNeg (.int a1)).1 a0 1)) : Int)) (h5 : a3.toInt ≠ (0 : Int)) (g6 : p_106 a0 (q_i ((q_w (q_w τ1 (q_r (τ1.1 a0 0)) (q_i (τ1.1 a0 3)).toNatClampNeg (.int a1)) (q_r ((q_w τ1 (q_r (τ1.1 a0 0)) (q_i (τ1.1 a0 3)).toNatClampNeg (.int a1)).1 a0 1)) (q_i ((q_w τ1 (q_r (τ1.1 a0 0)) (q_i (τ1.1 a0 3)).toNatClampNeg (.int a1)).1 a0 3)).toNatClampNeg (.int a2)).1 a0 3)) (q_w (q_w τ1 (q_r (τ1.1 a0 0)) (q_i (τ1.1 a0 3)).toNatClampNeg (.int a1)) (q_r ((q_w τ1 (q_r (τ1.1 a0 0)) (q_i (τ1.1 a0 3)).toNatClampNeg (.int a1)).1 a0 1)) (q_i ((q_w τ1 (q_r (τ1.1 a0 0)) (q_i (τ1.1 a0 3)).toNatClampNeg (.int a1)).1 a0 3)).toNatClampNeg (.int a2)) τ6) :
    p_104 (a0) (a1) (a2) (a3) σ (q_w τ6 a0 3 (.int ((q_i (τ6.1 a0 3)) + (Int32.ofInt (1))))) := by
  rintro b H nt rfl K h1 hn
  obtain ⟨rfl, e1⟩ := g1
  have p1 : q_i (τ1.1 (b + 7) 3) = Int32.ofNat nt := (K.p hp_1).trans h1
  rw [p1, o32 (by omega)] at e1
  have h8 : nt < 8 := by have := e1.mp h2; omega
  have w0 : hPr b (64 + 3 * nt) (b + 8) nt := hp_o h8
  have w1 : hPr b (65 + 3 * nt) (b + 9) nt := hp_b h8
  have w3 : hPr b 1 (b + 7) 3 := hp_1
  have K0 := K.ww (v := a1) w0
  have K1 := K0.ww (v := a2) w1
  have n0 : (Int32.ofNat nt).toNatClampNeg = nt := o32n (by omega)
  have d0 := K.k hk_t0
  have d1 := K0.k hk_t1
  have c0 : aU H (64 + 3 * nt) a1 1 = Int32.ofNat nt := (aU_ne (by omega)).trans h1
  have c1 : aU (aU H (64 + 3 * nt) a1) (65 + 3 * nt) a2 1 = Int32.ofNat nt := (aU_ne (by omega)).trans c0
  have p2 := (K0.p w3).trans c0
  have p3 := (K1.p w3).trans c1
  have i1 : Int32.ofNat nt + Int32.ofInt 1 = Int32.ofNat (nt + 1) := o32i (by omega)
  simp only [d0, d1, p1, p2, p3, n0] at g6 ⊢
  have K2 := K1.pd h8
  obtain rfl := g6
  have c2 : aU (aU (aU H (64 + 3 * nt) a1) (65 + 3 * nt) a2) (66 + 3 * nt) (Int32.ofInt 1) 1 = Int32.ofNat nt := (aU_ne (by omega)).trans c1
  have p4 := (K2.p w3).trans c2
  simp only [p4, i1]
  have K3 := K2.ww (v := Int32.ofNat (nt + 1)) w3
  exact ⟨(((hHF.w w0).tr (hHF.w w1)).tr hHF.wl).tr (hHF.w w3), fun h => by omega, fun _ => ⟨fun _ => K3, fun h => absurd h ‹_›⟩⟩
theorem sp_104_ef (a0 : Nat) (a1 : Int32) (a2 : Int32) (a3 : Int32) (σ : zSg) (τ1 : zSg) (r1 : Int32) (g1 : p_103 a0 σ r1 τ1) (h2 : r1.toInt = (0 : Int)) :
    p_104 (a0) (a1) (a2) (a3) σ τ1 := by
  rintro b H nt rfl K h1 hn
  obtain ⟨rfl, e1⟩ := g1
  have p1 : q_i (τ1.1 (b + 7) 3) = Int32.ofNat nt := (K.p hp_1).trans h1
  rw [p1, o32 (by omega)] at e1
  exact ⟨hHF.rf, fun _ => rfl, fun h => absurd h2 (e1.mpr (by omega))⟩
noncomputable def qP_104 : zPp := fun as σ o σ' => match as with
  | [a0, a1, a2, a3] => o = .inl none ∧ p_104 (q_r a0) (q_i a1) (q_i a2) (q_i a3) σ σ'
  | _ => True
set_option maxRecDepth 100000 in
theorem sp_104 {sx : zX} (S103 : zEe sx 103 1 qP_103) (S106 : zEe sx 106 2 qP_106) : zEe sx 104 4 qP_104 := by
  refine zfle zJ_104 (sps := [(103, 1, qP_103), (106, 2, qP_106)]) (fun q hq => by
    simp only [List.mem_cons, List.not_mem_nil, or_false] at hq
    rcases hq with rfl | rfl
    · exact S103
    · exact S106) (fun as σ hl => ?_)
  match as, hl with
  | [a0, a1, a2, a3], _ =>
  refine ⟨[], 400, ?_, ?_⟩
  · exact fun q hq => absurd hq List.not_mem_nil
  · refine fun o1 τ1 g1 => ?_
    obtain ⟨r1, rfl, g1⟩ := g1
    refine And.intro (fun h2 => ?_) (fun h2 => ?_)
    · refine fun h3 => ?_
      refine fun h4 => ?_
      refine And.intro (fun h5 => ?_) (fun h5 => ?_)
      · exact ⟨rfl, sp_104_ett (q_r a0) (q_i a1) (q_i a2) (q_i a3) σ τ1 r1 g1 (cm1t h2) (q_inp h3) (q_inp h4) (cm0t h5)⟩
      · refine fun o6 τ6 g6 => ?_
        obtain ⟨rfl, g6⟩ := g6
        exact ⟨rfl, sp_104_etf (q_r a0) (q_i a1) (q_i a2) (q_i a3) σ τ1 r1 τ6 g1 (cm1t h2) (q_inp h3) (q_inp h4) (cm0f h5) g6⟩
    · exact ⟨rfl, sp_104_ef (q_r a0) (q_i a1) (q_i a2) (q_i a3) σ τ1 r1 g1 (cm1f h2)⟩
end
section
/-! the class's readers of a deed, exact; printed with wip/gen/gen_d4.py -/
theorem qsi_11 : q_si (zB + 11) = wFamily := by decide +kernel
theorem zwk_11 : zwk (zB + 11) := by
  have h : (decide ((q_s (zB + 11)).length ≤ 100) && (List.range (q_s (zB + 11)).length).all (fun i => decide (97 ≤ (q_si (zB + 11)).getD i 0 ∧ (q_si (zB + 11)).getD i 0 ≤ 122))) = true := by decide +kernel
  rw [Bool.and_eq_true, decide_eq_true_eq] at h
  refine ⟨h.1, fun i hi => ?_⟩
  have := List.all_eq_true.mp h.2 i (List.mem_range.mpr hi)
  exact of_decide_eq_true this
theorem qsi_12 : q_si (zB + 12) = wThing := by decide +kernel
theorem zwk_12 : zwk (zB + 12) := by
  have h : (decide ((q_s (zB + 12)).length ≤ 100) && (List.range (q_s (zB + 12)).length).all (fun i => decide (97 ≤ (q_si (zB + 12)).getD i 0 ∧ (q_si (zB + 12)).getD i 0 ≤ 122))) = true := by decide +kernel
  rw [Bool.and_eq_true, decide_eq_true_eq] at h
  refine ⟨h.1, fun i hi => ?_⟩
  have := List.all_eq_true.mp h.2 i (List.mem_range.mpr hi)
  exact of_decide_eq_true this
theorem qsi_13 : q_si (zB + 13) = wHours := by decide +kernel
theorem zwk_13 : zwk (zB + 13) := by
  have h : (decide ((q_s (zB + 13)).length ≤ 100) && (List.range (q_s (zB + 13)).length).all (fun i => decide (97 ≤ (q_si (zB + 13)).getD i 0 ∧ (q_si (zB + 13)).getD i 0 ≤ 122))) = true := by decide +kernel
  rw [Bool.and_eq_true, decide_eq_true_eq] at h
  refine ⟨h.1, fun i hi => ?_⟩
  have := List.all_eq_true.mp h.2 i (List.mem_range.mpr hi)
  exact of_decide_eq_true this
theorem qsi_14 : q_si (zB + 14) = wFree := by decide +kernel
theorem zwk_14 : zwk (zB + 14) := by
  have h : (decide ((q_s (zB + 14)).length ≤ 100) && (List.range (q_s (zB + 14)).length).all (fun i => decide (97 ≤ (q_si (zB + 14)).getD i 0 ∧ (q_si (zB + 14)).getD i 0 ≤ 122))) = true := by decide +kernel
  rw [Bool.and_eq_true, decide_eq_true_eq] at h
  refine ⟨h.1, fun i hi => ?_⟩
  have := List.all_eq_true.mp h.2 i (List.mem_range.mpr hi)
  exact of_decide_eq_true this
theorem qsi_15 : q_si (zB + 15) = wWishes := by decide +kernel
theorem zwk_15 : zwk (zB + 15) := by
  have h : (decide ((q_s (zB + 15)).length ≤ 100) && (List.range (q_s (zB + 15)).length).all (fun i => decide (97 ≤ (q_si (zB + 15)).getD i 0 ∧ (q_si (zB + 15)).getD i 0 ≤ 122))) = true := by decide +kernel
  rw [Bool.and_eq_true, decide_eq_true_eq] at h
  refine ⟨h.1, fun i hi => ?_⟩
  have := List.all_eq_true.mp h.2 i (List.mem_range.mpr hi)
  exact of_decide_eq_true this
theorem qsi_16 : q_si (zB + 16) = wCold := by decide +kernel
theorem zwk_16 : zwk (zB + 16) := by
  have h : (decide ((q_s (zB + 16)).length ≤ 100) && (List.range (q_s (zB + 16)).length).all (fun i => decide (97 ≤ (q_si (zB + 16)).getD i 0 ∧ (q_si (zB + 16)).getD i 0 ≤ 122))) = true := by decide +kernel
  rw [Bool.and_eq_true, decide_eq_true_eq] at h
  refine ⟨h.1, fun i hi => ?_⟩
  have := List.all_eq_true.mp h.2 i (List.mem_range.mpr hi)
  exact of_decide_eq_true this
theorem qsi_17 : q_si (zB + 17) = wFine := by decide +kernel
theorem zwk_17 : zwk (zB + 17) := by
  have h : (decide ((q_s (zB + 17)).length ≤ 100) && (List.range (q_s (zB + 17)).length).all (fun i => decide (97 ≤ (q_si (zB + 17)).getD i 0 ∧ (q_si (zB + 17)).getD i 0 ≤ 122))) = true := by decide +kernel
  rw [Bool.and_eq_true, decide_eq_true_eq] at h
  refine ⟨h.1, fun i hi => ?_⟩
  have := List.all_eq_true.mp h.2 i (List.mem_range.mpr hi)
  exact of_decide_eq_true this
theorem qsi_18 : q_si (zB + 18) = wPrice := by decide +kernel
theorem zwk_18 : zwk (zB + 18) := by
  have h : (decide ((q_s (zB + 18)).length ≤ 100) && (List.range (q_s (zB + 18)).length).all (fun i => decide (97 ≤ (q_si (zB + 18)).getD i 0 ∧ (q_si (zB + 18)).getD i 0 ≤ 122))) = true := by decide +kernel
  rw [Bool.and_eq_true, decide_eq_true_eq] at h
  refine ⟨h.1, fun i hi => ?_⟩
  have := List.all_eq_true.mp h.2 i (List.mem_range.mpr hi)
  exact of_decide_eq_true this
theorem qsi_19 : q_si (zB + 19) = wGuests := by decide +kernel
theorem zwk_19 : zwk (zB + 19) := by
  have h : (decide ((q_s (zB + 19)).length ≤ 100) && (List.range (q_s (zB + 19)).length).all (fun i => decide (97 ≤ (q_si (zB + 19)).getD i 0 ∧ (q_si (zB + 19)).getD i 0 ≤ 122))) = true := by decide +kernel
  rw [Bool.and_eq_true, decide_eq_true_eq] at h
  refine ⟨h.1, fun i hi => ?_⟩
  have := List.all_eq_true.mp h.2 i (List.mem_range.mpr hi)
  exact of_decide_eq_true this
theorem qsi_20 : q_si (zB + 20) = wHour := by decide +kernel
theorem zwk_20 : zwk (zB + 20) := by
  have h : (decide ((q_s (zB + 20)).length ≤ 100) && (List.range (q_s (zB + 20)).length).all (fun i => decide (97 ≤ (q_si (zB + 20)).getD i 0 ∧ (q_si (zB + 20)).getD i 0 ≤ 122))) = true := by decide +kernel
  rw [Bool.and_eq_true, decide_eq_true_eq] at h
  refine ⟨h.1, fun i hi => ?_⟩
  have := List.all_eq_true.mp h.2 i (List.mem_range.mpr hi)
  exact of_decide_eq_true this
theorem qsi_21 : q_si (zB + 21) = wPurse := by decide +kernel
theorem zwk_21 : zwk (zB + 21) := by
  have h : (decide ((q_s (zB + 21)).length ≤ 100) && (List.range (q_s (zB + 21)).length).all (fun i => decide (97 ≤ (q_si (zB + 21)).getD i 0 ∧ (q_si (zB + 21)).getD i 0 ≤ 122))) = true := by decide +kernel
  rw [Bool.and_eq_true, decide_eq_true_eq] at h
  refine ⟨h.1, fun i hi => ?_⟩
  have := List.all_eq_true.mp h.2 i (List.mem_range.mpr hi)
  exact of_decide_eq_true this
theorem qsi_22 : q_si (zB + 22) = wDust := by decide +kernel
theorem zwk_22 : zwk (zB + 22) := by
  have h : (decide ((q_s (zB + 22)).length ≤ 100) && (List.range (q_s (zB + 22)).length).all (fun i => decide (97 ≤ (q_si (zB + 22)).getD i 0 ∧ (q_si (zB + 22)).getD i 0 ≤ 122))) = true := by decide +kernel
  rw [Bool.and_eq_true, decide_eq_true_eq] at h
  refine ⟨h.1, fun i hi => ?_⟩
  have := List.all_eq_true.mp h.2 i (List.mem_range.mpr hi)
  exact of_decide_eq_true this
theorem qsi_23 : q_si (zB + 23) = wStove := by decide +kernel
theorem zwk_23 : zwk (zB + 23) := by
  have h : (decide ((q_s (zB + 23)).length ≤ 100) && (List.range (q_s (zB + 23)).length).all (fun i => decide (97 ≤ (q_si (zB + 23)).getD i 0 ∧ (q_si (zB + 23)).getD i 0 ≤ 122))) = true := by decide +kernel
  rw [Bool.and_eq_true, decide_eq_true_eq] at h
  refine ⟨h.1, fun i hi => ?_⟩
  have := List.all_eq_true.mp h.2 i (List.mem_range.mpr hi)
  exact of_decide_eq_true this
theorem qsi_24 : q_si (zB + 24) = wBulk := by decide +kernel
theorem zwk_24 : zwk (zB + 24) := by
  have h : (decide ((q_s (zB + 24)).length ≤ 100) && (List.range (q_s (zB + 24)).length).all (fun i => decide (97 ≤ (q_si (zB + 24)).getD i 0 ∧ (q_si (zB + 24)).getD i 0 ≤ 122))) = true := by decide +kernel
  rw [Bool.and_eq_true, decide_eq_true_eq] at h
  refine ⟨h.1, fun i hi => ?_⟩
  have := List.all_eq_true.mp h.2 i (List.mem_range.mpr hi)
  exact of_decide_eq_true this
theorem qsi_25 : q_si (zB + 25) = wLeft := by decide +kernel
theorem zwk_25 : zwk (zB + 25) := by
  have h : (decide ((q_s (zB + 25)).length ≤ 100) && (List.range (q_s (zB + 25)).length).all (fun i => decide (97 ≤ (q_si (zB + 25)).getD i 0 ∧ (q_si (zB + 25)).getD i 0 ≤ 122))) = true := by decide +kernel
  rw [Bool.and_eq_true, decide_eq_true_eq] at h
  refine ⟨h.1, fun i hi => ?_⟩
  have := List.all_eq_true.mp h.2 i (List.mem_range.mpr hi)
  exact of_decide_eq_true this
theorem qsi_26 : q_si (zB + 26) = wTo := by decide +kernel
theorem zwk_26 : zwk (zB + 26) := by
  have h : (decide ((q_s (zB + 26)).length ≤ 100) && (List.range (q_s (zB + 26)).length).all (fun i => decide (97 ≤ (q_si (zB + 26)).getD i 0 ∧ (q_si (zB + 26)).getD i 0 ≤ 122))) = true := by decide +kernel
  rw [Bool.and_eq_true, decide_eq_true_eq] at h
  refine ⟨h.1, fun i hi => ?_⟩
  have := List.all_eq_true.mp h.2 i (List.mem_range.mpr hi)
  exact of_decide_eq_true this
theorem fm_all : (List.range 24).all (fun f => (List.range 24).all (fun t => decide ((0 ≤ ((Int32.ofNat t - Int32.ofNat f) ^^^ Int32.ofInt 24).toInt → (Int32.ofNat t - Int32.ofNat f) - (Int32.ofNat t - Int32.ofNat f) / Int32.ofInt 24 * Int32.ofInt 24 = Int32.ofNat ((t + 24 - f) % 24)) ∧ (((Int32.ofNat t - Int32.ofNat f) ^^^ Int32.ofInt 24).toInt < 0 → ((Int32.ofNat t - Int32.ofNat f) - (Int32.ofNat t - Int32.ofNat f) / Int32.ofInt 24 * Int32.ofInt 24).toInt = 0 → (Int32.ofNat t - Int32.ofNat f) - (Int32.ofNat t - Int32.ofNat f) / Int32.ofInt 24 * Int32.ofInt 24 = Int32.ofNat ((t + 24 - f) % 24)) ∧ (((Int32.ofNat t - Int32.ofNat f) ^^^ Int32.ofInt 24).toInt < 0 → ((Int32.ofNat t - Int32.ofNat f) - (Int32.ofNat t - Int32.ofNat f) / Int32.ofInt 24 * Int32.ofInt 24).toInt ≠ 0 → (Int32.ofNat t - Int32.ofNat f) - (Int32.ofNat t - Int32.ofNat f) / Int32.ofInt 24 * Int32.ofInt 24 + Int32.ofInt 24 = Int32.ofNat ((t + 24 - f) % 24))))) = true := by decide +kernel
theorem m24_all : (List.range 48).all (fun n => decide (Int32.ofNat n - Int32.ofNat n / Int32.ofInt 24 * Int32.ofInt 24 = Int32.ofNat (n % 24))) = true := by decide +kernel
theorem m24 {n : Nat} (h : n < 48) : Int32.ofNat n - Int32.ofNat n / Int32.ofInt 24 * Int32.ofInt 24 = Int32.ofNat (n % 24) := of_decide_eq_true (List.all_eq_true.mp m24_all n (List.mem_range.mpr h))
noncomputable def p_312 (x y : Int32) (σ : zSg) (r : Int32) (σ' : zSg) : Prop := σ' = σ ∧ (y = Int32.ofInt 24 → ∀ f t, f < 24 → t < 24 → x = Int32.ofNat t - Int32.ofNat f → r = Int32.ofNat ((t + 24 - f) % 24))
theorem sp_312_et (a0 : Int32) (a1 : Int32) (σ : zSg) (h1 : (a0 ^^^ a1).toInt ≥ (0 : Int)) :
    p_312 (a0) (a1) σ (a0 - a0 / a1 * a1) σ := by
  refine ⟨rfl, fun hy f t hf ht hx => ?_⟩
  subst hy
  subst hx
  have h := of_decide_eq_true (List.all_eq_true.mp (List.all_eq_true.mp fm_all f (List.mem_range.mpr hf)) t (List.mem_range.mpr ht))
  exact h.1 h1
theorem sp_312_eft (a0 : Int32) (a1 : Int32) (σ : zSg) (h1 : (a0 ^^^ a1).toInt < (0 : Int)) (h2 : (a0 - a0 / a1 * a1).toInt = (0 : Int)) :
    p_312 (a0) (a1) σ (a0 - a0 / a1 * a1) σ := by
  refine ⟨rfl, fun hy f t hf ht hx => ?_⟩
  subst hy
  subst hx
  have h := of_decide_eq_true (List.all_eq_true.mp (List.all_eq_true.mp fm_all f (List.mem_range.mpr hf)) t (List.mem_range.mpr ht))
  exact h.2.1 h1 h2
theorem sp_312_eff (a0 : Int32) (a1 : Int32) (σ : zSg) (h1 : (a0 ^^^ a1).toInt < (0 : Int)) (h2 : (a0 - a0 / a1 * a1).toInt ≠ (0 : Int)) :
    p_312 (a0) (a1) σ ((a0 - a0 / a1 * a1) + a1) σ := by
  refine ⟨rfl, fun hy f t hf ht hx => ?_⟩
  subst hy
  subst hx
  have h := of_decide_eq_true (List.all_eq_true.mp (List.all_eq_true.mp fm_all f (List.mem_range.mpr hf)) t (List.mem_range.mpr ht))
  exact h.2.2 h1 h2
noncomputable def qP_312 : zPp := fun as σ o σ' => match as with
  | [a0, a1] => ∃ r, o = .inl (some (.int r)) ∧ p_312 (q_i a0) (q_i a1) σ r σ'
  | _ => True
set_option maxRecDepth 100000 in
theorem sp_312 {sx : zX}  : zEe sx 312 2 qP_312 := by
  refine zfle zJ_312 (sps := []) (fun q hq => absurd hq List.not_mem_nil) (fun as σ hl => ?_)
  match as, hl with
  | [a0, a1], _ =>
  refine ⟨[], 400, ?_, ?_⟩
  · exact fun q hq => absurd hq List.not_mem_nil
  · refine And.intro (fun h1 => ?_) (fun h1 => ?_)
    · exact ⟨_, rfl, sp_312_et (q_i a0) (q_i a1) σ (cm3t h1)⟩
    · refine And.intro (fun h2 => ?_) (fun h2 => ?_)
      · exact ⟨_, rfl, sp_312_eft (q_i a0) (q_i a1) σ (cm3f h1) (cm0t h2)⟩
      · exact ⟨_, rfl, sp_312_eff (q_i a0) (q_i a1) σ (cm3f h1) (cm0f h2)⟩
theorem dH_af {b : Nat → Int} {E A : Nat} : dH b E A = match tn b E 0 23 A with
  | none => .inr A
  | some (A1, f) => (match dAf b E wTo 0 23 A1 with
    | .inr F => .inr F
    | .inl (A3, t) => .inl (A3, hB f t)) := by
  unfold dH
  cases tn b E 0 23 A with
  | none => rfl
  | some q =>
    obtain ⟨A1, f⟩ := q
    dsimp only
    unfold dAf
    cases tw b E wTo A1 with
    | none => rfl
    | some A2 =>
      dsimp only
      cases tn b E 0 23 A2 with
      | none => rfl
      | some q => rfl
abbrev cOB (σ' : zSg) (b : Nat → Int) (E nf nt : Nat) (H : Nat → Int32) (x : Int32) (R : (Nat × Int32) ⊕ Nat) : Prop := match R with
  | .inl (A1, q) => x = q ∧ cR σ' b A1 E nf nt H
  | .inr F => cQ σ' b E F
abbrev cOL (σ' : zSg) (b : Nat → Int) (E nf nt : Nat) (H : Nat → Int32) (R : (Nat × dOp) ⊕ Nat) : Prop := match R with
  | .inl (A1, o) => cR σ' b A1 E (nf + dF1 o) (nt + dT1 o) (dApp nf nt H o)
  | .inr F => cQ σ' b E F
theorem zJ_6 : zJ3 6 z_m6 z_c6 z_h6 := ⟨rfl, rfl, rfl⟩
noncomputable def p_6 (a : Nat) (σ : zSg) (r : Int32) (σ' : zSg) : Prop := a = 1 → ∀ b E, (∀ A nf nt H, cR σ b A E nf nt H → cDF σ σ' ∧ cOB σ' b E nf nt H r (dH b E A)) ∧ (∀ F, cQ σ b E F → cDF σ σ' ∧ cQ σ' b E F)
noncomputable def i_6 (a : Nat) (σ : zSg) (l1 l3 l4 l5 : Int32) (τ : zSg) : Prop := a = 1 → ∀ b E, (∀ A nf nt H, cR σ b A E nf nt H → cDF σ τ ∧ ((∃ f t i A1, f < 24 ∧ t < 24 ∧ i ≤ (t + 24 - f) % 24 + 1 ∧ l1 = Int32.ofNat f ∧ l3 = Int32.ofNat ((t + 24 - f) % 24 + 1) ∧ l5 = Int32.ofNat i ∧ l4 = hBn f i ∧ dH b E A = .inl (A1, hB f t) ∧ cR τ b A1 E nf nt H) ∨ ∃ F, dH b E A = .inr F ∧ cQ τ b E F)) ∧ (∀ F, cQ σ b E F → cDF σ τ ∧ cQ τ b E F)
theorem sp_6_e (a0 : Nat) (σ : zSg) (τ1 : zSg) (r1 : Int32) (τ2 : zSg) (τ3 : zSg) (r3 : Int32) (τ4 : zSg) (r4 : Int32) (g1 : p_96 a0 (Int32.ofInt (0)) (Int32.ofInt (23)) σ r1 τ1) (g2 : p_92 a0 (zB + 26) τ1 τ2) (g3 : p_96 a0 (Int32.ofInt (0)) (Int32.ofInt (23)) τ2 r3 τ3) (g4 : p_312 (r3 - r1) (Int32.ofInt (24)) τ3 r4 τ4) :
    i_6 a0 σ r1 (r4 + (Int32.ofInt (1))) (Int32.ofInt (0)) (Int32.ofInt (0)) τ4 := by
  rintro rfl b E
  obtain ⟨rfl, e4⟩ := g4
  refine ⟨fun A nf nt H K => ?_, fun F K => ?_⟩
  · obtain ⟨f1, u1, v1⟩ := K.nb g1 (by decide)
    rw [show (Int32.ofInt 0).toInt = 0 from rfl, show (Int32.ofInt 23).toInt = 23 from rfl] at u1 v1
    rw [dH_af]
    cases h1 : tn b E 0 23 A with
    | none =>
      obtain ⟨f2, K2⟩ := (v1 h1).af g2 g3 zwk_26 (by decide)
      exact ⟨f1.tr f2, Or.inr ⟨A, rfl, K2⟩⟩
    | some q =>
      obtain ⟨A1, f⟩ := q
      obtain ⟨e1, K1⟩ := u1 A1 f h1
      obtain ⟨f2, K2⟩ := K1.af g2 g3 zwk_26 qsi_26 (by decide)
      rw [show (Int32.ofInt 0).toInt = 0 from rfl, show (Int32.ofInt 23).toInt = 23 from rfl] at K2
      dsimp only
      cases h2 : dAf b E wTo 0 23 A1 with
      | inr F => rw [h2] at K2; exact ⟨f1.tr f2, Or.inr ⟨F, rfl, K2⟩⟩
      | inl q =>
        obtain ⟨A3, t⟩ := q
        rw [h2] at K2
        obtain ⟨e3, K3⟩ := K2
        have r1 := tn_rg h1
        have r2 := dAf_rg h2
        have e5 := e4 rfl f t (by omega) (by omega) (by rw [e3, e1])
        exact ⟨f1.tr f2, Or.inl ⟨f, t, 0, A3, by omega, by omega, by omega, e1, by rw [e5]; exact o32i (by omega), rfl, rfl, rfl, K3⟩⟩
  · obtain ⟨f1, K1⟩ := K.nb g1 (by decide)
    obtain ⟨f2, K2⟩ := K1.af g2 g3 zwk_26 (by decide)
    exact ⟨f1.tr f2, K2⟩
theorem sp_6_c25_t (a0 : Nat) (σ : zSg) (l1 : Int32) (l3 : Int32) (l4 : Int32) (l5 : Int32) (τ : zSg) (hI : i_6 a0 σ l1 l3 l4 l5 τ) (h5 : l5.toInt ≥ l3.toInt) :
    p_6 (a0) σ l4 τ := by
  rintro rfl b E
  obtain ⟨hR, hQ⟩ := hI rfl b E
  refine ⟨fun A nf nt H K => ?_, hQ⟩
  obtain ⟨f1, ⟨f, t, i, A1, hf, ht, hi, rfl, rfl, rfl, rfl, hd, K1⟩ | ⟨F, hd, K1⟩⟩ := hR A nf nt H K
  · rw [o32 (by omega), o32 (by omega)] at h5
    rw [hd]
    refine ⟨f1, ?_, K1⟩
    rw [show i = (t + 24 - f) % 24 + 1 by omega]
    rfl
  · rw [hd]
    exact ⟨f1, K1⟩
theorem sp_6_c25_f (a0 : Nat) (σ : zSg) (l1 : Int32) (l3 : Int32) (l4 : Int32) (l5 : Int32) (τ : zSg) (hI : i_6 a0 σ l1 l3 l4 l5 τ) (h5 : l5.toInt < l3.toInt) :
    i_6 a0 σ l1 l3 (l4 ||| ((Int32.ofInt (1)) <<< (((l1 + l5) - (l1 + l5) / (Int32.ofInt (24)) * (Int32.ofInt (24))) &&& 31))) (l5 + Int32.ofInt (1)) τ := by
  rintro rfl b E
  obtain ⟨hR, hQ⟩ := hI rfl b E
  refine ⟨fun A nf nt H K => ?_, hQ⟩
  obtain ⟨f1, ⟨f, t, i, A1, hf, ht, hi, rfl, rfl, rfl, rfl, hd, K1⟩ | ⟨F, hd, K1⟩⟩ := hR A nf nt H K
  · rw [o32 (by omega), o32 (by omega)] at h5
    refine ⟨f1, Or.inl ⟨f, t, i + 1, A1, hf, ht, by omega, rfl, rfl, o32i (by omega), ?_, hd, K1⟩⟩
    rw [o32a (by omega), m24 (by omega), hBn_s]
  · exact ⟨f1, Or.inr ⟨F, hd, K1⟩⟩
noncomputable def qP_6 : zPp := fun as σ o σ' => match as with
  | [a0] => ∃ r, o = .inl (some (.int r)) ∧ p_6 (q_r a0) σ r σ'
  | _ => True
set_option maxRecDepth 100000 in
theorem sp_6 {sx : zX} (S96 : zEe sx 96 3 qP_96) (S92 : zEe sx 92 2 qP_92) (S312 : zEe sx 312 2 qP_312) : zEe sx 6 1 qP_6 := by
  refine zfle zJ_6 (sps := [(96, 3, qP_96), (92, 2, qP_92), (312, 2, qP_312)]) (fun q hq => by
    simp only [List.mem_cons, List.not_mem_nil, or_false] at hq
    rcases hq with rfl | rfl | rfl
    · exact S96
    · exact S92
    · exact S312) (fun as σ hl => ?_)
  match as, hl with
  | [a0], _ =>
  refine ⟨[(25, fun lo st τ => st = [] ∧ i_6 (q_r a0) σ (q_i (lo 1)) (q_i (lo 3)) (q_i (lo 4)) (q_i (lo 5)) τ)], 400, ?_, ?_⟩
  · intro q hq
    simp only [List.mem_cons, List.not_mem_nil, or_false] at hq
    rcases hq with rfl
    · rintro lo st τ ⟨rfl, hI⟩
      refine ⟨400, ?_⟩
      refine And.intro (fun h5 => ?_) (fun h5 => ?_)
      · exact ⟨_, rfl, sp_6_c25_t (q_r a0) σ (q_i (lo 1)) (q_i (lo 3)) (q_i (lo 4)) (q_i (lo 5)) τ hI (cm3t h5)⟩
      · exact ⟨rfl, sp_6_c25_f (q_r a0) σ (q_i (lo 1)) (q_i (lo 3)) (q_i (lo 4)) (q_i (lo 5)) τ hI (cm3f h5)⟩
  · refine fun o1 τ1 g1 => ?_
    obtain ⟨r1, rfl, g1⟩ := g1
    refine fun o2 τ2 g2 => ?_
    obtain ⟨rfl, g2⟩ := g2
    refine fun o3 τ3 g3 => ?_
    obtain ⟨r3, rfl, g3⟩ := g3
    refine fun o4 τ4 g4 => ?_
    obtain ⟨r4, rfl, g4⟩ := g4
    exact ⟨rfl, sp_6_e (q_r a0) σ τ1 r1 τ2 τ3 r3 τ4 r4 g1 g2 g3 g4⟩
theorem zJ_5 : zJ3 5 z_m5 z_c5 z_h5 := ⟨rfl, rfl, rfl⟩
noncomputable def p_5 (h a : Nat) (σ : zSg) (r : Int32) (σ' : zSg) : Prop := h = 21 → a = 1 → ∀ b E, (∀ A nf nt H, cR σ b A E nf nt H → cDF σ σ' ∧ ((∃ A1 v, tn b E 0 ((nf : Int) - 1) A = some (A1, v) ∧ r = Int32.ofNat v ∧ cR σ' b A1 E nf nt H) ∨ (tn b E 0 ((nf : Int) - 1) A = none ∧ cQ σ' b E A))) ∧ (∀ F, cQ σ b E F → cDF σ σ' ∧ cQ σ' b E F)
theorem sp_5_e (a0 : Nat) (a1 : Nat) (σ : zSg) (τ1 : zSg) (r1 : Int32) (g1 : p_96 a1 (Int32.ofInt (0)) ((q_i (σ.1 (q_r (σ.1 a0 1)) 4)) - (Int32.ofInt (1))) σ r1 τ1) :
    p_5 (a0) (a1) σ r1 τ1 := by
  rintro rfl rfl b E
  refine ⟨fun A nf nt H K => ?_, fun F K => K.nb g1 (by decide)⟩
  obtain ⟨f1, u1, v1⟩ := K.nb g1 (by decide)
  have d1 := K.2.2.2.2.1.k hk_1
  have p0 := K.2.2.2.2.1.p hp_0
  have hc := K.2.2.2.2.2
  have e2 : (q_i (σ.1 (q_r (σ.1 21 1)) 4) - Int32.ofInt 1).toInt = (nf : Int) - 1 := by
    have d1' : q_r (σ.1 21 1) = 23 := d1
    have p0' : q_i (σ.1 23 4) = H 0 := p0
    rw [d1', p0', hc.1]
    have := hc.2.1
    exact zI_sub (o32 (by omega)) (zI_c (by omega) (by omega)) (by omega) (by omega)
  rw [e2, show (Int32.ofInt 0).toInt = 0 from rfl] at u1 v1
  refine ⟨f1, ?_⟩
  cases h1 : tn b E 0 ((nf : Int) - 1) A with
  | none => exact Or.inr ⟨rfl, v1 h1⟩
  | some q =>
    obtain ⟨e1, K1⟩ := u1 q.1 q.2 h1
    exact Or.inl ⟨q.1, q.2, rfl, e1, K1⟩
noncomputable def qP_5 : zPp := fun as σ o σ' => match as with
  | [a0, a1] => ∃ r, o = .inl (some (.int r)) ∧ p_5 (q_r a0) (q_r a1) σ r σ'
  | _ => True
set_option maxRecDepth 100000 in
theorem sp_5 {sx : zX} (S96 : zEe sx 96 3 qP_96) : zEe sx 5 2 qP_5 := by
  refine zfle zJ_5 (sps := [(96, 3, qP_96)]) (fun q hq => by
    simp only [List.mem_cons, List.not_mem_nil, or_false] at hq
    rcases hq with rfl
    · exact S96) (fun as σ hl => ?_)
  match as, hl with
  | [a0, a1], _ =>
  refine ⟨[], 400, ?_, ?_⟩
  · exact fun q hq => absurd hq List.not_mem_nil
  · refine fun o1 τ1 g1 => ?_
    obtain ⟨r1, rfl, g1⟩ := g1
    exact ⟨_, rfl, sp_5_e (q_r a0) (q_r a1) σ τ1 r1 g1⟩
theorem dC.cg {nf nt : Nat} {H H' : Nat → Int32} (h : dC nf nt H) (h0 : H' 0 = H 0) (h1 : H' 1 = H 1) (hz : ∀ t, t < 8 → H' (66 + 3 * t) = H (66 + 3 * t)) : dC nf nt H' := ⟨h0.trans h.1, h.2.1, h1.trans h.2.2.1, h.2.2.2.1, fun t h2 h3 => (hz t h3).trans (h.2.2.2.2 t h2 h3)⟩
theorem dC.dG {nf nt : Nat} {H : Nat → Int32} {q f : Int32} (h : dC nf nt H) : dC nf nt (dG H q f) := h.cg (dG_ne (by omega)) (dG_ne (by omega)) (fun t _ => dG_ne (by omega))
theorem dC.fd {nf nt : Nat} {H : Nat → Int32} {p d s : Int32} (h : dC nf nt H) (hn : nf < 6) : dC (nf + 1) nt (dFd H nf p d s) := by
  refine ⟨aU_at, by omega, ?_, h.2.2.2.1, fun t h2 h3 => ?_⟩
  · unfold dFd
    rw [aU_ne (by omega), aU_ne (by omega), aU_ne (by omega), aU_ne (by omega), aU_ne (by omega)]
    exact h.2.2.1
  · unfold dFd
    rw [aU_ne (by omega), aU_ne (by omega), aU_ne (by omega), aU_ne (by omega), aU_ne (by omega)]
    exact h.2.2.2.2 t h2 h3
theorem dC.br {nf nt : Nat} {H : Nat → Int32} {f v l : Int32} (h : dC nf nt H) (hn : nt < 8) : dC nf (nt + 1) (dBr H nt f v l) := by
  refine ⟨?_, h.2.1, aU_at, by omega, fun t h2 h3 => ?_⟩
  · unfold dBr
    rw [aU_ne (by omega), aU_ne (by omega), aU_ne (by omega), aU_ne (by omega)]
    exact h.1
  · unfold dBr
    rw [aU_ne (by omega), aU_ne (by omega), aU_ne (by omega), aU_ne (by omega)]
    exact h.2.2.2.2 t (by omega) h3
theorem dC.wi {nf nt f : Nat} {H : Nat → Int32} {v : Int32} (h : dC nf nt H) (hf : f < 6) : dC nf nt (aU H (43 + 4 * f) v) := h.cg (aU_ne (by omega)) (aU_ne (by omega)) (fun t _ => aU_ne (by omega))
theorem dC.st {nf nt k : Nat} {H : Nat → Int32} {v : Int32} (h : dC nf nt H) (hk : 4 ≤ k ∧ k ≤ 13) : dC nf nt (aU H k v) := h.cg (aU_ne (by omega)) (aU_ne (by omega)) (fun t _ => aU_ne (by omega))
section CQH
variable {σ τ : zSg} {E F : Nat} {b : Nat → Int}
theorem cQ.fd {p d s x : Int32} (K : cQ σ b E F) (G : p_12 23 p d s σ x τ) : cDF σ τ ∧ cQ τ b E F := by
  have f : hHF 21 σ τ := by
    obtain ⟨-, -, -, -, -, H, nf, nt, h6, h7⟩ := K
    exact (G 21 H nf rfl h6 h7.1 h7.2.1).1
  refine ⟨cDF.of f, K.hs f (fun H nf nt h6 h7 => ?_)⟩
  obtain ⟨-, g1, g2⟩ := G 21 H nf rfl h6 h7.1 h7.2.1
  rcases Nat.lt_or_ge nf 6 with h | h
  · exact ⟨_, _, nt, (g2 h).2, h7.fd h⟩
  · rw [g1 (by have := h7.2.1; omega)]
    exact ⟨H, nf, nt, h6, h7⟩
theorem cQ.br {p d s : Int32} (K : cQ σ b E F) (G : p_104 28 p d s σ τ) : cDF σ τ ∧ cQ τ b E F := by
  have f : hHF 21 σ τ := by
    obtain ⟨-, -, -, -, -, H, nf, nt, h6, h7⟩ := K
    exact (G 21 H nt rfl h6 h7.2.2.1 h7.2.2.2.1).1
  refine ⟨cDF.of f, K.hs f (fun H nf nt h6 h7 => ?_)⟩
  obtain ⟨-, g1, g2⟩ := G 21 H nt rfl h6 h7.2.2.1 h7.2.2.2.1
  rcases Nat.lt_or_ge nt 8 with h | h
  · by_cases hl : s.toInt = 0
    · exact ⟨_, nf, _, (g2 h).2 hl, h7.br h⟩
    · exact ⟨_, nf, _, (g2 h).1 hl, h7.br h⟩
  · rw [g1 (by have := h7.2.2.2.1; omega)]
    exact ⟨H, nf, nt, h6, h7⟩
theorem cQ.gh {q f : Int32} (K : cQ σ b E F) (G : p_29 21 q f σ τ) : cDF σ τ ∧ cQ τ b E F := by
  have f : hHF 21 σ τ := by
    obtain ⟨-, -, -, -, -, H, nf, nt, h6, h7⟩ := K
    exact (G H h6).1
  exact ⟨cDF.of f, K.hs f (fun H nf nt h6 h7 => ⟨_, nf, nt, (G H h6).2, h7.dG⟩)⟩
theorem cQ.aw {q f : Int32} (K : cQ σ b E F) (G : p_13 23 f q σ τ) : cDF σ τ ∧ cQ τ b E F := by
  have f : hHF 21 σ τ := by
    obtain ⟨-, -, -, -, -, H, nf, nt, h6, h7⟩ := K
    exact (G 21 H nf rfl h6 h7.1 h7.2.1).1
  refine ⟨cDF.of f, K.hs f (fun H nf nt h6 h7 => ?_)⟩
  obtain ⟨-, -, H', g1, g2⟩ := G 21 H nf rfl h6 h7.1 h7.2.1
  exact ⟨H', nf, nt, g1, h7.cg (g2 0 (by omega)) (g2 1 (by omega)) (fun t _ => g2 _ (by omega))⟩
theorem cQ.k (K : cQ σ b E F) : q_r (σ.1 21 1) = 23 ∧ q_r (σ.1 21 2) = 28 := by
  obtain ⟨-, -, -, -, -, H, nf, nt, h6, h7⟩ := K
  exact ⟨h6.k hk_1, h6.k hk_2⟩
theorem cR.k {A nf nt : Nat} {H : Nat → Int32} (K : cR σ b A E nf nt H) : q_r (σ.1 21 1) = 23 ∧ q_r (σ.1 21 2) = 28 := ⟨K.2.2.2.2.1.k hk_1, K.2.2.2.2.1.k hk_2⟩
theorem cR.gh {A nf nt : Nat} {H : Nat → Int32} {q f : Int32} (K : cR σ b A E nf nt H) (G : p_29 21 q f σ τ) : cDF σ τ ∧ cR τ b A E nf nt (dG H q f) := ⟨cDF.of (G H K.2.2.2.2.1).1, K.hs (G H K.2.2.2.2.1).1 (G H K.2.2.2.2.1).2 K.2.2.2.2.2.dG⟩
theorem cR.aw {A nf nt f : Nat} {H : Nat → Int32} {q : Int32} (K : cR σ b A E nf nt H) (G : p_13 23 (Int32.ofNat f) q σ τ) (hf : f < nf) : cDF σ τ ∧ cR τ b A E nf nt (aU H (43 + 4 * f) (H (43 + 4 * f) ||| q)) := by
  have hc := K.2.2.2.2.2
  obtain ⟨g1, g2, -⟩ := G 21 H nf rfl K.2.2.2.2.1 hc.1 hc.2.1
  exact ⟨cDF.of g1, K.hs g1 (g2 f rfl hf) (hc.wi (by have := hc.2.1; omega))⟩
end CQH
end
section
/-! the class's lines of a deed, exact; printed with wip/gen/gen_d5.py -/
theorem cR.cg {σ : zSg} {b : Nat → Int} {A E nf nt : Nat} {H H' : Nat → Int32} (K : cR σ b A E nf nt H) (h : ∀ k, k < 388 → H k = H' k) : cR σ b A E nf nt H' := ⟨K.1, K.2.1, K.2.2.1, K.2.2.2.1, K.2.2.2.2.1.cg h, K.2.2.2.2.2.cg (h 0 (by omega)).symm (h 1 (by omega)).symm (fun t _ => (h _ (by omega)).symm)⟩
theorem zJ_4 : zJ3 4 z_m4 z_c4 z_h4 := ⟨rfl, rfl, rfl⟩
noncomputable def p_4 (h a : Nat) (σ σ' : zSg) : Prop := h = 21 → a = 1 → ∀ b E, (∀ A nf nt H, cR σ b A E nf nt H → nt < 8 → cDF σ σ' ∧ cOL σ' b E nf nt H (dTh b E nf A)) ∧ (∀ F, cQ σ b E F → cDF σ σ' ∧ cQ σ' b E F)
theorem sp_4_e (a0 : Nat) (a1 : Nat) (σ : zSg) (τ1 : zSg) (r1 : Int32) (τ2 : zSg) (τ3 : zSg) (r3 : Int32) (τ4 : zSg) (r4 : Int32) (τ5 : zSg) (g1 : p_5 a0 a1 σ r1 τ1) (g2 : p_92 a1 (zB + 24) τ1 τ2) (g3 : p_96 a1 (Int32.ofInt (1)) (Int32.ofInt (9)) τ2 r3 τ3) (g4 : p_91 a1 (zB + 25) τ3 r4 τ4) (g5 : p_104 (q_r (τ3.1 a0 2)) r1 r3 r4 τ4 τ5) :
    p_4 (a0) (a1) σ τ5 := by
  rintro rfl rfl b E
  obtain ⟨gR, gQ⟩ := g1 rfl rfl b E
  refine ⟨fun A nf nt H K hn => ?_, fun F K => ?_⟩
  · unfold dTh
    obtain ⟨f1, ⟨A1, f, h1, e1, K1⟩ | ⟨h1, K1⟩⟩ := gR A nf nt H K
    · rw [h1]
      dsimp only
      obtain ⟨f2, K2⟩ := K1.af g2 g3 zwk_24 qsi_24 (by decide)
      rw [show (Int32.ofInt 1).toInt = 1 from rfl, show (Int32.ofInt 9).toInt = 9 from rfl] at K2
      cases h2 : dAf b E wBulk 1 9 A1 with
      | inr F =>
        rw [h2] at K2
        obtain ⟨-, rfl⟩ := K2.tk g4 zwk_25
        rw [K2.k.2] at g5
        obtain ⟨f3, K3⟩ := K2.br g5
        exact ⟨(f1.tr f2).tr f3, K3⟩
      | inl q =>
        obtain ⟨A2, v⟩ := q
        rw [h2] at K2
        obtain ⟨e2, K2⟩ := K2
        dsimp only
        rw [K2.k.2] at g5
        obtain ⟨f3, u3, v3⟩ := K2.tk g4 zwk_25 qsi_25
        by_cases hx : r4.toInt = 0
        · obtain ⟨h3, rfl⟩ := v3 hx
          rw [h3]
          have hc := K2.2.2.2.2.2
          obtain ⟨g1, -, g2⟩ := g5 21 H nt rfl K2.2.2.2.2.1 hc.2.2.1 hc.2.2.2.1
          have g3 := (g2 hn).2 hx
          rw [hc.2.2.2.2 nt (by omega) hn, e1, e2] at g3
          have K4 := K2.hs g1 g3 (hc.br hn)
          exact ⟨(f1.tr f2).tr (cDF.of g1), K4⟩
        · obtain ⟨A3, h3, K3⟩ := u3 hx
          rw [h3]
          have hc := K3.2.2.2.2.2
          obtain ⟨g1, -, g2⟩ := g5 21 H nt rfl K3.2.2.2.2.1 hc.2.2.1 hc.2.2.2.1
          have g3 := (g2 hn).1 hx
          rw [e1, e2] at g3
          have K4 := K3.hs g1 g3 (hc.br hn)
          exact ⟨((f1.tr f2).tr f3).tr (cDF.of g1), K4⟩
    · rw [h1]
      dsimp only
      obtain ⟨f2, K2⟩ := K1.af g2 g3 zwk_24 (by decide)
      obtain ⟨-, rfl⟩ := K2.tk g4 zwk_25
      rw [K2.k.2] at g5
      obtain ⟨f3, K3⟩ := K2.br g5
      exact ⟨(f1.tr f2).tr f3, K3⟩
  · obtain ⟨f1, K1⟩ := gQ F K
    obtain ⟨f2, K2⟩ := K1.af g2 g3 zwk_24 (by decide)
    obtain ⟨-, rfl⟩ := K2.tk g4 zwk_25
    rw [K2.k.2] at g5
    obtain ⟨f3, K3⟩ := K2.br g5
    exact ⟨(f1.tr f2).tr f3, K3⟩
noncomputable def qP_4 : zPp := fun as σ o σ' => match as with
  | [a0, a1] => o = .inl none ∧ p_4 (q_r a0) (q_r a1) σ σ'
  | _ => True
set_option maxRecDepth 100000 in
theorem sp_4 {sx : zX} (S5 : zEe sx 5 2 qP_5) (S92 : zEe sx 92 2 qP_92) (S96 : zEe sx 96 3 qP_96) (S91 : zEe sx 91 2 qP_91) (S104 : zEe sx 104 4 qP_104) : zEe sx 4 2 qP_4 := by
  refine zfle zJ_4 (sps := [(5, 2, qP_5), (92, 2, qP_92), (96, 3, qP_96), (91, 2, qP_91), (104, 4, qP_104)]) (fun q hq => by
    simp only [List.mem_cons, List.not_mem_nil, or_false] at hq
    rcases hq with rfl | rfl | rfl | rfl | rfl
    · exact S5
    · exact S92
    · exact S96
    · exact S91
    · exact S104) (fun as σ hl => ?_)
  match as, hl with
  | [a0, a1], _ =>
  refine ⟨[], 400, ?_, ?_⟩
  · exact fun q hq => absurd hq List.not_mem_nil
  · refine fun o1 τ1 g1 => ?_
    obtain ⟨r1, rfl, g1⟩ := g1
    refine fun o2 τ2 g2 => ?_
    obtain ⟨rfl, g2⟩ := g2
    refine fun o3 τ3 g3 => ?_
    obtain ⟨r3, rfl, g3⟩ := g3
    refine fun o4 τ4 g4 => ?_
    obtain ⟨r4, rfl, g4⟩ := g4
    refine fun o5 τ5 g5 => ?_
    obtain ⟨rfl, g5⟩ := g5
    exact ⟨rfl, sp_4_e (q_r a0) (q_r a1) σ τ1 r1 τ2 τ3 r3 τ4 r4 τ5 g1 g2 g3 g4 g5⟩
noncomputable def dP3 (b : Nat → Int) (E A : Nat) : (Nat × Nat × Nat × Nat) ⊕ Nat := match dAf b E wPurse 0 999 A with
  | .inr F => .inr F
  | .inl (A1, p) => (match dAf b E wDust 0 9 A1 with
    | .inr F => .inr F
    | .inl (A2, d) => (match dAf b E wStove 0 9 A2 with
      | .inr F => .inr F
      | .inl (A3, s) => .inl (A3, p, d, s)))
theorem dFam_3 {b : Nat → Int} {E A : Nat} : dFam b E A = match dP3 b E A with
  | .inr F => .inr F
  | .inl (A3, p, d, s) => (match dOh b E wHours A3 with
    | .inr F => .inr F
    | .inl (A4, q) => (match dOh b E wWishes A4 with
      | .inr F => .inr F
      | .inl (A5, w) => .inl (A5, (0, (p, d, s), q, w)))) := by
  unfold dFam dP3
  cases dAf b E wPurse 0 999 A with
  | inr F => rfl
  | inl q =>
    dsimp only
    cases dAf b E wDust 0 9 q.1 with
    | inr F => rfl
    | inl r =>
      dsimp only
      cases dAf b E wStove 0 9 r.1 with
      | inr F => rfl
      | inl s => rfl
theorem dG_0 {H : Nat → Int32} {f : Int32} (k : Nat) : H k = dG H (Int32.ofInt 0) f k := by
  unfold dG
  rw [if_neg]
  rintro ⟨h1, h2, h3⟩
  have : (List.range 24).all (fun n => !btb (Int32.ofInt 0) (Int32.ofNat n)) = true := by decide +kernel
  have h4 := List.all_eq_true.mp this (k - 16) (List.mem_range.mpr (by omega))
  rw [h3] at h4
  cases h4
theorem fam_eq {H : Nat → Int32} {nf nt p d s : Nat} {q w : Int32} (hn : nf < 6) (k : Nat) : aU (dG (dFd H nf (Int32.ofNat p) (Int32.ofNat d) (Int32.ofNat s)) q (Int32.ofNat nf)) (43 + 4 * nf) (dG (dFd H nf (Int32.ofNat p) (Int32.ofNat d) (Int32.ofNat s)) q (Int32.ofNat nf) (43 + 4 * nf) ||| w) k = dApp nf nt H (0, (p, d, s), q, w) k := by
  show _ = aU (dG (aU (aU (aU (aU H (40 + 4 * nf) (Int32.ofNat p)) (41 + 4 * nf) (Int32.ofNat d)) (42 + 4 * nf) (Int32.ofNat s)) (43 + 4 * nf) w) q (Int32.ofNat nf)) 0 (Int32.ofNat (nf + 1)) k
  by_cases h : k = 43 + 4 * nf
  · rw [h, aU_at, aU_ne (by omega), dG_ne (by omega), dG_ne (by omega), aU_at]
    unfold dFd
    rw [aU_ne (by omega), aU_at]
    exact Int32.zero_or
  · rw [aU_ne h]
    by_cases h0 : k = 0
    · rw [h0, aU_at, dG_ne (by omega)]
      exact aU_at
    · rw [aU_ne h0]
      unfold dG
      by_cases hc : 16 ≤ k ∧ k < 40 ∧ btb q (Int32.ofNat (k - 16)) = true
      · rw [if_pos hc, if_pos hc]
      · rw [if_neg hc, if_neg hc]
        unfold dFd
        rw [aU_ne h0, aU_ne h, aU_ne h]
theorem wi_0 {H : Nat → Int32} {i : Nat} (k : Nat) : H k = aU H i (H i ||| Int32.ofInt 0) k := by
  by_cases h : k = i
  · rw [h, aU_at]
    exact Int32.or_zero.symm
  · rw [aU_ne h]
section FAM
variable {σ S1 S2 S3 S4 S5 S6 S7 : zSg} {b : Nat → Int} {E : Nat} {X1 X2 X3 X4 : Int32}
theorem fam7 {A nf nt : Nat} {H : Nat → Int32} (K : cR σ b A E nf nt H) (hn : nf < 6) (C1 : p_92 1 (zB + 21) σ S1) (C2 : p_96 1 (Int32.ofInt 0) (Int32.ofInt 999) S1 X1 S2) (C3 : p_92 1 (zB + 22) S2 S3) (C4 : p_96 1 (Int32.ofInt 0) (Int32.ofInt 9) S3 X2 S4) (C5 : p_92 1 (zB + 23) S4 S5) (C6 : p_96 1 (Int32.ofInt 0) (Int32.ofInt 9) S5 X3 S6) (C7 : p_12 (q_r (S6.1 21 1)) X1 X2 X3 S6 X4 S7) : cDF σ S7 ∧ (match dP3 b E A with
    | .inl (A3, p, d, s) => X4 = Int32.ofNat nf ∧ cR S7 b A3 E (nf + 1) nt (dFd H nf (Int32.ofNat p) (Int32.ofNat d) (Int32.ofNat s))
    | .inr F => cQ S7 b E F) := by
  obtain ⟨f1, K1⟩ := K.af C1 C2 zwk_21 qsi_21 (by decide)
  rw [show (Int32.ofInt 0).toInt = 0 from rfl, show (Int32.ofInt 999).toInt = 999 from rfl] at K1
  unfold dP3
  cases h1 : dAf b E wPurse 0 999 A with
  | inr F =>
    rw [h1] at K1
    obtain ⟨f2, K2⟩ := K1.af C3 C4 zwk_22 (by decide)
    obtain ⟨f3, K3⟩ := K2.af C5 C6 zwk_23 (by decide)
    rw [K3.k.1] at C7
    obtain ⟨f4, K4⟩ := K3.fd C7
    exact ⟨((f1.tr f2).tr f3).tr f4, K4⟩
  | inl q =>
  obtain ⟨A1, p⟩ := q
  rw [h1] at K1
  obtain ⟨e1, K1⟩ := K1
  dsimp only
  obtain ⟨f2, K2⟩ := K1.af C3 C4 zwk_22 qsi_22 (by decide)
  rw [show (Int32.ofInt 0).toInt = 0 from rfl, show (Int32.ofInt 9).toInt = 9 from rfl] at K2
  cases h2 : dAf b E wDust 0 9 A1 with
  | inr F =>
    rw [h2] at K2
    obtain ⟨f3, K3⟩ := K2.af C5 C6 zwk_23 (by decide)
    rw [K3.k.1] at C7
    obtain ⟨f4, K4⟩ := K3.fd C7
    exact ⟨((f1.tr f2).tr f3).tr f4, K4⟩
  | inl q =>
  obtain ⟨A2, d⟩ := q
  rw [h2] at K2
  obtain ⟨e2, K2⟩ := K2
  dsimp only
  obtain ⟨f3, K3⟩ := K2.af C5 C6 zwk_23 qsi_23 (by decide)
  rw [show (Int32.ofInt 0).toInt = 0 from rfl, show (Int32.ofInt 9).toInt = 9 from rfl] at K3
  cases h3 : dAf b E wStove 0 9 A2 with
  | inr F =>
    rw [h3] at K3
    rw [K3.k.1] at C7
    obtain ⟨f4, K4⟩ := K3.fd C7
    exact ⟨((f1.tr f2).tr f3).tr f4, K4⟩
  | inl q =>
  obtain ⟨A3, s⟩ := q
  rw [h3] at K3
  obtain ⟨e3, K3⟩ := K3
  rw [K3.k.1] at C7
  have hc := K3.2.2.2.2.2
  obtain ⟨g1, -, g2⟩ := C7 21 H nf rfl K3.2.2.2.2.1 hc.1 hc.2.1
  obtain ⟨g3, g4⟩ := g2 hn
  rw [e1, e2, e3] at g4
  exact ⟨((f1.tr f2).tr f3).tr (cDF.of g1), g3, K3.hs g1 g4 (hc.fd hn)⟩
theorem fam7q {F : Nat} (K : cQ σ b E F) (C1 : p_92 1 (zB + 21) σ S1) (C2 : p_96 1 (Int32.ofInt 0) (Int32.ofInt 999) S1 X1 S2) (C3 : p_92 1 (zB + 22) S2 S3) (C4 : p_96 1 (Int32.ofInt 0) (Int32.ofInt 9) S3 X2 S4) (C5 : p_92 1 (zB + 23) S4 S5) (C6 : p_96 1 (Int32.ofInt 0) (Int32.ofInt 9) S5 X3 S6) (C7 : p_12 (q_r (S6.1 21 1)) X1 X2 X3 S6 X4 S7) : cDF σ S7 ∧ cQ S7 b E F := by
  obtain ⟨f1, K1⟩ := K.af C1 C2 zwk_21 (by decide)
  obtain ⟨f2, K2⟩ := K1.af C3 C4 zwk_22 (by decide)
  obtain ⟨f3, K3⟩ := K2.af C5 C6 zwk_23 (by decide)
  rw [K3.k.1] at C7
  obtain ⟨f4, K4⟩ := K3.fd C7
  exact ⟨((f1.tr f2).tr f3).tr f4, K4⟩
end FAM
section OPT
variable {σ S1 S2 S3 : zSg} {b : Nat → Int} {E : Nat} {x y f : Int32}
theorem oh_n {A nf nt w : Nat} {z : List Int} {H : Nat → Int32} (K : cR σ b A E nf nt H) (C1 : p_91 1 w σ x S1) (hw : zwk w) (hz : q_si w = z) (B : x.toInt = 0) : S1 = σ ∧ dOh b E z A = .inl (A, Int32.ofInt 0) := by
  obtain ⟨-, -, v⟩ := K.tk C1 hw hz
  obtain ⟨h1, h2⟩ := v B
  exact ⟨h2, by unfold dOh; rw [h1]; rfl⟩
theorem oh_y {A nf nt w : Nat} {z : List Int} {H : Nat → Int32} (K : cR σ b A E nf nt H) (C1 : p_91 1 w σ x S1) (C2 : p_6 1 S1 y S2) (hw : zwk w) (hz : q_si w = z) (B : x.toInt ≠ 0) : cDF σ S2 ∧ cOB S2 b E nf nt H y (dOh b E z A) := by
  obtain ⟨f1, u, -⟩ := K.tk C1 hw hz
  obtain ⟨A1, h1, K1⟩ := u B
  obtain ⟨f2, K2⟩ := (C2 rfl b E).1 A1 nf nt H K1
  refine ⟨f1.tr f2, ?_⟩
  unfold dOh
  rw [h1]
  exact K2
end OPT
theorem zJ_3 : zJ3 3 z_m3 z_c3 z_h3 := ⟨rfl, rfl, rfl⟩
noncomputable def p_3 (h a : Nat) (σ σ' : zSg) : Prop := h = 21 → a = 1 → ∀ b E, (∀ A nf nt H, cR σ b A E nf nt H → nf < 6 → cDF σ σ' ∧ cOL σ' b E nf nt H (dFam b E A)) ∧ (∀ F, cQ σ b E F → cDF σ σ' ∧ cQ σ' b E F)
theorem sp_3_ett (a0 : Nat) (a1 : Nat) (σ : zSg) (τ1 : zSg) (τ2 : zSg) (r2 : Int32) (τ3 : zSg) (τ4 : zSg) (r4 : Int32) (τ5 : zSg) (τ6 : zSg) (r6 : Int32) (τ7 : zSg) (r7 : Int32) (τ8 : zSg) (r8 : Int32) (τ10 : zSg) (r10 : Int32) (g1 : p_92 a1 (zB + 21) σ τ1) (g2 : p_96 a1 (Int32.ofInt (0)) (Int32.ofInt (999)) τ1 r2 τ2) (g3 : p_92 a1 (zB + 22) τ2 τ3) (g4 : p_96 a1 (Int32.ofInt (0)) (Int32.ofInt (9)) τ3 r4 τ4) (g5 : p_92 a1 (zB + 23) τ4 τ5) (g6 : p_96 a1 (Int32.ofInt (0)) (Int32.ofInt (9)) τ5 r6 τ6) (g7 : p_12 (q_r (τ6.1 a0 1)) r2 r4 r6 τ6 r7 τ7) (g8 : p_91 a1 (zB + 13) τ7 r8 τ8) (h9 : r8.toInt = (0 : Int)) (g10 : p_91 a1 (zB + 15) τ8 r10 τ10) (h11 : r10.toInt = (0 : Int)) :
    p_3 (a0) (a1) σ τ10 := by
  rintro rfl rfl b E
  refine ⟨fun A nf nt H K hn => ?_, fun F K => ?_⟩
  · rw [dFam_3]
    obtain ⟨f1, K1⟩ := fam7 K hn g1 g2 g3 g4 g5 g6 g7
    cases h1 : dP3 b E A with
    | inr F =>
      rw [h1] at K1
      obtain ⟨-, rfl⟩ := K1.tk g8 zwk_13
      obtain ⟨-, rfl⟩ := K1.tk g10 zwk_15
      exact ⟨f1, K1⟩
    | inl q =>
    obtain ⟨A3, p, d, s⟩ := q
    rw [h1] at K1
    obtain ⟨e4, K1⟩ := K1
    subst e4
    dsimp only
    obtain ⟨rfl, h2⟩ := oh_n K1 g8 zwk_13 qsi_13 h9
    rw [h2]
    have K3 := K1.cg (fun k _ => dG_0 (f := Int32.ofNat nf) k)
    have f3 := f1
    dsimp only
    obtain ⟨rfl, h3⟩ := oh_n K3 g10 zwk_15 qsi_15 h11
    rw [h3]
    exact ⟨f3, (K3.cg (fun k _ => wi_0 (i := 43 + 4 * nf) k)).cg (fun k _ => fam_eq hn k)⟩
  · obtain ⟨f1, K1⟩ := fam7q K g1 g2 g3 g4 g5 g6 g7
    obtain ⟨-, rfl⟩ := K1.tk g8 zwk_13
    obtain ⟨-, rfl⟩ := K1.tk g10 zwk_15
    exact ⟨f1, K1⟩
theorem sp_3_etf (a0 : Nat) (a1 : Nat) (σ : zSg) (τ1 : zSg) (τ2 : zSg) (r2 : Int32) (τ3 : zSg) (τ4 : zSg) (r4 : Int32) (τ5 : zSg) (τ6 : zSg) (r6 : Int32) (τ7 : zSg) (r7 : Int32) (τ8 : zSg) (r8 : Int32) (τ10 : zSg) (r10 : Int32) (τ12 : zSg) (r12 : Int32) (τ13 : zSg) (g1 : p_92 a1 (zB + 21) σ τ1) (g2 : p_96 a1 (Int32.ofInt (0)) (Int32.ofInt (999)) τ1 r2 τ2) (g3 : p_92 a1 (zB + 22) τ2 τ3) (g4 : p_96 a1 (Int32.ofInt (0)) (Int32.ofInt (9)) τ3 r4 τ4) (g5 : p_92 a1 (zB + 23) τ4 τ5) (g6 : p_96 a1 (Int32.ofInt (0)) (Int32.ofInt (9)) τ5 r6 τ6) (g7 : p_12 (q_r (τ6.1 a0 1)) r2 r4 r6 τ6 r7 τ7) (g8 : p_91 a1 (zB + 13) τ7 r8 τ8) (h9 : r8.toInt = (0 : Int)) (g10 : p_91 a1 (zB + 15) τ8 r10 τ10) (h11 : r10.toInt ≠ (0 : Int)) (g12 : p_6 a1 τ10 r12 τ12) (g13 : p_13 (q_r (τ10.1 a0 1)) r7 r12 τ12 τ13) :
    p_3 (a0) (a1) σ τ13 := by
  rintro rfl rfl b E
  refine ⟨fun A nf nt H K hn => ?_, fun F K => ?_⟩
  · rw [dFam_3]
    obtain ⟨f1, K1⟩ := fam7 K hn g1 g2 g3 g4 g5 g6 g7
    cases h1 : dP3 b E A with
    | inr F =>
      rw [h1] at K1
      obtain ⟨-, rfl⟩ := K1.tk g8 zwk_13
      exact absurd (K1.tk g10 zwk_15).1 h11
    | inl q =>
    obtain ⟨A3, p, d, s⟩ := q
    rw [h1] at K1
    obtain ⟨e4, K1⟩ := K1
    subst e4
    dsimp only
    obtain ⟨rfl, h2⟩ := oh_n K1 g8 zwk_13 qsi_13 h9
    rw [h2]
    have K3 := K1.cg (fun k _ => dG_0 (f := Int32.ofNat nf) k)
    have f3 := f1
    dsimp only
    have kS9 : q_r (τ10.1 21 1) = 23 := by
      obtain ⟨-, u9, -⟩ := K3.tk g10 zwk_15 qsi_15
      obtain ⟨A9, -, K9⟩ := u9 h11
      exact K9.k.1
    obtain ⟨f4, K4⟩ := oh_y K3 g10 g12 zwk_15 qsi_15 h11
    cases h3 : dOh b E wWishes A3 with
    | inr F =>
      rw [h3] at K4
      rw [kS9] at g13
      obtain ⟨f5, K5⟩ := K4.aw g13
      exact ⟨(f3.tr f4).tr f5, K5⟩
    | inl q =>
    obtain ⟨A5, w⟩ := q
    rw [h3] at K4
    obtain ⟨e6, K4⟩ := K4
    subst e6
    rw [kS9] at g13
    obtain ⟨f5, K5⟩ := K4.aw g13 (by omega)
    exact ⟨(f3.tr f4).tr f5, K5.cg (fun k _ => fam_eq hn k)⟩
  · obtain ⟨f1, K1⟩ := fam7q K g1 g2 g3 g4 g5 g6 g7
    obtain ⟨-, rfl⟩ := K1.tk g8 zwk_13
    exact absurd (K1.tk g10 zwk_15).1 h11
theorem sp_3_eft (a0 : Nat) (a1 : Nat) (σ : zSg) (τ1 : zSg) (τ2 : zSg) (r2 : Int32) (τ3 : zSg) (τ4 : zSg) (r4 : Int32) (τ5 : zSg) (τ6 : zSg) (r6 : Int32) (τ7 : zSg) (r7 : Int32) (τ8 : zSg) (r8 : Int32) (τ14 : zSg) (r14 : Int32) (τ15 : zSg) (τ16 : zSg) (r16 : Int32) (g1 : p_92 a1 (zB + 21) σ τ1) (g2 : p_96 a1 (Int32.ofInt (0)) (Int32.ofInt (999)) τ1 r2 τ2) (g3 : p_92 a1 (zB + 22) τ2 τ3) (g4 : p_96 a1 (Int32.ofInt (0)) (Int32.ofInt (9)) τ3 r4 τ4) (g5 : p_92 a1 (zB + 23) τ4 τ5) (g6 : p_96 a1 (Int32.ofInt (0)) (Int32.ofInt (9)) τ5 r6 τ6) (g7 : p_12 (q_r (τ6.1 a0 1)) r2 r4 r6 τ6 r7 τ7) (g8 : p_91 a1 (zB + 13) τ7 r8 τ8) (h9 : r8.toInt ≠ (0 : Int)) (g14 : p_6 a1 τ8 r14 τ14) (g15 : p_29 a0 r14 r7 τ14 τ15) (g16 : p_91 a1 (zB + 15) τ15 r16 τ16) (h17 : r16.toInt = (0 : Int)) :
    p_3 (a0) (a1) σ τ16 := by
  rintro rfl rfl b E
  refine ⟨fun A nf nt H K hn => ?_, fun F K => ?_⟩
  · rw [dFam_3]
    obtain ⟨f1, K1⟩ := fam7 K hn g1 g2 g3 g4 g5 g6 g7
    cases h1 : dP3 b E A with
    | inr F =>
      rw [h1] at K1
      exact absurd (K1.tk g8 zwk_13).1 h9
    | inl q =>
    obtain ⟨A3, p, d, s⟩ := q
    rw [h1] at K1
    obtain ⟨e4, K1⟩ := K1
    subst e4
    dsimp only
    obtain ⟨f2, K2⟩ := oh_y K1 g8 g14 zwk_13 qsi_13 h9
    cases h2 : dOh b E wHours A3 with
    | inr F =>
      rw [h2] at K2
      obtain ⟨f3, K3⟩ := K2.gh g15
      obtain ⟨-, rfl⟩ := K3.tk g16 zwk_15
      exact ⟨((f1.tr f2).tr f3), K3⟩
    | inl q =>
    obtain ⟨A4, q⟩ := q
    rw [h2] at K2
    obtain ⟨e5, K2⟩ := K2
    subst e5
    obtain ⟨f3, K3⟩ := K2.gh g15
    have f3 := (f1.tr f2).tr f3
    dsimp only
    obtain ⟨rfl, h3⟩ := oh_n K3 g16 zwk_15 qsi_15 h17
    rw [h3]
    exact ⟨f3, (K3.cg (fun k _ => wi_0 (i := 43 + 4 * nf) k)).cg (fun k _ => fam_eq hn k)⟩
  · obtain ⟨f1, K1⟩ := fam7q K g1 g2 g3 g4 g5 g6 g7
    exact absurd (K1.tk g8 zwk_13).1 h9
theorem sp_3_eff (a0 : Nat) (a1 : Nat) (σ : zSg) (τ1 : zSg) (τ2 : zSg) (r2 : Int32) (τ3 : zSg) (τ4 : zSg) (r4 : Int32) (τ5 : zSg) (τ6 : zSg) (r6 : Int32) (τ7 : zSg) (r7 : Int32) (τ8 : zSg) (r8 : Int32) (τ14 : zSg) (r14 : Int32) (τ15 : zSg) (τ16 : zSg) (r16 : Int32) (τ18 : zSg) (r18 : Int32) (τ19 : zSg) (g1 : p_92 a1 (zB + 21) σ τ1) (g2 : p_96 a1 (Int32.ofInt (0)) (Int32.ofInt (999)) τ1 r2 τ2) (g3 : p_92 a1 (zB + 22) τ2 τ3) (g4 : p_96 a1 (Int32.ofInt (0)) (Int32.ofInt (9)) τ3 r4 τ4) (g5 : p_92 a1 (zB + 23) τ4 τ5) (g6 : p_96 a1 (Int32.ofInt (0)) (Int32.ofInt (9)) τ5 r6 τ6) (g7 : p_12 (q_r (τ6.1 a0 1)) r2 r4 r6 τ6 r7 τ7) (g8 : p_91 a1 (zB + 13) τ7 r8 τ8) (h9 : r8.toInt ≠ (0 : Int)) (g14 : p_6 a1 τ8 r14 τ14) (g15 : p_29 a0 r14 r7 τ14 τ15) (g16 : p_91 a1 (zB + 15) τ15 r16 τ16) (h17 : r16.toInt ≠ (0 : Int)) (g18 : p_6 a1 τ16 r18 τ18) (g19 : p_13 (q_r (τ16.1 a0 1)) r7 r18 τ18 τ19) :
    p_3 (a0) (a1) σ τ19 := by
  rintro rfl rfl b E
  refine ⟨fun A nf nt H K hn => ?_, fun F K => ?_⟩
  · rw [dFam_3]
    obtain ⟨f1, K1⟩ := fam7 K hn g1 g2 g3 g4 g5 g6 g7
    cases h1 : dP3 b E A with
    | inr F =>
      rw [h1] at K1
      exact absurd (K1.tk g8 zwk_13).1 h9
    | inl q =>
    obtain ⟨A3, p, d, s⟩ := q
    rw [h1] at K1
    obtain ⟨e4, K1⟩ := K1
    subst e4
    dsimp only
    obtain ⟨f2, K2⟩ := oh_y K1 g8 g14 zwk_13 qsi_13 h9
    cases h2 : dOh b E wHours A3 with
    | inr F =>
      rw [h2] at K2
      obtain ⟨f3, K3⟩ := K2.gh g15
      exact absurd (K3.tk g16 zwk_15).1 h17
    | inl q =>
    obtain ⟨A4, q⟩ := q
    rw [h2] at K2
    obtain ⟨e5, K2⟩ := K2
    subst e5
    obtain ⟨f3, K3⟩ := K2.gh g15
    have f3 := (f1.tr f2).tr f3
    dsimp only
    have kS9 : q_r (τ16.1 21 1) = 23 := by
      obtain ⟨-, u9, -⟩ := K3.tk g16 zwk_15 qsi_15
      obtain ⟨A9, -, K9⟩ := u9 h17
      exact K9.k.1
    obtain ⟨f4, K4⟩ := oh_y K3 g16 g18 zwk_15 qsi_15 h17
    cases h3 : dOh b E wWishes A4 with
    | inr F =>
      rw [h3] at K4
      rw [kS9] at g19
      obtain ⟨f5, K5⟩ := K4.aw g19
      exact ⟨(f3.tr f4).tr f5, K5⟩
    | inl q =>
    obtain ⟨A5, w⟩ := q
    rw [h3] at K4
    obtain ⟨e6, K4⟩ := K4
    subst e6
    rw [kS9] at g19
    obtain ⟨f5, K5⟩ := K4.aw g19 (by omega)
    exact ⟨(f3.tr f4).tr f5, K5.cg (fun k _ => fam_eq hn k)⟩
  · obtain ⟨f1, K1⟩ := fam7q K g1 g2 g3 g4 g5 g6 g7
    exact absurd (K1.tk g8 zwk_13).1 h9
noncomputable def qP_3 : zPp := fun as σ o σ' => match as with
  | [a0, a1] => o = .inl none ∧ p_3 (q_r a0) (q_r a1) σ σ'
  | _ => True
set_option maxRecDepth 100000 in
theorem sp_3 {sx : zX} (S92 : zEe sx 92 2 qP_92) (S96 : zEe sx 96 3 qP_96) (S12 : zEe sx 12 4 qP_12) (S91 : zEe sx 91 2 qP_91) (S6 : zEe sx 6 1 qP_6) (S13 : zEe sx 13 3 qP_13) (S29 : zEe sx 29 3 qP_29) : zEe sx 3 2 qP_3 := by
  refine zfle zJ_3 (sps := [(92, 2, qP_92), (96, 3, qP_96), (12, 4, qP_12), (91, 2, qP_91), (6, 1, qP_6), (13, 3, qP_13), (29, 3, qP_29)]) (fun q hq => by
    simp only [List.mem_cons, List.not_mem_nil, or_false] at hq
    rcases hq with rfl | rfl | rfl | rfl | rfl | rfl | rfl
    · exact S92
    · exact S96
    · exact S12
    · exact S91
    · exact S6
    · exact S13
    · exact S29) (fun as σ hl => ?_)
  match as, hl with
  | [a0, a1], _ =>
  refine ⟨[], 400, ?_, ?_⟩
  · exact fun q hq => absurd hq List.not_mem_nil
  · refine fun o1 τ1 g1 => ?_
    obtain ⟨rfl, g1⟩ := g1
    refine fun o2 τ2 g2 => ?_
    obtain ⟨r2, rfl, g2⟩ := g2
    refine fun o3 τ3 g3 => ?_
    obtain ⟨rfl, g3⟩ := g3
    refine fun o4 τ4 g4 => ?_
    obtain ⟨r4, rfl, g4⟩ := g4
    refine fun o5 τ5 g5 => ?_
    obtain ⟨rfl, g5⟩ := g5
    refine fun o6 τ6 g6 => ?_
    obtain ⟨r6, rfl, g6⟩ := g6
    refine fun o7 τ7 g7 => ?_
    obtain ⟨r7, rfl, g7⟩ := g7
    refine fun o8 τ8 g8 => ?_
    obtain ⟨r8, rfl, g8⟩ := g8
    refine And.intro (fun h9 => ?_) (fun h9 => ?_)
    · refine fun o10 τ10 g10 => ?_
      obtain ⟨r10, rfl, g10⟩ := g10
      refine And.intro (fun h11 => ?_) (fun h11 => ?_)
      · exact ⟨rfl, sp_3_ett (q_r a0) (q_r a1) σ τ1 τ2 r2 τ3 τ4 r4 τ5 τ6 r6 τ7 r7 τ8 r8 τ10 r10 g1 g2 g3 g4 g5 g6 g7 g8 (cm0t h9) g10 (cm0t h11)⟩
      · refine fun o12 τ12 g12 => ?_
        obtain ⟨r12, rfl, g12⟩ := g12
        refine fun o13 τ13 g13 => ?_
        obtain ⟨rfl, g13⟩ := g13
        exact ⟨rfl, sp_3_etf (q_r a0) (q_r a1) σ τ1 τ2 r2 τ3 τ4 r4 τ5 τ6 r6 τ7 r7 τ8 r8 τ10 r10 τ12 r12 τ13 g1 g2 g3 g4 g5 g6 g7 g8 (cm0t h9) g10 (cm0f h11) g12 g13⟩
    · refine fun o14 τ14 g14 => ?_
      obtain ⟨r14, rfl, g14⟩ := g14
      refine fun o15 τ15 g15 => ?_
      obtain ⟨rfl, g15⟩ := g15
      refine fun o16 τ16 g16 => ?_
      obtain ⟨r16, rfl, g16⟩ := g16
      refine And.intro (fun h17 => ?_) (fun h17 => ?_)
      · exact ⟨rfl, sp_3_eft (q_r a0) (q_r a1) σ τ1 τ2 r2 τ3 τ4 r4 τ5 τ6 r6 τ7 r7 τ8 r8 τ14 r14 τ15 τ16 r16 g1 g2 g3 g4 g5 g6 g7 g8 (cm0f h9) g14 g15 g16 (cm0t h17)⟩
      · refine fun o18 τ18 g18 => ?_
        obtain ⟨r18, rfl, g18⟩ := g18
        refine fun o19 τ19 g19 => ?_
        obtain ⟨rfl, g19⟩ := g19
        exact ⟨rfl, sp_3_eff (q_r a0) (q_r a1) σ τ1 τ2 r2 τ3 τ4 r4 τ5 τ6 r6 τ7 r7 τ8 r8 τ14 r14 τ15 τ16 r16 τ18 r18 τ19 g1 g2 g3 g4 g5 g6 g7 g8 (cm0f h9) g14 g15 g16 (cm0f h17) g18 g19⟩
end
section
/-! the class's texts of a deed, exact; printed with wip/gen/gen_d6.py -/
theorem cR.w {σ : zSg} {b : Nat → Int} {A E nf nt k : Nat} {H : Nat → Int32} {v : Int32} (K : cR σ b A E nf nt H) (h1 : 4 ≤ k) (h2 : k ≤ 13) : cDF σ (q_w σ 21 (k + 3) (.int v)) ∧ cR (q_w σ 21 (k + 3) (.int v)) b A E nf nt (aU H k v) := ⟨cDF.of (hHF.w (hp_s h1 h2)), K.hs (hHF.w (hp_s h1 h2)) (K.2.2.2.2.1.ww (hp_s h1 h2)) (K.2.2.2.2.2.st ⟨h1, h2⟩)⟩
theorem cQ.w {σ : zSg} {b : Nat → Int} {E F k : Nat} {v : Int32} (K : cQ σ b E F) (h1 : 4 ≤ k) (h2 : k ≤ 13) : cDF σ (q_w σ 21 (k + 3) (.int v)) ∧ cQ (q_w σ 21 (k + 3) (.int v)) b E F := ⟨cDF.of (hHF.w (hp_s h1 h2)), K.hs (hHF.w (hp_s h1 h2)) (fun H nf nt h6 h7 => ⟨_, nf, nt, h6.ww (hp_s h1 h2), h7.st ⟨h1, h2⟩⟩)⟩
theorem zJ_2 : zJ3 2 z_m2 z_c2 z_h2 := ⟨rfl, rfl, rfl⟩
noncomputable def p_2 (h a : Nat) (σ σ' : zSg) : Prop := h = 21 → a = 1 → ∀ b E, (∀ A nf nt H, cR σ b A E nf nt H → cDF σ σ' ∧ ((∃ i s A1, 5 ≤ i ∧ i ≤ 9 ∧ dWs[i]? = some s ∧ tw b E s A = some A1 ∧ cOL σ' b E nf nt H (dLk b E nf nt A A1 i)) ∨ ((∀ s ∈ [wCold, wFine, wPrice, wGuests, wHour], tw b E s A = none) ∧ cQ σ' b E A))) ∧ (∀ F, cQ σ b E F → cDF σ σ' ∧ cQ σ' b E F)
theorem sp_2_ettttt (a0 : Nat) (a1 : Nat) (σ : zSg) (τ1 : zSg) (r1 : Int32) (τ3 : zSg) (r3 : Int32) (τ5 : zSg) (r5 : Int32) (τ7 : zSg) (r7 : Int32) (τ9 : zSg) (r9 : Int32) (τ11 : zSg) (g1 : p_91 a1 (zB + 16) σ r1 τ1) (h2 : r1.toInt = (0 : Int)) (g3 : p_91 a1 (zB + 17) τ1 r3 τ3) (h4 : r3.toInt = (0 : Int)) (g5 : p_91 a1 (zB + 18) τ3 r5 τ5) (h6 : r5.toInt = (0 : Int)) (g7 : p_91 a1 (zB + 19) τ5 r7 τ7) (h8 : r7.toInt = (0 : Int)) (g9 : p_91 a1 (zB + 20) τ7 r9 τ9) (h10 : r9.toInt = (0 : Int)) (g11 : p_90 a1 τ9 τ11) :
    p_2 (a0) (a1) σ τ11 := by
  rintro rfl rfl b E
  refine ⟨fun A nf nt H K => ?_, fun F K => ?_⟩
  · obtain ⟨-, -, v0⟩ := K.tk g1 zwk_16 qsi_16
    obtain ⟨e0, rfl⟩ := v0 h2
    obtain ⟨-, -, v1⟩ := K.tk g3 zwk_17 qsi_17
    obtain ⟨e1, rfl⟩ := v1 h4
    obtain ⟨-, -, v2⟩ := K.tk g5 zwk_18 qsi_18
    obtain ⟨e2, rfl⟩ := v2 h6
    obtain ⟨-, -, v3⟩ := K.tk g7 zwk_19 qsi_19
    obtain ⟨e3, rfl⟩ := v3 h8
    obtain ⟨-, -, v4⟩ := K.tk g9 zwk_20 qsi_20
    obtain ⟨e4, rfl⟩ := v4 h10
    obtain ⟨f1, K1⟩ := K.rf g11
    refine ⟨f1, Or.inr ⟨fun s hs => ?_, K1⟩⟩
    simp only [List.mem_cons, List.not_mem_nil, or_false] at hs
    rcases hs with rfl | rfl | rfl | rfl | rfl
    · exact e0
    · exact e1
    · exact e2
    · exact e3
    · exact e4
  · obtain ⟨-, rfl⟩ := K.tk g1 zwk_16
    obtain ⟨-, rfl⟩ := K.tk g3 zwk_17
    obtain ⟨-, rfl⟩ := K.tk g5 zwk_18
    obtain ⟨-, rfl⟩ := K.tk g7 zwk_19
    obtain ⟨-, rfl⟩ := K.tk g9 zwk_20
    obtain rfl := K.rf g11
    exact ⟨cDF.rf, K⟩
theorem sp_2_ettttf (a0 : Nat) (a1 : Nat) (σ : zSg) (τ1 : zSg) (r1 : Int32) (τ3 : zSg) (r3 : Int32) (τ5 : zSg) (r5 : Int32) (τ7 : zSg) (r7 : Int32) (τ9 : zSg) (r9 : Int32) (τ12 : zSg) (r12 : Int32) (g1 : p_91 a1 (zB + 16) σ r1 τ1) (h2 : r1.toInt = (0 : Int)) (g3 : p_91 a1 (zB + 17) τ1 r3 τ3) (h4 : r3.toInt = (0 : Int)) (g5 : p_91 a1 (zB + 18) τ3 r5 τ5) (h6 : r5.toInt = (0 : Int)) (g7 : p_91 a1 (zB + 19) τ5 r7 τ7) (h8 : r7.toInt = (0 : Int)) (g9 : p_91 a1 (zB + 20) τ7 r9 τ9) (h10 : r9.toInt ≠ (0 : Int)) (g12 : p_96 a1 (Int32.ofInt (0)) (Int32.ofInt (23)) τ9 r12 τ12) :
    p_2 (a0) (a1) σ (q_w τ12 a0 7 (.int r12)) := by
  rintro rfl rfl b E
  refine ⟨fun A nf nt H K => ?_, fun F K => ?_⟩
  · obtain ⟨-, -, v0⟩ := K.tk g1 zwk_16 qsi_16
    obtain ⟨e0, rfl⟩ := v0 h2
    obtain ⟨-, -, v1⟩ := K.tk g3 zwk_17 qsi_17
    obtain ⟨e1, rfl⟩ := v1 h4
    obtain ⟨-, -, v2⟩ := K.tk g5 zwk_18 qsi_18
    obtain ⟨e2, rfl⟩ := v2 h6
    obtain ⟨-, -, v3⟩ := K.tk g7 zwk_19 qsi_19
    obtain ⟨e3, rfl⟩ := v3 h8
    obtain ⟨f1, u, -⟩ := K.tk g9 zwk_20 qsi_20
    obtain ⟨A1, e4, K1⟩ := u h10
    obtain ⟨f2, u2, v2⟩ := K1.nb g12 (by decide)
    rw [show (Int32.ofInt 0).toInt = 0 from rfl, show (Int32.ofInt 23).toInt = 23 from rfl] at u2 v2
    cases h2 : tn b E 0 23 A1 with
    | none =>
      obtain ⟨f3, K3⟩ := (v2 h2).w (k := 4) (v := r12) (by omega) (by omega)
      exact ⟨(f1.tr f2).tr f3, Or.inl ⟨9, wHour, A1, by omega, by omega, rfl, e4, by rw [dLk_9]; unfold dSt; rw [h2]; exact K3⟩⟩
    | some q =>
      obtain ⟨A2, v⟩ := q
      obtain ⟨ev, K2⟩ := u2 A2 v h2
      obtain ⟨f3, K3⟩ := K2.w (k := 4) (v := r12) (by omega) (by omega)
      rw [ev] at K3 f3 ⊢
      exact ⟨(f1.tr f2).tr f3, Or.inl ⟨9, wHour, A1, by omega, by omega, rfl, e4, by rw [dLk_9]; unfold dSt; rw [h2]; exact K3⟩⟩
  · obtain ⟨-, rfl⟩ := K.tk g1 zwk_16
    obtain ⟨-, rfl⟩ := K.tk g3 zwk_17
    obtain ⟨-, rfl⟩ := K.tk g5 zwk_18
    obtain ⟨-, rfl⟩ := K.tk g7 zwk_19
    exact absurd (K.tk g9 zwk_20).1 h10
theorem sp_2_etttf (a0 : Nat) (a1 : Nat) (σ : zSg) (τ1 : zSg) (r1 : Int32) (τ3 : zSg) (r3 : Int32) (τ5 : zSg) (r5 : Int32) (τ7 : zSg) (r7 : Int32) (τ13 : zSg) (r13 : Int32) (g1 : p_91 a1 (zB + 16) σ r1 τ1) (h2 : r1.toInt = (0 : Int)) (g3 : p_91 a1 (zB + 17) τ1 r3 τ3) (h4 : r3.toInt = (0 : Int)) (g5 : p_91 a1 (zB + 18) τ3 r5 τ5) (h6 : r5.toInt = (0 : Int)) (g7 : p_91 a1 (zB + 19) τ5 r7 τ7) (h8 : r7.toInt ≠ (0 : Int)) (g13 : p_96 a1 (Int32.ofInt (0)) (Int32.ofInt (100)) τ7 r13 τ13) :
    p_2 (a0) (a1) σ (q_w τ13 a0 16 (.int r13)) := by
  rintro rfl rfl b E
  refine ⟨fun A nf nt H K => ?_, fun F K => ?_⟩
  · obtain ⟨-, -, v0⟩ := K.tk g1 zwk_16 qsi_16
    obtain ⟨e0, rfl⟩ := v0 h2
    obtain ⟨-, -, v1⟩ := K.tk g3 zwk_17 qsi_17
    obtain ⟨e1, rfl⟩ := v1 h4
    obtain ⟨-, -, v2⟩ := K.tk g5 zwk_18 qsi_18
    obtain ⟨e2, rfl⟩ := v2 h6
    obtain ⟨f1, u, -⟩ := K.tk g7 zwk_19 qsi_19
    obtain ⟨A1, e3, K1⟩ := u h8
    obtain ⟨f2, u2, v2⟩ := K1.nb g13 (by decide)
    rw [show (Int32.ofInt 0).toInt = 0 from rfl, show (Int32.ofInt 100).toInt = 100 from rfl] at u2 v2
    cases h2 : tn b E 0 100 A1 with
    | none =>
      obtain ⟨f3, K3⟩ := (v2 h2).w (k := 13) (v := r13) (by omega) (by omega)
      exact ⟨(f1.tr f2).tr f3, Or.inl ⟨8, wGuests, A1, by omega, by omega, rfl, e3, by rw [dLk_8]; unfold dSt; rw [h2]; exact K3⟩⟩
    | some q =>
      obtain ⟨A2, v⟩ := q
      obtain ⟨ev, K2⟩ := u2 A2 v h2
      obtain ⟨f3, K3⟩ := K2.w (k := 13) (v := r13) (by omega) (by omega)
      rw [ev] at K3 f3 ⊢
      exact ⟨(f1.tr f2).tr f3, Or.inl ⟨8, wGuests, A1, by omega, by omega, rfl, e3, by rw [dLk_8]; unfold dSt; rw [h2]; exact K3⟩⟩
  · obtain ⟨-, rfl⟩ := K.tk g1 zwk_16
    obtain ⟨-, rfl⟩ := K.tk g3 zwk_17
    obtain ⟨-, rfl⟩ := K.tk g5 zwk_18
    exact absurd (K.tk g7 zwk_19).1 h8
theorem sp_2_ettf (a0 : Nat) (a1 : Nat) (σ : zSg) (τ1 : zSg) (r1 : Int32) (τ3 : zSg) (r3 : Int32) (τ5 : zSg) (r5 : Int32) (τ14 : zSg) (r14 : Int32) (g1 : p_91 a1 (zB + 16) σ r1 τ1) (h2 : r1.toInt = (0 : Int)) (g3 : p_91 a1 (zB + 17) τ1 r3 τ3) (h4 : r3.toInt = (0 : Int)) (g5 : p_91 a1 (zB + 18) τ3 r5 τ5) (h6 : r5.toInt ≠ (0 : Int)) (g14 : p_96 a1 (Int32.ofInt (0)) (Int32.ofInt (99)) τ5 r14 τ14) :
    p_2 (a0) (a1) σ (q_w τ14 a0 15 (.int r14)) := by
  rintro rfl rfl b E
  refine ⟨fun A nf nt H K => ?_, fun F K => ?_⟩
  · obtain ⟨-, -, v0⟩ := K.tk g1 zwk_16 qsi_16
    obtain ⟨e0, rfl⟩ := v0 h2
    obtain ⟨-, -, v1⟩ := K.tk g3 zwk_17 qsi_17
    obtain ⟨e1, rfl⟩ := v1 h4
    obtain ⟨f1, u, -⟩ := K.tk g5 zwk_18 qsi_18
    obtain ⟨A1, e2, K1⟩ := u h6
    obtain ⟨f2, u2, v2⟩ := K1.nb g14 (by decide)
    rw [show (Int32.ofInt 0).toInt = 0 from rfl, show (Int32.ofInt 99).toInt = 99 from rfl] at u2 v2
    cases h2 : tn b E 0 99 A1 with
    | none =>
      obtain ⟨f3, K3⟩ := (v2 h2).w (k := 12) (v := r14) (by omega) (by omega)
      exact ⟨(f1.tr f2).tr f3, Or.inl ⟨7, wPrice, A1, by omega, by omega, rfl, e2, by rw [dLk_7]; unfold dSt; rw [h2]; exact K3⟩⟩
    | some q =>
      obtain ⟨A2, v⟩ := q
      obtain ⟨ev, K2⟩ := u2 A2 v h2
      obtain ⟨f3, K3⟩ := K2.w (k := 12) (v := r14) (by omega) (by omega)
      rw [ev] at K3 f3 ⊢
      exact ⟨(f1.tr f2).tr f3, Or.inl ⟨7, wPrice, A1, by omega, by omega, rfl, e2, by rw [dLk_7]; unfold dSt; rw [h2]; exact K3⟩⟩
  · obtain ⟨-, rfl⟩ := K.tk g1 zwk_16
    obtain ⟨-, rfl⟩ := K.tk g3 zwk_17
    exact absurd (K.tk g5 zwk_18).1 h6
theorem sp_2_etf (a0 : Nat) (a1 : Nat) (σ : zSg) (τ1 : zSg) (r1 : Int32) (τ3 : zSg) (r3 : Int32) (τ15 : zSg) (r15 : Int32) (g1 : p_91 a1 (zB + 16) σ r1 τ1) (h2 : r1.toInt = (0 : Int)) (g3 : p_91 a1 (zB + 17) τ1 r3 τ3) (h4 : r3.toInt ≠ (0 : Int)) (g15 : p_96 a1 (Int32.ofInt (0)) (Int32.ofInt (20)) τ3 r15 τ15) :
    p_2 (a0) (a1) σ (q_w τ15 a0 14 (.int r15)) := by
  rintro rfl rfl b E
  refine ⟨fun A nf nt H K => ?_, fun F K => ?_⟩
  · obtain ⟨-, -, v0⟩ := K.tk g1 zwk_16 qsi_16
    obtain ⟨e0, rfl⟩ := v0 h2
    obtain ⟨f1, u, -⟩ := K.tk g3 zwk_17 qsi_17
    obtain ⟨A1, e1, K1⟩ := u h4
    obtain ⟨f2, u2, v2⟩ := K1.nb g15 (by decide)
    rw [show (Int32.ofInt 0).toInt = 0 from rfl, show (Int32.ofInt 20).toInt = 20 from rfl] at u2 v2
    cases h2 : tn b E 0 20 A1 with
    | none =>
      obtain ⟨f3, K3⟩ := (v2 h2).w (k := 11) (v := r15) (by omega) (by omega)
      exact ⟨(f1.tr f2).tr f3, Or.inl ⟨6, wFine, A1, by omega, by omega, rfl, e1, by rw [dLk_6]; unfold dSt; rw [h2]; exact K3⟩⟩
    | some q =>
      obtain ⟨A2, v⟩ := q
      obtain ⟨ev, K2⟩ := u2 A2 v h2
      obtain ⟨f3, K3⟩ := K2.w (k := 11) (v := r15) (by omega) (by omega)
      rw [ev] at K3 f3 ⊢
      exact ⟨(f1.tr f2).tr f3, Or.inl ⟨6, wFine, A1, by omega, by omega, rfl, e1, by rw [dLk_6]; unfold dSt; rw [h2]; exact K3⟩⟩
  · obtain ⟨-, rfl⟩ := K.tk g1 zwk_16
    exact absurd (K.tk g3 zwk_17).1 h4
theorem sp_2_ef (a0 : Nat) (a1 : Nat) (σ : zSg) (τ1 : zSg) (r1 : Int32) (τ16 : zSg) (r16 : Int32) (g1 : p_91 a1 (zB + 16) σ r1 τ1) (h2 : r1.toInt ≠ (0 : Int)) (g16 : p_96 a1 (Int32.ofInt (0)) (Int32.ofInt (9)) τ1 r16 τ16) :
    p_2 (a0) (a1) σ (q_w τ16 a0 13 (.int r16)) := by
  rintro rfl rfl b E
  refine ⟨fun A nf nt H K => ?_, fun F K => ?_⟩
  · obtain ⟨f1, u, -⟩ := K.tk g1 zwk_16 qsi_16
    obtain ⟨A1, e0, K1⟩ := u h2
    obtain ⟨f2, u2, v2⟩ := K1.nb g16 (by decide)
    rw [show (Int32.ofInt 0).toInt = 0 from rfl, show (Int32.ofInt 9).toInt = 9 from rfl] at u2 v2
    cases h2 : tn b E 0 9 A1 with
    | none =>
      obtain ⟨f3, K3⟩ := (v2 h2).w (k := 10) (v := r16) (by omega) (by omega)
      exact ⟨(f1.tr f2).tr f3, Or.inl ⟨5, wCold, A1, by omega, by omega, rfl, e0, by rw [dLk_5]; unfold dSt; rw [h2]; exact K3⟩⟩
    | some q =>
      obtain ⟨A2, v⟩ := q
      obtain ⟨ev, K2⟩ := u2 A2 v h2
      obtain ⟨f3, K3⟩ := K2.w (k := 10) (v := r16) (by omega) (by omega)
      rw [ev] at K3 f3 ⊢
      exact ⟨(f1.tr f2).tr f3, Or.inl ⟨5, wCold, A1, by omega, by omega, rfl, e0, by rw [dLk_5]; unfold dSt; rw [h2]; exact K3⟩⟩
  · exact absurd (K.tk g1 zwk_16).1 h2
noncomputable def qP_2 : zPp := fun as σ o σ' => match as with
  | [a0, a1] => o = .inl none ∧ p_2 (q_r a0) (q_r a1) σ σ'
  | _ => True
set_option maxRecDepth 100000 in
theorem sp_2 {sx : zX} (S91 : zEe sx 91 2 qP_91) (S90 : zEe sx 90 1 qP_90) (S96 : zEe sx 96 3 qP_96) : zEe sx 2 2 qP_2 := by
  refine zfle zJ_2 (sps := [(91, 2, qP_91), (90, 1, qP_90), (96, 3, qP_96)]) (fun q hq => by
    simp only [List.mem_cons, List.not_mem_nil, or_false] at hq
    rcases hq with rfl | rfl | rfl
    · exact S91
    · exact S90
    · exact S96) (fun as σ hl => ?_)
  match as, hl with
  | [a0, a1], _ =>
  refine ⟨[], 400, ?_, ?_⟩
  · exact fun q hq => absurd hq List.not_mem_nil
  · refine fun o1 τ1 g1 => ?_
    obtain ⟨r1, rfl, g1⟩ := g1
    refine And.intro (fun h2 => ?_) (fun h2 => ?_)
    · refine fun o3 τ3 g3 => ?_
      obtain ⟨r3, rfl, g3⟩ := g3
      refine And.intro (fun h4 => ?_) (fun h4 => ?_)
      · refine fun o5 τ5 g5 => ?_
        obtain ⟨r5, rfl, g5⟩ := g5
        refine And.intro (fun h6 => ?_) (fun h6 => ?_)
        · refine fun o7 τ7 g7 => ?_
          obtain ⟨r7, rfl, g7⟩ := g7
          refine And.intro (fun h8 => ?_) (fun h8 => ?_)
          · refine fun o9 τ9 g9 => ?_
            obtain ⟨r9, rfl, g9⟩ := g9
            refine And.intro (fun h10 => ?_) (fun h10 => ?_)
            · refine fun o11 τ11 g11 => ?_
              obtain ⟨rfl, g11⟩ := g11
              exact ⟨rfl, sp_2_ettttt (q_r a0) (q_r a1) σ τ1 r1 τ3 r3 τ5 r5 τ7 r7 τ9 r9 τ11 g1 (cm0t h2) g3 (cm0t h4) g5 (cm0t h6) g7 (cm0t h8) g9 (cm0t h10) g11⟩
            · refine fun o12 τ12 g12 => ?_
              obtain ⟨r12, rfl, g12⟩ := g12
              exact ⟨rfl, sp_2_ettttf (q_r a0) (q_r a1) σ τ1 r1 τ3 r3 τ5 r5 τ7 r7 τ9 r9 τ12 r12 g1 (cm0t h2) g3 (cm0t h4) g5 (cm0t h6) g7 (cm0t h8) g9 (cm0f h10) g12⟩
          · refine fun o13 τ13 g13 => ?_
            obtain ⟨r13, rfl, g13⟩ := g13
            exact ⟨rfl, sp_2_etttf (q_r a0) (q_r a1) σ τ1 r1 τ3 r3 τ5 r5 τ7 r7 τ13 r13 g1 (cm0t h2) g3 (cm0t h4) g5 (cm0t h6) g7 (cm0f h8) g13⟩
        · refine fun o14 τ14 g14 => ?_
          obtain ⟨r14, rfl, g14⟩ := g14
          exact ⟨rfl, sp_2_ettf (q_r a0) (q_r a1) σ τ1 r1 τ3 r3 τ5 r5 τ14 r14 g1 (cm0t h2) g3 (cm0t h4) g5 (cm0f h6) g14⟩
      · refine fun o15 τ15 g15 => ?_
        obtain ⟨r15, rfl, g15⟩ := g15
        exact ⟨rfl, sp_2_etf (q_r a0) (q_r a1) σ τ1 r1 τ3 r3 τ15 r15 g1 (cm0t h2) g3 (cm0f h4) g15⟩
    · refine fun o16 τ16 g16 => ?_
      obtain ⟨r16, rfl, g16⟩ := g16
      exact ⟨rfl, sp_2_ef (q_r a0) (q_r a1) σ τ1 r1 τ16 r16 g1 (cm0f h2) g16⟩
theorem dWs_n : ∀ i, i ≤ 9 → ∀ s, dWs[i]? = some s → ∀ k, k < i → dWs[k]? ≠ some s := by decide
theorem hr_f {σ τ : zSg} {b : Nat → Int} {A E nf nt : Nat} {H : Nat → Int32} {x : Int32} (K : cR σ b A E nf nt H) (G : p_10 (q_r (σ.1 21 1)) σ x τ) : τ = σ ∧ (x.toInt ≠ 0 → nf < 6) ∧ (x.toInt = 0 → nf = 6) := by
  obtain ⟨g1, g2⟩ := G
  have p0 : q_i (σ.1 23 4) = H 0 := K.2.2.2.2.1.p hp_0
  have hc := K.2.2.2.2.2
  have h6 := hc.2.1
  rw [K.k.1, p0, hc.1, o32 (by omega)] at g2
  exact ⟨g1, fun h => by have := g2.mp h; omega, fun h => by
    rcases Nat.lt_or_ge nf 6 with q | q
    · exact absurd h (g2.mpr (by omega))
    · omega⟩
theorem hr_t {σ τ : zSg} {b : Nat → Int} {A E nf nt : Nat} {H : Nat → Int32} {x : Int32} (K : cR σ b A E nf nt H) (G : p_103 (q_r (σ.1 21 2)) σ x τ) : τ = σ ∧ (x.toInt ≠ 0 → nt < 8) ∧ (x.toInt = 0 → nt = 8) := by
  obtain ⟨g1, g2⟩ := G
  have p0 : q_i (σ.1 28 3) = H 1 := K.2.2.2.2.1.p hp_1
  have hc := K.2.2.2.2.2
  have h8 := hc.2.2.2.1
  rw [K.k.2, p0, hc.2.2.1, o32 (by omega)] at g2
  exact ⟨g1, fun h => by have := g2.mp h; omega, fun h => by
    rcases Nat.lt_or_ge nt 8 with q | q
    · exact absurd h (g2.mpr (by omega))
    · omega⟩
theorem zJ_1 : zJ3 1 z_m1 z_c1 z_h1 := ⟨rfl, rfl, rfl⟩
noncomputable def p_1 (h a : Nat) (σ σ' : zSg) : Prop := h = 21 → a = 1 → ∀ b E, (∀ A nf nt H, cR σ b A E nf nt H → cDF σ σ' ∧ cOL σ' b E nf nt H (dLine b E nf nt A)) ∧ (∀ F, cQ σ b E F → cDF σ σ' ∧ cQ σ' b E F)
theorem sp_1_ettttt (a0 : Nat) (a1 : Nat) (σ : zSg) (τ1 : zSg) (r1 : Int32) (τ3 : zSg) (r3 : Int32) (τ5 : zSg) (r5 : Int32) (τ7 : zSg) (r7 : Int32) (τ9 : zSg) (r9 : Int32) (τ11 : zSg) (g1 : p_10 (q_r (σ.1 a0 1)) σ r1 τ1) (h2 : r1.toInt = (0 : Int)) (g3 : p_103 (q_r (τ1.1 a0 2)) τ1 r3 τ3) (h4 : r3.toInt = (0 : Int)) (g5 : p_91 a1 (zB + 13) τ3 r5 τ5) (h6 : r5.toInt = (0 : Int)) (g7 : p_91 a1 (zB + 14) τ5 r7 τ7) (h8 : r7.toInt = (0 : Int)) (g9 : p_91 a1 (zB + 15) τ7 r9 τ9) (h10 : r9.toInt = (0 : Int)) (g11 : p_2 a0 a1 τ9 τ11) :
    p_1 (a0) (a1) σ τ11 := by
  rintro rfl rfl b E
  refine ⟨fun A nf nt H K => ?_, fun F K => ?_⟩
  · obtain ⟨rfl, r1, r2⟩ := hr_f K g1
    have n6 := r2 h2
    obtain ⟨rfl, r3, r4⟩ := hr_t K g3
    have n8 := r4 h4
    obtain ⟨-, -, v⟩ := K.tk g5 zwk_13 qsi_13
    obtain ⟨e1, rfl⟩ := v h6
    obtain ⟨-, -, v⟩ := K.tk g7 zwk_14 qsi_14
    obtain ⟨e2, rfl⟩ := v h8
    obtain ⟨-, -, v⟩ := K.tk g9 zwk_15 qsi_15
    obtain ⟨e4, rfl⟩ := v h10
    obtain ⟨f1, ⟨i, s, A1, i1, i2, i3, e, K1⟩ | ⟨hno, K1⟩⟩ := (g11 rfl rfl b E).1 A nf nt H K
    · rw [dLine_at i e i3 (dWs_n i i2 s i3)]
      exact ⟨f1, K1⟩
    · have hd : dLine b E nf nt A = .inr A := by
        cases q0 : tw b E wFamily A with
        | some A1 =>
          have hl : dLine b E nf nt A = dLk b E nf nt A A1 0 := dLine_at 0 q0 rfl (dWs_n 0 (by omega) _ rfl)
          rw [hl, dLk_0, if_pos n6]
        | none =>
        cases q3 : tw b E wThing A with
        | some A1 =>
          have hl : dLine b E nf nt A = dLk b E nf nt A A1 3 := dLine_at 3 q3 rfl (dWs_n 3 (by omega) _ rfl)
          rw [hl, dLk_3, if_pos n8]
        | none =>
        refine dLine_no (fun s hs => ?_)
        simp only [dWs, List.mem_cons, List.not_mem_nil, or_false] at hs
        rcases hs with rfl | rfl | rfl | rfl | rfl | rfl | rfl | rfl | rfl | rfl
        · exact q0
        · exact e1
        · exact e2
        · exact q3
        · exact e4
        · exact hno wCold (by simp only [List.mem_cons, true_or, or_true])
        · exact hno wFine (by simp only [List.mem_cons, true_or, or_true])
        · exact hno wPrice (by simp only [List.mem_cons, true_or, or_true])
        · exact hno wGuests (by simp only [List.mem_cons, true_or, or_true])
        · exact hno wHour (by simp only [List.mem_cons, true_or, or_true])
      rw [hd]
      exact ⟨f1, K1⟩
  · obtain ⟨rfl, -⟩ := g1
    obtain ⟨rfl, -⟩ := g3
    obtain ⟨-, rfl⟩ := K.tk g5 zwk_13
    obtain ⟨-, rfl⟩ := K.tk g7 zwk_14
    obtain ⟨-, rfl⟩ := K.tk g9 zwk_15
    exact (g11 rfl rfl b E).2 F K
theorem sp_1_ettttf (a0 : Nat) (a1 : Nat) (σ : zSg) (τ1 : zSg) (r1 : Int32) (τ3 : zSg) (r3 : Int32) (τ5 : zSg) (r5 : Int32) (τ7 : zSg) (r7 : Int32) (τ9 : zSg) (r9 : Int32) (τ12 : zSg) (r12 : Int32) (τ13 : zSg) (r13 : Int32) (τ14 : zSg) (g1 : p_10 (q_r (σ.1 a0 1)) σ r1 τ1) (h2 : r1.toInt = (0 : Int)) (g3 : p_103 (q_r (τ1.1 a0 2)) τ1 r3 τ3) (h4 : r3.toInt = (0 : Int)) (g5 : p_91 a1 (zB + 13) τ3 r5 τ5) (h6 : r5.toInt = (0 : Int)) (g7 : p_91 a1 (zB + 14) τ5 r7 τ7) (h8 : r7.toInt = (0 : Int)) (g9 : p_91 a1 (zB + 15) τ7 r9 τ9) (h10 : r9.toInt ≠ (0 : Int)) (g12 : p_5 a0 a1 τ9 r12 τ12) (g13 : p_6 a1 τ12 r13 τ13) (g14 : p_13 (q_r (τ12.1 a0 1)) r12 r13 τ13 τ14) :
    p_1 (a0) (a1) σ τ14 := by
  rintro rfl rfl b E
  refine ⟨fun A nf nt H K => ?_, fun F K => ?_⟩
  · obtain ⟨rfl, r1, r2⟩ := hr_f K g1
    have n6 := r2 h2
    obtain ⟨rfl, r3, r4⟩ := hr_t K g3
    have n8 := r4 h4
    obtain ⟨-, -, v⟩ := K.tk g5 zwk_13 qsi_13
    obtain ⟨e1, rfl⟩ := v h6
    obtain ⟨-, -, v⟩ := K.tk g7 zwk_14 qsi_14
    obtain ⟨e2, rfl⟩ := v h8
    obtain ⟨f1, u, -⟩ := K.tk g9 zwk_15 qsi_15
    obtain ⟨A1, e, K1⟩ := u h10
    have hl : dLine b E nf nt A = dLk b E nf nt A A1 4 := dLine_at 4 e rfl (dWs_n 4 (by omega) _ rfl)
    rw [hl]
    have k1 : q_r (τ12.1 21 1) = 23 := by
          rcases (g12 rfl rfl b E).1 A1 nf nt H K1 with ⟨-, ⟨A9, v9, -, -, K9⟩ | ⟨-, K9⟩⟩
          · exact K9.k.1
          · exact K9.k.1
    rw [k1] at g14
    obtain ⟨f2, ⟨A2, f, h2, e2, K2⟩ | ⟨h2, K2⟩⟩ := (g12 rfl rfl b E).1 A1 nf nt H K1
    · obtain ⟨f3, K3⟩ := (g13 rfl b E).1 A2 nf nt H K2
      unfold dLk dHf
      rw [h2]
      dsimp only
      cases h3 : dH b E A2 with
      | inr F =>
        rw [h3] at K3
        obtain ⟨f4, K4⟩ := K3.aw g14
        exact ⟨((f1.tr f2).tr f3).tr f4, K4⟩
      | inl q =>
        obtain ⟨A3, q⟩ := q
        rw [h3] at K3
        obtain ⟨eq, K3⟩ := K3
        subst eq
        subst e2
        have := tn_rg h2
        obtain ⟨f4, K4⟩ := K3.aw g14 (by omega)
        exact ⟨((f1.tr f2).tr f3).tr f4, K4⟩
    · obtain ⟨f3, K3⟩ := (g13 rfl b E).2 A1 K2
      obtain ⟨f4, K4⟩ := K3.aw g14
      unfold dLk dHf
      rw [h2]
      exact ⟨((f1.tr f2).tr f3).tr f4, K4⟩
  · obtain ⟨rfl, -⟩ := g1
    obtain ⟨rfl, -⟩ := g3
    obtain ⟨-, rfl⟩ := K.tk g5 zwk_13
    obtain ⟨-, rfl⟩ := K.tk g7 zwk_14
    exact absurd (K.tk g9 zwk_15).1 h10
theorem sp_1_etttf (a0 : Nat) (a1 : Nat) (σ : zSg) (τ1 : zSg) (r1 : Int32) (τ3 : zSg) (r3 : Int32) (τ5 : zSg) (r5 : Int32) (τ7 : zSg) (r7 : Int32) (τ15 : zSg) (r15 : Int32) (τ16 : zSg) (g1 : p_10 (q_r (σ.1 a0 1)) σ r1 τ1) (h2 : r1.toInt = (0 : Int)) (g3 : p_103 (q_r (τ1.1 a0 2)) τ1 r3 τ3) (h4 : r3.toInt = (0 : Int)) (g5 : p_91 a1 (zB + 13) τ3 r5 τ5) (h6 : r5.toInt = (0 : Int)) (g7 : p_91 a1 (zB + 14) τ5 r7 τ7) (h8 : r7.toInt ≠ (0 : Int)) (g15 : p_6 a1 τ7 r15 τ15) (g16 : p_29 a0 r15 (Int32.ofInt (-1)) τ15 τ16) :
    p_1 (a0) (a1) σ τ16 := by
  rintro rfl rfl b E
  refine ⟨fun A nf nt H K => ?_, fun F K => ?_⟩
  · obtain ⟨rfl, r1, r2⟩ := hr_f K g1
    have n6 := r2 h2
    obtain ⟨rfl, r3, r4⟩ := hr_t K g3
    have n8 := r4 h4
    obtain ⟨-, -, v⟩ := K.tk g5 zwk_13 qsi_13
    obtain ⟨e1, rfl⟩ := v h6
    obtain ⟨f1, u, -⟩ := K.tk g7 zwk_14 qsi_14
    obtain ⟨A1, e, K1⟩ := u h8
    have hl : dLine b E nf nt A = dLk b E nf nt A A1 2 := dLine_at 2 e rfl (dWs_n 2 (by omega) _ rfl)
    rw [hl]
    obtain ⟨f2, K2⟩ := (g15 rfl b E).1 A1 nf nt H K1
    unfold dLk
    cases h2 : dH b E A1 with
    | inr F =>
      rw [h2] at K2
      obtain ⟨f3, K3⟩ := K2.gh g16
      exact ⟨(f1.tr f2).tr f3, K3⟩
    | inl q =>
      obtain ⟨A2, q⟩ := q
      rw [h2] at K2
      obtain ⟨eq, K2⟩ := K2
      subst eq
      obtain ⟨f3, K3⟩ := K2.gh g16
      exact ⟨(f1.tr f2).tr f3, K3⟩
  · obtain ⟨rfl, -⟩ := g1
    obtain ⟨rfl, -⟩ := g3
    obtain ⟨-, rfl⟩ := K.tk g5 zwk_13
    exact absurd (K.tk g7 zwk_14).1 h8
theorem sp_1_ettf (a0 : Nat) (a1 : Nat) (σ : zSg) (τ1 : zSg) (r1 : Int32) (τ3 : zSg) (r3 : Int32) (τ5 : zSg) (r5 : Int32) (τ17 : zSg) (r17 : Int32) (τ18 : zSg) (r18 : Int32) (τ19 : zSg) (g1 : p_10 (q_r (σ.1 a0 1)) σ r1 τ1) (h2 : r1.toInt = (0 : Int)) (g3 : p_103 (q_r (τ1.1 a0 2)) τ1 r3 τ3) (h4 : r3.toInt = (0 : Int)) (g5 : p_91 a1 (zB + 13) τ3 r5 τ5) (h6 : r5.toInt ≠ (0 : Int)) (g17 : p_5 a0 a1 τ5 r17 τ17) (g18 : p_6 a1 τ17 r18 τ18) (g19 : p_29 a0 r18 r17 τ18 τ19) :
    p_1 (a0) (a1) σ τ19 := by
  rintro rfl rfl b E
  refine ⟨fun A nf nt H K => ?_, fun F K => ?_⟩
  · obtain ⟨rfl, r1, r2⟩ := hr_f K g1
    have n6 := r2 h2
    obtain ⟨rfl, r3, r4⟩ := hr_t K g3
    have n8 := r4 h4
    obtain ⟨f1, u, -⟩ := K.tk g5 zwk_13 qsi_13
    obtain ⟨A1, e, K1⟩ := u h6
    have hl : dLine b E nf nt A = dLk b E nf nt A A1 1 := dLine_at 1 e rfl (dWs_n 1 (by omega) _ rfl)
    rw [hl]
    obtain ⟨f2, ⟨A2, f, h2, e2, K2⟩ | ⟨h2, K2⟩⟩ := (g17 rfl rfl b E).1 A1 nf nt H K1
    · obtain ⟨f3, K3⟩ := (g18 rfl b E).1 A2 nf nt H K2
      unfold dLk dHf
      rw [h2]
      dsimp only
      cases h3 : dH b E A2 with
      | inr F =>
        rw [h3] at K3
        obtain ⟨f4, K4⟩ := K3.gh g19
        exact ⟨((f1.tr f2).tr f3).tr f4, K4⟩
      | inl q =>
        obtain ⟨A3, q⟩ := q
        rw [h3] at K3
        obtain ⟨eq, K3⟩ := K3
        subst eq
        subst e2
        have := tn_rg h2
        obtain ⟨f4, K4⟩ := K3.gh g19
        exact ⟨((f1.tr f2).tr f3).tr f4, K4⟩
    · obtain ⟨f3, K3⟩ := (g18 rfl b E).2 A1 K2
      obtain ⟨f4, K4⟩ := K3.gh g19
      unfold dLk dHf
      rw [h2]
      exact ⟨((f1.tr f2).tr f3).tr f4, K4⟩
  · obtain ⟨rfl, -⟩ := g1
    obtain ⟨rfl, -⟩ := g3
    exact absurd (K.tk g5 zwk_13).1 h6
theorem sp_1_etftttt (a0 : Nat) (a1 : Nat) (σ : zSg) (τ1 : zSg) (r1 : Int32) (τ3 : zSg) (r3 : Int32) (τ20 : zSg) (r20 : Int32) (τ22 : zSg) (r22 : Int32) (τ24 : zSg) (r24 : Int32) (τ26 : zSg) (r26 : Int32) (τ28 : zSg) (g1 : p_10 (q_r (σ.1 a0 1)) σ r1 τ1) (h2 : r1.toInt = (0 : Int)) (g3 : p_103 (q_r (τ1.1 a0 2)) τ1 r3 τ3) (h4 : r3.toInt ≠ (0 : Int)) (g20 : p_91 a1 (zB + 12) τ3 r20 τ20) (h21 : r20.toInt = (0 : Int)) (g22 : p_91 a1 (zB + 13) τ20 r22 τ22) (h23 : r22.toInt = (0 : Int)) (g24 : p_91 a1 (zB + 14) τ22 r24 τ24) (h25 : r24.toInt = (0 : Int)) (g26 : p_91 a1 (zB + 15) τ24 r26 τ26) (h27 : r26.toInt = (0 : Int)) (g28 : p_2 a0 a1 τ26 τ28) :
    p_1 (a0) (a1) σ τ28 := by
  rintro rfl rfl b E
  refine ⟨fun A nf nt H K => ?_, fun F K => ?_⟩
  · obtain ⟨rfl, r1, r2⟩ := hr_f K g1
    have n6 := r2 h2
    obtain ⟨rfl, r3, r4⟩ := hr_t K g3
    obtain ⟨-, -, v⟩ := K.tk g20 zwk_12 qsi_12
    obtain ⟨e3, rfl⟩ := v h21
    obtain ⟨-, -, v⟩ := K.tk g22 zwk_13 qsi_13
    obtain ⟨e1, rfl⟩ := v h23
    obtain ⟨-, -, v⟩ := K.tk g24 zwk_14 qsi_14
    obtain ⟨e2, rfl⟩ := v h25
    obtain ⟨-, -, v⟩ := K.tk g26 zwk_15 qsi_15
    obtain ⟨e4, rfl⟩ := v h27
    obtain ⟨f1, ⟨i, s, A1, i1, i2, i3, e, K1⟩ | ⟨hno, K1⟩⟩ := (g28 rfl rfl b E).1 A nf nt H K
    · rw [dLine_at i e i3 (dWs_n i i2 s i3)]
      exact ⟨f1, K1⟩
    · have hd : dLine b E nf nt A = .inr A := by
        cases q0 : tw b E wFamily A with
        | some A1 =>
          have hl : dLine b E nf nt A = dLk b E nf nt A A1 0 := dLine_at 0 q0 rfl (dWs_n 0 (by omega) _ rfl)
          rw [hl, dLk_0, if_pos n6]
        | none =>
        refine dLine_no (fun s hs => ?_)
        simp only [dWs, List.mem_cons, List.not_mem_nil, or_false] at hs
        rcases hs with rfl | rfl | rfl | rfl | rfl | rfl | rfl | rfl | rfl | rfl
        · exact q0
        · exact e1
        · exact e2
        · exact e3
        · exact e4
        · exact hno wCold (by simp only [List.mem_cons, true_or, or_true])
        · exact hno wFine (by simp only [List.mem_cons, true_or, or_true])
        · exact hno wPrice (by simp only [List.mem_cons, true_or, or_true])
        · exact hno wGuests (by simp only [List.mem_cons, true_or, or_true])
        · exact hno wHour (by simp only [List.mem_cons, true_or, or_true])
      rw [hd]
      exact ⟨f1, K1⟩
  · obtain ⟨rfl, -⟩ := g1
    obtain ⟨rfl, -⟩ := g3
    obtain ⟨-, rfl⟩ := K.tk g20 zwk_12
    obtain ⟨-, rfl⟩ := K.tk g22 zwk_13
    obtain ⟨-, rfl⟩ := K.tk g24 zwk_14
    obtain ⟨-, rfl⟩ := K.tk g26 zwk_15
    exact (g28 rfl rfl b E).2 F K
theorem sp_1_etftttf (a0 : Nat) (a1 : Nat) (σ : zSg) (τ1 : zSg) (r1 : Int32) (τ3 : zSg) (r3 : Int32) (τ20 : zSg) (r20 : Int32) (τ22 : zSg) (r22 : Int32) (τ24 : zSg) (r24 : Int32) (τ26 : zSg) (r26 : Int32) (τ29 : zSg) (r29 : Int32) (τ30 : zSg) (r30 : Int32) (τ31 : zSg) (g1 : p_10 (q_r (σ.1 a0 1)) σ r1 τ1) (h2 : r1.toInt = (0 : Int)) (g3 : p_103 (q_r (τ1.1 a0 2)) τ1 r3 τ3) (h4 : r3.toInt ≠ (0 : Int)) (g20 : p_91 a1 (zB + 12) τ3 r20 τ20) (h21 : r20.toInt = (0 : Int)) (g22 : p_91 a1 (zB + 13) τ20 r22 τ22) (h23 : r22.toInt = (0 : Int)) (g24 : p_91 a1 (zB + 14) τ22 r24 τ24) (h25 : r24.toInt = (0 : Int)) (g26 : p_91 a1 (zB + 15) τ24 r26 τ26) (h27 : r26.toInt ≠ (0 : Int)) (g29 : p_5 a0 a1 τ26 r29 τ29) (g30 : p_6 a1 τ29 r30 τ30) (g31 : p_13 (q_r (τ29.1 a0 1)) r29 r30 τ30 τ31) :
    p_1 (a0) (a1) σ τ31 := by
  rintro rfl rfl b E
  refine ⟨fun A nf nt H K => ?_, fun F K => ?_⟩
  · obtain ⟨rfl, r1, r2⟩ := hr_f K g1
    have n6 := r2 h2
    obtain ⟨rfl, r3, r4⟩ := hr_t K g3
    obtain ⟨-, -, v⟩ := K.tk g20 zwk_12 qsi_12
    obtain ⟨e3, rfl⟩ := v h21
    obtain ⟨-, -, v⟩ := K.tk g22 zwk_13 qsi_13
    obtain ⟨e1, rfl⟩ := v h23
    obtain ⟨-, -, v⟩ := K.tk g24 zwk_14 qsi_14
    obtain ⟨e2, rfl⟩ := v h25
    obtain ⟨f1, u, -⟩ := K.tk g26 zwk_15 qsi_15
    obtain ⟨A1, e, K1⟩ := u h27
    have hl : dLine b E nf nt A = dLk b E nf nt A A1 4 := dLine_at 4 e rfl (dWs_n 4 (by omega) _ rfl)
    rw [hl]
    have k1 : q_r (τ29.1 21 1) = 23 := by
          rcases (g29 rfl rfl b E).1 A1 nf nt H K1 with ⟨-, ⟨A9, v9, -, -, K9⟩ | ⟨-, K9⟩⟩
          · exact K9.k.1
          · exact K9.k.1
    rw [k1] at g31
    obtain ⟨f2, ⟨A2, f, h2, e2, K2⟩ | ⟨h2, K2⟩⟩ := (g29 rfl rfl b E).1 A1 nf nt H K1
    · obtain ⟨f3, K3⟩ := (g30 rfl b E).1 A2 nf nt H K2
      unfold dLk dHf
      rw [h2]
      dsimp only
      cases h3 : dH b E A2 with
      | inr F =>
        rw [h3] at K3
        obtain ⟨f4, K4⟩ := K3.aw g31
        exact ⟨((f1.tr f2).tr f3).tr f4, K4⟩
      | inl q =>
        obtain ⟨A3, q⟩ := q
        rw [h3] at K3
        obtain ⟨eq, K3⟩ := K3
        subst eq
        subst e2
        have := tn_rg h2
        obtain ⟨f4, K4⟩ := K3.aw g31 (by omega)
        exact ⟨((f1.tr f2).tr f3).tr f4, K4⟩
    · obtain ⟨f3, K3⟩ := (g30 rfl b E).2 A1 K2
      obtain ⟨f4, K4⟩ := K3.aw g31
      unfold dLk dHf
      rw [h2]
      exact ⟨((f1.tr f2).tr f3).tr f4, K4⟩
  · obtain ⟨rfl, -⟩ := g1
    obtain ⟨rfl, -⟩ := g3
    obtain ⟨-, rfl⟩ := K.tk g20 zwk_12
    obtain ⟨-, rfl⟩ := K.tk g22 zwk_13
    obtain ⟨-, rfl⟩ := K.tk g24 zwk_14
    exact absurd (K.tk g26 zwk_15).1 h27
theorem sp_1_etfttf (a0 : Nat) (a1 : Nat) (σ : zSg) (τ1 : zSg) (r1 : Int32) (τ3 : zSg) (r3 : Int32) (τ20 : zSg) (r20 : Int32) (τ22 : zSg) (r22 : Int32) (τ24 : zSg) (r24 : Int32) (τ32 : zSg) (r32 : Int32) (τ33 : zSg) (g1 : p_10 (q_r (σ.1 a0 1)) σ r1 τ1) (h2 : r1.toInt = (0 : Int)) (g3 : p_103 (q_r (τ1.1 a0 2)) τ1 r3 τ3) (h4 : r3.toInt ≠ (0 : Int)) (g20 : p_91 a1 (zB + 12) τ3 r20 τ20) (h21 : r20.toInt = (0 : Int)) (g22 : p_91 a1 (zB + 13) τ20 r22 τ22) (h23 : r22.toInt = (0 : Int)) (g24 : p_91 a1 (zB + 14) τ22 r24 τ24) (h25 : r24.toInt ≠ (0 : Int)) (g32 : p_6 a1 τ24 r32 τ32) (g33 : p_29 a0 r32 (Int32.ofInt (-1)) τ32 τ33) :
    p_1 (a0) (a1) σ τ33 := by
  rintro rfl rfl b E
  refine ⟨fun A nf nt H K => ?_, fun F K => ?_⟩
  · obtain ⟨rfl, r1, r2⟩ := hr_f K g1
    have n6 := r2 h2
    obtain ⟨rfl, r3, r4⟩ := hr_t K g3
    obtain ⟨-, -, v⟩ := K.tk g20 zwk_12 qsi_12
    obtain ⟨e3, rfl⟩ := v h21
    obtain ⟨-, -, v⟩ := K.tk g22 zwk_13 qsi_13
    obtain ⟨e1, rfl⟩ := v h23
    obtain ⟨f1, u, -⟩ := K.tk g24 zwk_14 qsi_14
    obtain ⟨A1, e, K1⟩ := u h25
    have hl : dLine b E nf nt A = dLk b E nf nt A A1 2 := dLine_at 2 e rfl (dWs_n 2 (by omega) _ rfl)
    rw [hl]
    obtain ⟨f2, K2⟩ := (g32 rfl b E).1 A1 nf nt H K1
    unfold dLk
    cases h2 : dH b E A1 with
    | inr F =>
      rw [h2] at K2
      obtain ⟨f3, K3⟩ := K2.gh g33
      exact ⟨(f1.tr f2).tr f3, K3⟩
    | inl q =>
      obtain ⟨A2, q⟩ := q
      rw [h2] at K2
      obtain ⟨eq, K2⟩ := K2
      subst eq
      obtain ⟨f3, K3⟩ := K2.gh g33
      exact ⟨(f1.tr f2).tr f3, K3⟩
  · obtain ⟨rfl, -⟩ := g1
    obtain ⟨rfl, -⟩ := g3
    obtain ⟨-, rfl⟩ := K.tk g20 zwk_12
    obtain ⟨-, rfl⟩ := K.tk g22 zwk_13
    exact absurd (K.tk g24 zwk_14).1 h25
theorem sp_1_etftf (a0 : Nat) (a1 : Nat) (σ : zSg) (τ1 : zSg) (r1 : Int32) (τ3 : zSg) (r3 : Int32) (τ20 : zSg) (r20 : Int32) (τ22 : zSg) (r22 : Int32) (τ34 : zSg) (r34 : Int32) (τ35 : zSg) (r35 : Int32) (τ36 : zSg) (g1 : p_10 (q_r (σ.1 a0 1)) σ r1 τ1) (h2 : r1.toInt = (0 : Int)) (g3 : p_103 (q_r (τ1.1 a0 2)) τ1 r3 τ3) (h4 : r3.toInt ≠ (0 : Int)) (g20 : p_91 a1 (zB + 12) τ3 r20 τ20) (h21 : r20.toInt = (0 : Int)) (g22 : p_91 a1 (zB + 13) τ20 r22 τ22) (h23 : r22.toInt ≠ (0 : Int)) (g34 : p_5 a0 a1 τ22 r34 τ34) (g35 : p_6 a1 τ34 r35 τ35) (g36 : p_29 a0 r35 r34 τ35 τ36) :
    p_1 (a0) (a1) σ τ36 := by
  rintro rfl rfl b E
  refine ⟨fun A nf nt H K => ?_, fun F K => ?_⟩
  · obtain ⟨rfl, r1, r2⟩ := hr_f K g1
    have n6 := r2 h2
    obtain ⟨rfl, r3, r4⟩ := hr_t K g3
    obtain ⟨-, -, v⟩ := K.tk g20 zwk_12 qsi_12
    obtain ⟨e3, rfl⟩ := v h21
    obtain ⟨f1, u, -⟩ := K.tk g22 zwk_13 qsi_13
    obtain ⟨A1, e, K1⟩ := u h23
    have hl : dLine b E nf nt A = dLk b E nf nt A A1 1 := dLine_at 1 e rfl (dWs_n 1 (by omega) _ rfl)
    rw [hl]
    obtain ⟨f2, ⟨A2, f, h2, e2, K2⟩ | ⟨h2, K2⟩⟩ := (g34 rfl rfl b E).1 A1 nf nt H K1
    · obtain ⟨f3, K3⟩ := (g35 rfl b E).1 A2 nf nt H K2
      unfold dLk dHf
      rw [h2]
      dsimp only
      cases h3 : dH b E A2 with
      | inr F =>
        rw [h3] at K3
        obtain ⟨f4, K4⟩ := K3.gh g36
        exact ⟨((f1.tr f2).tr f3).tr f4, K4⟩
      | inl q =>
        obtain ⟨A3, q⟩ := q
        rw [h3] at K3
        obtain ⟨eq, K3⟩ := K3
        subst eq
        subst e2
        have := tn_rg h2
        obtain ⟨f4, K4⟩ := K3.gh g36
        exact ⟨((f1.tr f2).tr f3).tr f4, K4⟩
    · obtain ⟨f3, K3⟩ := (g35 rfl b E).2 A1 K2
      obtain ⟨f4, K4⟩ := K3.gh g36
      unfold dLk dHf
      rw [h2]
      exact ⟨((f1.tr f2).tr f3).tr f4, K4⟩
  · obtain ⟨rfl, -⟩ := g1
    obtain ⟨rfl, -⟩ := g3
    obtain ⟨-, rfl⟩ := K.tk g20 zwk_12
    exact absurd (K.tk g22 zwk_13).1 h23
theorem sp_1_etff (a0 : Nat) (a1 : Nat) (σ : zSg) (τ1 : zSg) (r1 : Int32) (τ3 : zSg) (r3 : Int32) (τ20 : zSg) (r20 : Int32) (τ37 : zSg) (g1 : p_10 (q_r (σ.1 a0 1)) σ r1 τ1) (h2 : r1.toInt = (0 : Int)) (g3 : p_103 (q_r (τ1.1 a0 2)) τ1 r3 τ3) (h4 : r3.toInt ≠ (0 : Int)) (g20 : p_91 a1 (zB + 12) τ3 r20 τ20) (h21 : r20.toInt ≠ (0 : Int)) (g37 : p_4 a0 a1 τ20 τ37) :
    p_1 (a0) (a1) σ τ37 := by
  rintro rfl rfl b E
  refine ⟨fun A nf nt H K => ?_, fun F K => ?_⟩
  · obtain ⟨rfl, r1, r2⟩ := hr_f K g1
    have n6 := r2 h2
    obtain ⟨rfl, r3, r4⟩ := hr_t K g3
    have n8 := r3 h4
    obtain ⟨f1, u, -⟩ := K.tk g20 zwk_12 qsi_12
    obtain ⟨A1, e, K1⟩ := u h21
    have hl : dLine b E nf nt A = dLk b E nf nt A A1 3 := dLine_at 3 e rfl (dWs_n 3 (by omega) _ rfl)
    rw [hl, dLk_3, if_neg (by omega)]
    obtain ⟨f2, K2⟩ := (g37 rfl rfl b E).1 A1 nf nt H K1 n8
    exact ⟨f1.tr f2, K2⟩
  · obtain ⟨rfl, -⟩ := g1
    obtain ⟨rfl, -⟩ := g3
    exact absurd (K.tk g20 zwk_12).1 h21
theorem sp_1_efttttt (a0 : Nat) (a1 : Nat) (σ : zSg) (τ1 : zSg) (r1 : Int32) (τ38 : zSg) (r38 : Int32) (τ40 : zSg) (r40 : Int32) (τ42 : zSg) (r42 : Int32) (τ44 : zSg) (r44 : Int32) (τ46 : zSg) (r46 : Int32) (τ48 : zSg) (g1 : p_10 (q_r (σ.1 a0 1)) σ r1 τ1) (h2 : r1.toInt ≠ (0 : Int)) (g38 : p_91 a1 (zB + 11) τ1 r38 τ38) (h39 : r38.toInt = (0 : Int)) (g40 : p_103 (q_r (τ38.1 a0 2)) τ38 r40 τ40) (h41 : r40.toInt = (0 : Int)) (g42 : p_91 a1 (zB + 13) τ40 r42 τ42) (h43 : r42.toInt = (0 : Int)) (g44 : p_91 a1 (zB + 14) τ42 r44 τ44) (h45 : r44.toInt = (0 : Int)) (g46 : p_91 a1 (zB + 15) τ44 r46 τ46) (h47 : r46.toInt = (0 : Int)) (g48 : p_2 a0 a1 τ46 τ48) :
    p_1 (a0) (a1) σ τ48 := by
  rintro rfl rfl b E
  refine ⟨fun A nf nt H K => ?_, fun F K => ?_⟩
  · obtain ⟨rfl, r1, r2⟩ := hr_f K g1
    obtain ⟨-, -, v⟩ := K.tk g38 zwk_11 qsi_11
    obtain ⟨e0, rfl⟩ := v h39
    obtain ⟨rfl, r3, r4⟩ := hr_t K g40
    have n8 := r4 h41
    obtain ⟨-, -, v⟩ := K.tk g42 zwk_13 qsi_13
    obtain ⟨e1, rfl⟩ := v h43
    obtain ⟨-, -, v⟩ := K.tk g44 zwk_14 qsi_14
    obtain ⟨e2, rfl⟩ := v h45
    obtain ⟨-, -, v⟩ := K.tk g46 zwk_15 qsi_15
    obtain ⟨e4, rfl⟩ := v h47
    obtain ⟨f1, ⟨i, s, A1, i1, i2, i3, e, K1⟩ | ⟨hno, K1⟩⟩ := (g48 rfl rfl b E).1 A nf nt H K
    · rw [dLine_at i e i3 (dWs_n i i2 s i3)]
      exact ⟨f1, K1⟩
    · have hd : dLine b E nf nt A = .inr A := by
        cases q3 : tw b E wThing A with
        | some A1 =>
          have hl : dLine b E nf nt A = dLk b E nf nt A A1 3 := dLine_at 3 q3 rfl (dWs_n 3 (by omega) _ rfl)
          rw [hl, dLk_3, if_pos n8]
        | none =>
        refine dLine_no (fun s hs => ?_)
        simp only [dWs, List.mem_cons, List.not_mem_nil, or_false] at hs
        rcases hs with rfl | rfl | rfl | rfl | rfl | rfl | rfl | rfl | rfl | rfl
        · exact e0
        · exact e1
        · exact e2
        · exact q3
        · exact e4
        · exact hno wCold (by simp only [List.mem_cons, true_or, or_true])
        · exact hno wFine (by simp only [List.mem_cons, true_or, or_true])
        · exact hno wPrice (by simp only [List.mem_cons, true_or, or_true])
        · exact hno wGuests (by simp only [List.mem_cons, true_or, or_true])
        · exact hno wHour (by simp only [List.mem_cons, true_or, or_true])
      rw [hd]
      exact ⟨f1, K1⟩
  · obtain ⟨rfl, -⟩ := g1
    obtain ⟨-, rfl⟩ := K.tk g38 zwk_11
    obtain ⟨rfl, -⟩ := g40
    obtain ⟨-, rfl⟩ := K.tk g42 zwk_13
    obtain ⟨-, rfl⟩ := K.tk g44 zwk_14
    obtain ⟨-, rfl⟩ := K.tk g46 zwk_15
    exact (g48 rfl rfl b E).2 F K
theorem sp_1_efttttf (a0 : Nat) (a1 : Nat) (σ : zSg) (τ1 : zSg) (r1 : Int32) (τ38 : zSg) (r38 : Int32) (τ40 : zSg) (r40 : Int32) (τ42 : zSg) (r42 : Int32) (τ44 : zSg) (r44 : Int32) (τ46 : zSg) (r46 : Int32) (τ49 : zSg) (r49 : Int32) (τ50 : zSg) (r50 : Int32) (τ51 : zSg) (g1 : p_10 (q_r (σ.1 a0 1)) σ r1 τ1) (h2 : r1.toInt ≠ (0 : Int)) (g38 : p_91 a1 (zB + 11) τ1 r38 τ38) (h39 : r38.toInt = (0 : Int)) (g40 : p_103 (q_r (τ38.1 a0 2)) τ38 r40 τ40) (h41 : r40.toInt = (0 : Int)) (g42 : p_91 a1 (zB + 13) τ40 r42 τ42) (h43 : r42.toInt = (0 : Int)) (g44 : p_91 a1 (zB + 14) τ42 r44 τ44) (h45 : r44.toInt = (0 : Int)) (g46 : p_91 a1 (zB + 15) τ44 r46 τ46) (h47 : r46.toInt ≠ (0 : Int)) (g49 : p_5 a0 a1 τ46 r49 τ49) (g50 : p_6 a1 τ49 r50 τ50) (g51 : p_13 (q_r (τ49.1 a0 1)) r49 r50 τ50 τ51) :
    p_1 (a0) (a1) σ τ51 := by
  rintro rfl rfl b E
  refine ⟨fun A nf nt H K => ?_, fun F K => ?_⟩
  · obtain ⟨rfl, r1, r2⟩ := hr_f K g1
    obtain ⟨-, -, v⟩ := K.tk g38 zwk_11 qsi_11
    obtain ⟨e0, rfl⟩ := v h39
    obtain ⟨rfl, r3, r4⟩ := hr_t K g40
    have n8 := r4 h41
    obtain ⟨-, -, v⟩ := K.tk g42 zwk_13 qsi_13
    obtain ⟨e1, rfl⟩ := v h43
    obtain ⟨-, -, v⟩ := K.tk g44 zwk_14 qsi_14
    obtain ⟨e2, rfl⟩ := v h45
    obtain ⟨f1, u, -⟩ := K.tk g46 zwk_15 qsi_15
    obtain ⟨A1, e, K1⟩ := u h47
    have hl : dLine b E nf nt A = dLk b E nf nt A A1 4 := dLine_at 4 e rfl (dWs_n 4 (by omega) _ rfl)
    rw [hl]
    have k1 : q_r (τ49.1 21 1) = 23 := by
          rcases (g49 rfl rfl b E).1 A1 nf nt H K1 with ⟨-, ⟨A9, v9, -, -, K9⟩ | ⟨-, K9⟩⟩
          · exact K9.k.1
          · exact K9.k.1
    rw [k1] at g51
    obtain ⟨f2, ⟨A2, f, h2, e2, K2⟩ | ⟨h2, K2⟩⟩ := (g49 rfl rfl b E).1 A1 nf nt H K1
    · obtain ⟨f3, K3⟩ := (g50 rfl b E).1 A2 nf nt H K2
      unfold dLk dHf
      rw [h2]
      dsimp only
      cases h3 : dH b E A2 with
      | inr F =>
        rw [h3] at K3
        obtain ⟨f4, K4⟩ := K3.aw g51
        exact ⟨((f1.tr f2).tr f3).tr f4, K4⟩
      | inl q =>
        obtain ⟨A3, q⟩ := q
        rw [h3] at K3
        obtain ⟨eq, K3⟩ := K3
        subst eq
        subst e2
        have := tn_rg h2
        obtain ⟨f4, K4⟩ := K3.aw g51 (by omega)
        exact ⟨((f1.tr f2).tr f3).tr f4, K4⟩
    · obtain ⟨f3, K3⟩ := (g50 rfl b E).2 A1 K2
      obtain ⟨f4, K4⟩ := K3.aw g51
      unfold dLk dHf
      rw [h2]
      exact ⟨((f1.tr f2).tr f3).tr f4, K4⟩
  · obtain ⟨rfl, -⟩ := g1
    obtain ⟨-, rfl⟩ := K.tk g38 zwk_11
    obtain ⟨rfl, -⟩ := g40
    obtain ⟨-, rfl⟩ := K.tk g42 zwk_13
    obtain ⟨-, rfl⟩ := K.tk g44 zwk_14
    exact absurd (K.tk g46 zwk_15).1 h47
theorem sp_1_eftttf (a0 : Nat) (a1 : Nat) (σ : zSg) (τ1 : zSg) (r1 : Int32) (τ38 : zSg) (r38 : Int32) (τ40 : zSg) (r40 : Int32) (τ42 : zSg) (r42 : Int32) (τ44 : zSg) (r44 : Int32) (τ52 : zSg) (r52 : Int32) (τ53 : zSg) (g1 : p_10 (q_r (σ.1 a0 1)) σ r1 τ1) (h2 : r1.toInt ≠ (0 : Int)) (g38 : p_91 a1 (zB + 11) τ1 r38 τ38) (h39 : r38.toInt = (0 : Int)) (g40 : p_103 (q_r (τ38.1 a0 2)) τ38 r40 τ40) (h41 : r40.toInt = (0 : Int)) (g42 : p_91 a1 (zB + 13) τ40 r42 τ42) (h43 : r42.toInt = (0 : Int)) (g44 : p_91 a1 (zB + 14) τ42 r44 τ44) (h45 : r44.toInt ≠ (0 : Int)) (g52 : p_6 a1 τ44 r52 τ52) (g53 : p_29 a0 r52 (Int32.ofInt (-1)) τ52 τ53) :
    p_1 (a0) (a1) σ τ53 := by
  rintro rfl rfl b E
  refine ⟨fun A nf nt H K => ?_, fun F K => ?_⟩
  · obtain ⟨rfl, r1, r2⟩ := hr_f K g1
    obtain ⟨-, -, v⟩ := K.tk g38 zwk_11 qsi_11
    obtain ⟨e0, rfl⟩ := v h39
    obtain ⟨rfl, r3, r4⟩ := hr_t K g40
    have n8 := r4 h41
    obtain ⟨-, -, v⟩ := K.tk g42 zwk_13 qsi_13
    obtain ⟨e1, rfl⟩ := v h43
    obtain ⟨f1, u, -⟩ := K.tk g44 zwk_14 qsi_14
    obtain ⟨A1, e, K1⟩ := u h45
    have hl : dLine b E nf nt A = dLk b E nf nt A A1 2 := dLine_at 2 e rfl (dWs_n 2 (by omega) _ rfl)
    rw [hl]
    obtain ⟨f2, K2⟩ := (g52 rfl b E).1 A1 nf nt H K1
    unfold dLk
    cases h2 : dH b E A1 with
    | inr F =>
      rw [h2] at K2
      obtain ⟨f3, K3⟩ := K2.gh g53
      exact ⟨(f1.tr f2).tr f3, K3⟩
    | inl q =>
      obtain ⟨A2, q⟩ := q
      rw [h2] at K2
      obtain ⟨eq, K2⟩ := K2
      subst eq
      obtain ⟨f3, K3⟩ := K2.gh g53
      exact ⟨(f1.tr f2).tr f3, K3⟩
  · obtain ⟨rfl, -⟩ := g1
    obtain ⟨-, rfl⟩ := K.tk g38 zwk_11
    obtain ⟨rfl, -⟩ := g40
    obtain ⟨-, rfl⟩ := K.tk g42 zwk_13
    exact absurd (K.tk g44 zwk_14).1 h45
theorem sp_1_efttf (a0 : Nat) (a1 : Nat) (σ : zSg) (τ1 : zSg) (r1 : Int32) (τ38 : zSg) (r38 : Int32) (τ40 : zSg) (r40 : Int32) (τ42 : zSg) (r42 : Int32) (τ54 : zSg) (r54 : Int32) (τ55 : zSg) (r55 : Int32) (τ56 : zSg) (g1 : p_10 (q_r (σ.1 a0 1)) σ r1 τ1) (h2 : r1.toInt ≠ (0 : Int)) (g38 : p_91 a1 (zB + 11) τ1 r38 τ38) (h39 : r38.toInt = (0 : Int)) (g40 : p_103 (q_r (τ38.1 a0 2)) τ38 r40 τ40) (h41 : r40.toInt = (0 : Int)) (g42 : p_91 a1 (zB + 13) τ40 r42 τ42) (h43 : r42.toInt ≠ (0 : Int)) (g54 : p_5 a0 a1 τ42 r54 τ54) (g55 : p_6 a1 τ54 r55 τ55) (g56 : p_29 a0 r55 r54 τ55 τ56) :
    p_1 (a0) (a1) σ τ56 := by
  rintro rfl rfl b E
  refine ⟨fun A nf nt H K => ?_, fun F K => ?_⟩
  · obtain ⟨rfl, r1, r2⟩ := hr_f K g1
    obtain ⟨-, -, v⟩ := K.tk g38 zwk_11 qsi_11
    obtain ⟨e0, rfl⟩ := v h39
    obtain ⟨rfl, r3, r4⟩ := hr_t K g40
    have n8 := r4 h41
    obtain ⟨f1, u, -⟩ := K.tk g42 zwk_13 qsi_13
    obtain ⟨A1, e, K1⟩ := u h43
    have hl : dLine b E nf nt A = dLk b E nf nt A A1 1 := dLine_at 1 e rfl (dWs_n 1 (by omega) _ rfl)
    rw [hl]
    obtain ⟨f2, ⟨A2, f, h2, e2, K2⟩ | ⟨h2, K2⟩⟩ := (g54 rfl rfl b E).1 A1 nf nt H K1
    · obtain ⟨f3, K3⟩ := (g55 rfl b E).1 A2 nf nt H K2
      unfold dLk dHf
      rw [h2]
      dsimp only
      cases h3 : dH b E A2 with
      | inr F =>
        rw [h3] at K3
        obtain ⟨f4, K4⟩ := K3.gh g56
        exact ⟨((f1.tr f2).tr f3).tr f4, K4⟩
      | inl q =>
        obtain ⟨A3, q⟩ := q
        rw [h3] at K3
        obtain ⟨eq, K3⟩ := K3
        subst eq
        subst e2
        have := tn_rg h2
        obtain ⟨f4, K4⟩ := K3.gh g56
        exact ⟨((f1.tr f2).tr f3).tr f4, K4⟩
    · obtain ⟨f3, K3⟩ := (g55 rfl b E).2 A1 K2
      obtain ⟨f4, K4⟩ := K3.gh g56
      unfold dLk dHf
      rw [h2]
      exact ⟨((f1.tr f2).tr f3).tr f4, K4⟩
  · obtain ⟨rfl, -⟩ := g1
    obtain ⟨-, rfl⟩ := K.tk g38 zwk_11
    obtain ⟨rfl, -⟩ := g40
    exact absurd (K.tk g42 zwk_13).1 h43
theorem sp_1_eftftttt (a0 : Nat) (a1 : Nat) (σ : zSg) (τ1 : zSg) (r1 : Int32) (τ38 : zSg) (r38 : Int32) (τ40 : zSg) (r40 : Int32) (τ57 : zSg) (r57 : Int32) (τ59 : zSg) (r59 : Int32) (τ61 : zSg) (r61 : Int32) (τ63 : zSg) (r63 : Int32) (τ65 : zSg) (g1 : p_10 (q_r (σ.1 a0 1)) σ r1 τ1) (h2 : r1.toInt ≠ (0 : Int)) (g38 : p_91 a1 (zB + 11) τ1 r38 τ38) (h39 : r38.toInt = (0 : Int)) (g40 : p_103 (q_r (τ38.1 a0 2)) τ38 r40 τ40) (h41 : r40.toInt ≠ (0 : Int)) (g57 : p_91 a1 (zB + 12) τ40 r57 τ57) (h58 : r57.toInt = (0 : Int)) (g59 : p_91 a1 (zB + 13) τ57 r59 τ59) (h60 : r59.toInt = (0 : Int)) (g61 : p_91 a1 (zB + 14) τ59 r61 τ61) (h62 : r61.toInt = (0 : Int)) (g63 : p_91 a1 (zB + 15) τ61 r63 τ63) (h64 : r63.toInt = (0 : Int)) (g65 : p_2 a0 a1 τ63 τ65) :
    p_1 (a0) (a1) σ τ65 := by
  rintro rfl rfl b E
  refine ⟨fun A nf nt H K => ?_, fun F K => ?_⟩
  · obtain ⟨rfl, r1, r2⟩ := hr_f K g1
    obtain ⟨-, -, v⟩ := K.tk g38 zwk_11 qsi_11
    obtain ⟨e0, rfl⟩ := v h39
    obtain ⟨rfl, r3, r4⟩ := hr_t K g40
    obtain ⟨-, -, v⟩ := K.tk g57 zwk_12 qsi_12
    obtain ⟨e3, rfl⟩ := v h58
    obtain ⟨-, -, v⟩ := K.tk g59 zwk_13 qsi_13
    obtain ⟨e1, rfl⟩ := v h60
    obtain ⟨-, -, v⟩ := K.tk g61 zwk_14 qsi_14
    obtain ⟨e2, rfl⟩ := v h62
    obtain ⟨-, -, v⟩ := K.tk g63 zwk_15 qsi_15
    obtain ⟨e4, rfl⟩ := v h64
    obtain ⟨f1, ⟨i, s, A1, i1, i2, i3, e, K1⟩ | ⟨hno, K1⟩⟩ := (g65 rfl rfl b E).1 A nf nt H K
    · rw [dLine_at i e i3 (dWs_n i i2 s i3)]
      exact ⟨f1, K1⟩
    · have hd : dLine b E nf nt A = .inr A := by
        refine dLine_no (fun s hs => ?_)
        simp only [dWs, List.mem_cons, List.not_mem_nil, or_false] at hs
        rcases hs with rfl | rfl | rfl | rfl | rfl | rfl | rfl | rfl | rfl | rfl
        · exact e0
        · exact e1
        · exact e2
        · exact e3
        · exact e4
        · exact hno wCold (by simp only [List.mem_cons, true_or, or_true])
        · exact hno wFine (by simp only [List.mem_cons, true_or, or_true])
        · exact hno wPrice (by simp only [List.mem_cons, true_or, or_true])
        · exact hno wGuests (by simp only [List.mem_cons, true_or, or_true])
        · exact hno wHour (by simp only [List.mem_cons, true_or, or_true])
      rw [hd]
      exact ⟨f1, K1⟩
  · obtain ⟨rfl, -⟩ := g1
    obtain ⟨-, rfl⟩ := K.tk g38 zwk_11
    obtain ⟨rfl, -⟩ := g40
    obtain ⟨-, rfl⟩ := K.tk g57 zwk_12
    obtain ⟨-, rfl⟩ := K.tk g59 zwk_13
    obtain ⟨-, rfl⟩ := K.tk g61 zwk_14
    obtain ⟨-, rfl⟩ := K.tk g63 zwk_15
    exact (g65 rfl rfl b E).2 F K
theorem sp_1_eftftttf (a0 : Nat) (a1 : Nat) (σ : zSg) (τ1 : zSg) (r1 : Int32) (τ38 : zSg) (r38 : Int32) (τ40 : zSg) (r40 : Int32) (τ57 : zSg) (r57 : Int32) (τ59 : zSg) (r59 : Int32) (τ61 : zSg) (r61 : Int32) (τ63 : zSg) (r63 : Int32) (τ66 : zSg) (r66 : Int32) (τ67 : zSg) (r67 : Int32) (τ68 : zSg) (g1 : p_10 (q_r (σ.1 a0 1)) σ r1 τ1) (h2 : r1.toInt ≠ (0 : Int)) (g38 : p_91 a1 (zB + 11) τ1 r38 τ38) (h39 : r38.toInt = (0 : Int)) (g40 : p_103 (q_r (τ38.1 a0 2)) τ38 r40 τ40) (h41 : r40.toInt ≠ (0 : Int)) (g57 : p_91 a1 (zB + 12) τ40 r57 τ57) (h58 : r57.toInt = (0 : Int)) (g59 : p_91 a1 (zB + 13) τ57 r59 τ59) (h60 : r59.toInt = (0 : Int)) (g61 : p_91 a1 (zB + 14) τ59 r61 τ61) (h62 : r61.toInt = (0 : Int)) (g63 : p_91 a1 (zB + 15) τ61 r63 τ63) (h64 : r63.toInt ≠ (0 : Int)) (g66 : p_5 a0 a1 τ63 r66 τ66) (g67 : p_6 a1 τ66 r67 τ67) (g68 : p_13 (q_r (τ66.1 a0 1)) r66 r67 τ67 τ68) :
    p_1 (a0) (a1) σ τ68 := by
  rintro rfl rfl b E
  refine ⟨fun A nf nt H K => ?_, fun F K => ?_⟩
  · obtain ⟨rfl, r1, r2⟩ := hr_f K g1
    obtain ⟨-, -, v⟩ := K.tk g38 zwk_11 qsi_11
    obtain ⟨e0, rfl⟩ := v h39
    obtain ⟨rfl, r3, r4⟩ := hr_t K g40
    obtain ⟨-, -, v⟩ := K.tk g57 zwk_12 qsi_12
    obtain ⟨e3, rfl⟩ := v h58
    obtain ⟨-, -, v⟩ := K.tk g59 zwk_13 qsi_13
    obtain ⟨e1, rfl⟩ := v h60
    obtain ⟨-, -, v⟩ := K.tk g61 zwk_14 qsi_14
    obtain ⟨e2, rfl⟩ := v h62
    obtain ⟨f1, u, -⟩ := K.tk g63 zwk_15 qsi_15
    obtain ⟨A1, e, K1⟩ := u h64
    have hl : dLine b E nf nt A = dLk b E nf nt A A1 4 := dLine_at 4 e rfl (dWs_n 4 (by omega) _ rfl)
    rw [hl]
    have k1 : q_r (τ66.1 21 1) = 23 := by
          rcases (g66 rfl rfl b E).1 A1 nf nt H K1 with ⟨-, ⟨A9, v9, -, -, K9⟩ | ⟨-, K9⟩⟩
          · exact K9.k.1
          · exact K9.k.1
    rw [k1] at g68
    obtain ⟨f2, ⟨A2, f, h2, e2, K2⟩ | ⟨h2, K2⟩⟩ := (g66 rfl rfl b E).1 A1 nf nt H K1
    · obtain ⟨f3, K3⟩ := (g67 rfl b E).1 A2 nf nt H K2
      unfold dLk dHf
      rw [h2]
      dsimp only
      cases h3 : dH b E A2 with
      | inr F =>
        rw [h3] at K3
        obtain ⟨f4, K4⟩ := K3.aw g68
        exact ⟨((f1.tr f2).tr f3).tr f4, K4⟩
      | inl q =>
        obtain ⟨A3, q⟩ := q
        rw [h3] at K3
        obtain ⟨eq, K3⟩ := K3
        subst eq
        subst e2
        have := tn_rg h2
        obtain ⟨f4, K4⟩ := K3.aw g68 (by omega)
        exact ⟨((f1.tr f2).tr f3).tr f4, K4⟩
    · obtain ⟨f3, K3⟩ := (g67 rfl b E).2 A1 K2
      obtain ⟨f4, K4⟩ := K3.aw g68
      unfold dLk dHf
      rw [h2]
      exact ⟨((f1.tr f2).tr f3).tr f4, K4⟩
  · obtain ⟨rfl, -⟩ := g1
    obtain ⟨-, rfl⟩ := K.tk g38 zwk_11
    obtain ⟨rfl, -⟩ := g40
    obtain ⟨-, rfl⟩ := K.tk g57 zwk_12
    obtain ⟨-, rfl⟩ := K.tk g59 zwk_13
    obtain ⟨-, rfl⟩ := K.tk g61 zwk_14
    exact absurd (K.tk g63 zwk_15).1 h64
theorem sp_1_eftfttf (a0 : Nat) (a1 : Nat) (σ : zSg) (τ1 : zSg) (r1 : Int32) (τ38 : zSg) (r38 : Int32) (τ40 : zSg) (r40 : Int32) (τ57 : zSg) (r57 : Int32) (τ59 : zSg) (r59 : Int32) (τ61 : zSg) (r61 : Int32) (τ69 : zSg) (r69 : Int32) (τ70 : zSg) (g1 : p_10 (q_r (σ.1 a0 1)) σ r1 τ1) (h2 : r1.toInt ≠ (0 : Int)) (g38 : p_91 a1 (zB + 11) τ1 r38 τ38) (h39 : r38.toInt = (0 : Int)) (g40 : p_103 (q_r (τ38.1 a0 2)) τ38 r40 τ40) (h41 : r40.toInt ≠ (0 : Int)) (g57 : p_91 a1 (zB + 12) τ40 r57 τ57) (h58 : r57.toInt = (0 : Int)) (g59 : p_91 a1 (zB + 13) τ57 r59 τ59) (h60 : r59.toInt = (0 : Int)) (g61 : p_91 a1 (zB + 14) τ59 r61 τ61) (h62 : r61.toInt ≠ (0 : Int)) (g69 : p_6 a1 τ61 r69 τ69) (g70 : p_29 a0 r69 (Int32.ofInt (-1)) τ69 τ70) :
    p_1 (a0) (a1) σ τ70 := by
  rintro rfl rfl b E
  refine ⟨fun A nf nt H K => ?_, fun F K => ?_⟩
  · obtain ⟨rfl, r1, r2⟩ := hr_f K g1
    obtain ⟨-, -, v⟩ := K.tk g38 zwk_11 qsi_11
    obtain ⟨e0, rfl⟩ := v h39
    obtain ⟨rfl, r3, r4⟩ := hr_t K g40
    obtain ⟨-, -, v⟩ := K.tk g57 zwk_12 qsi_12
    obtain ⟨e3, rfl⟩ := v h58
    obtain ⟨-, -, v⟩ := K.tk g59 zwk_13 qsi_13
    obtain ⟨e1, rfl⟩ := v h60
    obtain ⟨f1, u, -⟩ := K.tk g61 zwk_14 qsi_14
    obtain ⟨A1, e, K1⟩ := u h62
    have hl : dLine b E nf nt A = dLk b E nf nt A A1 2 := dLine_at 2 e rfl (dWs_n 2 (by omega) _ rfl)
    rw [hl]
    obtain ⟨f2, K2⟩ := (g69 rfl b E).1 A1 nf nt H K1
    unfold dLk
    cases h2 : dH b E A1 with
    | inr F =>
      rw [h2] at K2
      obtain ⟨f3, K3⟩ := K2.gh g70
      exact ⟨(f1.tr f2).tr f3, K3⟩
    | inl q =>
      obtain ⟨A2, q⟩ := q
      rw [h2] at K2
      obtain ⟨eq, K2⟩ := K2
      subst eq
      obtain ⟨f3, K3⟩ := K2.gh g70
      exact ⟨(f1.tr f2).tr f3, K3⟩
  · obtain ⟨rfl, -⟩ := g1
    obtain ⟨-, rfl⟩ := K.tk g38 zwk_11
    obtain ⟨rfl, -⟩ := g40
    obtain ⟨-, rfl⟩ := K.tk g57 zwk_12
    obtain ⟨-, rfl⟩ := K.tk g59 zwk_13
    exact absurd (K.tk g61 zwk_14).1 h62
theorem sp_1_eftftf (a0 : Nat) (a1 : Nat) (σ : zSg) (τ1 : zSg) (r1 : Int32) (τ38 : zSg) (r38 : Int32) (τ40 : zSg) (r40 : Int32) (τ57 : zSg) (r57 : Int32) (τ59 : zSg) (r59 : Int32) (τ71 : zSg) (r71 : Int32) (τ72 : zSg) (r72 : Int32) (τ73 : zSg) (g1 : p_10 (q_r (σ.1 a0 1)) σ r1 τ1) (h2 : r1.toInt ≠ (0 : Int)) (g38 : p_91 a1 (zB + 11) τ1 r38 τ38) (h39 : r38.toInt = (0 : Int)) (g40 : p_103 (q_r (τ38.1 a0 2)) τ38 r40 τ40) (h41 : r40.toInt ≠ (0 : Int)) (g57 : p_91 a1 (zB + 12) τ40 r57 τ57) (h58 : r57.toInt = (0 : Int)) (g59 : p_91 a1 (zB + 13) τ57 r59 τ59) (h60 : r59.toInt ≠ (0 : Int)) (g71 : p_5 a0 a1 τ59 r71 τ71) (g72 : p_6 a1 τ71 r72 τ72) (g73 : p_29 a0 r72 r71 τ72 τ73) :
    p_1 (a0) (a1) σ τ73 := by
  rintro rfl rfl b E
  refine ⟨fun A nf nt H K => ?_, fun F K => ?_⟩
  · obtain ⟨rfl, r1, r2⟩ := hr_f K g1
    obtain ⟨-, -, v⟩ := K.tk g38 zwk_11 qsi_11
    obtain ⟨e0, rfl⟩ := v h39
    obtain ⟨rfl, r3, r4⟩ := hr_t K g40
    obtain ⟨-, -, v⟩ := K.tk g57 zwk_12 qsi_12
    obtain ⟨e3, rfl⟩ := v h58
    obtain ⟨f1, u, -⟩ := K.tk g59 zwk_13 qsi_13
    obtain ⟨A1, e, K1⟩ := u h60
    have hl : dLine b E nf nt A = dLk b E nf nt A A1 1 := dLine_at 1 e rfl (dWs_n 1 (by omega) _ rfl)
    rw [hl]
    obtain ⟨f2, ⟨A2, f, h2, e2, K2⟩ | ⟨h2, K2⟩⟩ := (g71 rfl rfl b E).1 A1 nf nt H K1
    · obtain ⟨f3, K3⟩ := (g72 rfl b E).1 A2 nf nt H K2
      unfold dLk dHf
      rw [h2]
      dsimp only
      cases h3 : dH b E A2 with
      | inr F =>
        rw [h3] at K3
        obtain ⟨f4, K4⟩ := K3.gh g73
        exact ⟨((f1.tr f2).tr f3).tr f4, K4⟩
      | inl q =>
        obtain ⟨A3, q⟩ := q
        rw [h3] at K3
        obtain ⟨eq, K3⟩ := K3
        subst eq
        subst e2
        have := tn_rg h2
        obtain ⟨f4, K4⟩ := K3.gh g73
        exact ⟨((f1.tr f2).tr f3).tr f4, K4⟩
    · obtain ⟨f3, K3⟩ := (g72 rfl b E).2 A1 K2
      obtain ⟨f4, K4⟩ := K3.gh g73
      unfold dLk dHf
      rw [h2]
      exact ⟨((f1.tr f2).tr f3).tr f4, K4⟩
  · obtain ⟨rfl, -⟩ := g1
    obtain ⟨-, rfl⟩ := K.tk g38 zwk_11
    obtain ⟨rfl, -⟩ := g40
    obtain ⟨-, rfl⟩ := K.tk g57 zwk_12
    exact absurd (K.tk g59 zwk_13).1 h60
theorem sp_1_eftff (a0 : Nat) (a1 : Nat) (σ : zSg) (τ1 : zSg) (r1 : Int32) (τ38 : zSg) (r38 : Int32) (τ40 : zSg) (r40 : Int32) (τ57 : zSg) (r57 : Int32) (τ74 : zSg) (g1 : p_10 (q_r (σ.1 a0 1)) σ r1 τ1) (h2 : r1.toInt ≠ (0 : Int)) (g38 : p_91 a1 (zB + 11) τ1 r38 τ38) (h39 : r38.toInt = (0 : Int)) (g40 : p_103 (q_r (τ38.1 a0 2)) τ38 r40 τ40) (h41 : r40.toInt ≠ (0 : Int)) (g57 : p_91 a1 (zB + 12) τ40 r57 τ57) (h58 : r57.toInt ≠ (0 : Int)) (g74 : p_4 a0 a1 τ57 τ74) :
    p_1 (a0) (a1) σ τ74 := by
  rintro rfl rfl b E
  refine ⟨fun A nf nt H K => ?_, fun F K => ?_⟩
  · obtain ⟨rfl, r1, r2⟩ := hr_f K g1
    obtain ⟨-, -, v⟩ := K.tk g38 zwk_11 qsi_11
    obtain ⟨e0, rfl⟩ := v h39
    obtain ⟨rfl, r3, r4⟩ := hr_t K g40
    have n8 := r3 h41
    obtain ⟨f1, u, -⟩ := K.tk g57 zwk_12 qsi_12
    obtain ⟨A1, e, K1⟩ := u h58
    have hl : dLine b E nf nt A = dLk b E nf nt A A1 3 := dLine_at 3 e rfl (dWs_n 3 (by omega) _ rfl)
    rw [hl, dLk_3, if_neg (by omega)]
    obtain ⟨f2, K2⟩ := (g74 rfl rfl b E).1 A1 nf nt H K1 n8
    exact ⟨f1.tr f2, K2⟩
  · obtain ⟨rfl, -⟩ := g1
    obtain ⟨-, rfl⟩ := K.tk g38 zwk_11
    obtain ⟨rfl, -⟩ := g40
    exact absurd (K.tk g57 zwk_12).1 h58
theorem sp_1_eff (a0 : Nat) (a1 : Nat) (σ : zSg) (τ1 : zSg) (r1 : Int32) (τ38 : zSg) (r38 : Int32) (τ75 : zSg) (g1 : p_10 (q_r (σ.1 a0 1)) σ r1 τ1) (h2 : r1.toInt ≠ (0 : Int)) (g38 : p_91 a1 (zB + 11) τ1 r38 τ38) (h39 : r38.toInt ≠ (0 : Int)) (g75 : p_3 a0 a1 τ38 τ75) :
    p_1 (a0) (a1) σ τ75 := by
  rintro rfl rfl b E
  refine ⟨fun A nf nt H K => ?_, fun F K => ?_⟩
  · obtain ⟨rfl, r1, r2⟩ := hr_f K g1
    have n6 := r1 h2
    obtain ⟨f1, u, -⟩ := K.tk g38 zwk_11 qsi_11
    obtain ⟨A1, e, K1⟩ := u h39
    have hl : dLine b E nf nt A = dLk b E nf nt A A1 0 := dLine_at 0 e rfl (dWs_n 0 (by omega) _ rfl)
    rw [hl, dLk_0, if_neg (by omega)]
    obtain ⟨f2, K2⟩ := (g75 rfl rfl b E).1 A1 nf nt H K1 n6
    exact ⟨f1.tr f2, K2⟩
  · obtain ⟨rfl, -⟩ := g1
    exact absurd (K.tk g38 zwk_11).1 h39
noncomputable def qP_1 : zPp := fun as σ o σ' => match as with
  | [a0, a1] => o = .inl none ∧ p_1 (q_r a0) (q_r a1) σ σ'
  | _ => True
set_option maxRecDepth 100000 in
theorem sp_1 {sx : zX} (S10 : zEe sx 10 1 qP_10) (S103 : zEe sx 103 1 qP_103) (S91 : zEe sx 91 2 qP_91) (S2 : zEe sx 2 2 qP_2) (S5 : zEe sx 5 2 qP_5) (S6 : zEe sx 6 1 qP_6) (S13 : zEe sx 13 3 qP_13) (S29 : zEe sx 29 3 qP_29) (S4 : zEe sx 4 2 qP_4) (S3 : zEe sx 3 2 qP_3) : zEe sx 1 2 qP_1 := by
  refine zfle zJ_1 (sps := [(10, 1, qP_10), (103, 1, qP_103), (91, 2, qP_91), (2, 2, qP_2), (5, 2, qP_5), (6, 1, qP_6), (13, 3, qP_13), (29, 3, qP_29), (4, 2, qP_4), (3, 2, qP_3)]) (fun q hq => by
    simp only [List.mem_cons, List.not_mem_nil, or_false] at hq
    rcases hq with rfl | rfl | rfl | rfl | rfl | rfl | rfl | rfl | rfl | rfl
    · exact S10
    · exact S103
    · exact S91
    · exact S2
    · exact S5
    · exact S6
    · exact S13
    · exact S29
    · exact S4
    · exact S3) (fun as σ hl => ?_)
  match as, hl with
  | [a0, a1], _ =>
  refine ⟨[], 400, ?_, ?_⟩
  · exact fun q hq => absurd hq List.not_mem_nil
  · refine fun o1 τ1 g1 => ?_
    obtain ⟨r1, rfl, g1⟩ := g1
    refine And.intro (fun h2 => ?_) (fun h2 => ?_)
    · refine fun o3 τ3 g3 => ?_
      obtain ⟨r3, rfl, g3⟩ := g3
      refine And.intro (fun h4 => ?_) (fun h4 => ?_)
      · refine fun o5 τ5 g5 => ?_
        obtain ⟨r5, rfl, g5⟩ := g5
        refine And.intro (fun h6 => ?_) (fun h6 => ?_)
        · refine fun o7 τ7 g7 => ?_
          obtain ⟨r7, rfl, g7⟩ := g7
          refine And.intro (fun h8 => ?_) (fun h8 => ?_)
          · refine fun o9 τ9 g9 => ?_
            obtain ⟨r9, rfl, g9⟩ := g9
            refine And.intro (fun h10 => ?_) (fun h10 => ?_)
            · refine fun o11 τ11 g11 => ?_
              obtain ⟨rfl, g11⟩ := g11
              exact ⟨rfl, sp_1_ettttt (q_r a0) (q_r a1) σ τ1 r1 τ3 r3 τ5 r5 τ7 r7 τ9 r9 τ11 g1 (cm0t h2) g3 (cm0t h4) g5 (cm0t h6) g7 (cm0t h8) g9 (cm0t h10) g11⟩
            · refine fun o12 τ12 g12 => ?_
              obtain ⟨r12, rfl, g12⟩ := g12
              refine fun o13 τ13 g13 => ?_
              obtain ⟨r13, rfl, g13⟩ := g13
              refine fun o14 τ14 g14 => ?_
              obtain ⟨rfl, g14⟩ := g14
              exact ⟨rfl, sp_1_ettttf (q_r a0) (q_r a1) σ τ1 r1 τ3 r3 τ5 r5 τ7 r7 τ9 r9 τ12 r12 τ13 r13 τ14 g1 (cm0t h2) g3 (cm0t h4) g5 (cm0t h6) g7 (cm0t h8) g9 (cm0f h10) g12 g13 g14⟩
          · refine fun o15 τ15 g15 => ?_
            obtain ⟨r15, rfl, g15⟩ := g15
            refine fun o16 τ16 g16 => ?_
            obtain ⟨rfl, g16⟩ := g16
            exact ⟨rfl, sp_1_etttf (q_r a0) (q_r a1) σ τ1 r1 τ3 r3 τ5 r5 τ7 r7 τ15 r15 τ16 g1 (cm0t h2) g3 (cm0t h4) g5 (cm0t h6) g7 (cm0f h8) g15 g16⟩
        · refine fun o17 τ17 g17 => ?_
          obtain ⟨r17, rfl, g17⟩ := g17
          refine fun o18 τ18 g18 => ?_
          obtain ⟨r18, rfl, g18⟩ := g18
          refine fun o19 τ19 g19 => ?_
          obtain ⟨rfl, g19⟩ := g19
          exact ⟨rfl, sp_1_ettf (q_r a0) (q_r a1) σ τ1 r1 τ3 r3 τ5 r5 τ17 r17 τ18 r18 τ19 g1 (cm0t h2) g3 (cm0t h4) g5 (cm0f h6) g17 g18 g19⟩
      · refine fun o20 τ20 g20 => ?_
        obtain ⟨r20, rfl, g20⟩ := g20
        refine And.intro (fun h21 => ?_) (fun h21 => ?_)
        · refine fun o22 τ22 g22 => ?_
          obtain ⟨r22, rfl, g22⟩ := g22
          refine And.intro (fun h23 => ?_) (fun h23 => ?_)
          · refine fun o24 τ24 g24 => ?_
            obtain ⟨r24, rfl, g24⟩ := g24
            refine And.intro (fun h25 => ?_) (fun h25 => ?_)
            · refine fun o26 τ26 g26 => ?_
              obtain ⟨r26, rfl, g26⟩ := g26
              refine And.intro (fun h27 => ?_) (fun h27 => ?_)
              · refine fun o28 τ28 g28 => ?_
                obtain ⟨rfl, g28⟩ := g28
                exact ⟨rfl, sp_1_etftttt (q_r a0) (q_r a1) σ τ1 r1 τ3 r3 τ20 r20 τ22 r22 τ24 r24 τ26 r26 τ28 g1 (cm0t h2) g3 (cm0f h4) g20 (cm0t h21) g22 (cm0t h23) g24 (cm0t h25) g26 (cm0t h27) g28⟩
              · refine fun o29 τ29 g29 => ?_
                obtain ⟨r29, rfl, g29⟩ := g29
                refine fun o30 τ30 g30 => ?_
                obtain ⟨r30, rfl, g30⟩ := g30
                refine fun o31 τ31 g31 => ?_
                obtain ⟨rfl, g31⟩ := g31
                exact ⟨rfl, sp_1_etftttf (q_r a0) (q_r a1) σ τ1 r1 τ3 r3 τ20 r20 τ22 r22 τ24 r24 τ26 r26 τ29 r29 τ30 r30 τ31 g1 (cm0t h2) g3 (cm0f h4) g20 (cm0t h21) g22 (cm0t h23) g24 (cm0t h25) g26 (cm0f h27) g29 g30 g31⟩
            · refine fun o32 τ32 g32 => ?_
              obtain ⟨r32, rfl, g32⟩ := g32
              refine fun o33 τ33 g33 => ?_
              obtain ⟨rfl, g33⟩ := g33
              exact ⟨rfl, sp_1_etfttf (q_r a0) (q_r a1) σ τ1 r1 τ3 r3 τ20 r20 τ22 r22 τ24 r24 τ32 r32 τ33 g1 (cm0t h2) g3 (cm0f h4) g20 (cm0t h21) g22 (cm0t h23) g24 (cm0f h25) g32 g33⟩
          · refine fun o34 τ34 g34 => ?_
            obtain ⟨r34, rfl, g34⟩ := g34
            refine fun o35 τ35 g35 => ?_
            obtain ⟨r35, rfl, g35⟩ := g35
            refine fun o36 τ36 g36 => ?_
            obtain ⟨rfl, g36⟩ := g36
            exact ⟨rfl, sp_1_etftf (q_r a0) (q_r a1) σ τ1 r1 τ3 r3 τ20 r20 τ22 r22 τ34 r34 τ35 r35 τ36 g1 (cm0t h2) g3 (cm0f h4) g20 (cm0t h21) g22 (cm0f h23) g34 g35 g36⟩
        · refine fun o37 τ37 g37 => ?_
          obtain ⟨rfl, g37⟩ := g37
          exact ⟨rfl, sp_1_etff (q_r a0) (q_r a1) σ τ1 r1 τ3 r3 τ20 r20 τ37 g1 (cm0t h2) g3 (cm0f h4) g20 (cm0f h21) g37⟩
    · refine fun o38 τ38 g38 => ?_
      obtain ⟨r38, rfl, g38⟩ := g38
      refine And.intro (fun h39 => ?_) (fun h39 => ?_)
      · refine fun o40 τ40 g40 => ?_
        obtain ⟨r40, rfl, g40⟩ := g40
        refine And.intro (fun h41 => ?_) (fun h41 => ?_)
        · refine fun o42 τ42 g42 => ?_
          obtain ⟨r42, rfl, g42⟩ := g42
          refine And.intro (fun h43 => ?_) (fun h43 => ?_)
          · refine fun o44 τ44 g44 => ?_
            obtain ⟨r44, rfl, g44⟩ := g44
            refine And.intro (fun h45 => ?_) (fun h45 => ?_)
            · refine fun o46 τ46 g46 => ?_
              obtain ⟨r46, rfl, g46⟩ := g46
              refine And.intro (fun h47 => ?_) (fun h47 => ?_)
              · refine fun o48 τ48 g48 => ?_
                obtain ⟨rfl, g48⟩ := g48
                exact ⟨rfl, sp_1_efttttt (q_r a0) (q_r a1) σ τ1 r1 τ38 r38 τ40 r40 τ42 r42 τ44 r44 τ46 r46 τ48 g1 (cm0f h2) g38 (cm0t h39) g40 (cm0t h41) g42 (cm0t h43) g44 (cm0t h45) g46 (cm0t h47) g48⟩
              · refine fun o49 τ49 g49 => ?_
                obtain ⟨r49, rfl, g49⟩ := g49
                refine fun o50 τ50 g50 => ?_
                obtain ⟨r50, rfl, g50⟩ := g50
                refine fun o51 τ51 g51 => ?_
                obtain ⟨rfl, g51⟩ := g51
                exact ⟨rfl, sp_1_efttttf (q_r a0) (q_r a1) σ τ1 r1 τ38 r38 τ40 r40 τ42 r42 τ44 r44 τ46 r46 τ49 r49 τ50 r50 τ51 g1 (cm0f h2) g38 (cm0t h39) g40 (cm0t h41) g42 (cm0t h43) g44 (cm0t h45) g46 (cm0f h47) g49 g50 g51⟩
            · refine fun o52 τ52 g52 => ?_
              obtain ⟨r52, rfl, g52⟩ := g52
              refine fun o53 τ53 g53 => ?_
              obtain ⟨rfl, g53⟩ := g53
              exact ⟨rfl, sp_1_eftttf (q_r a0) (q_r a1) σ τ1 r1 τ38 r38 τ40 r40 τ42 r42 τ44 r44 τ52 r52 τ53 g1 (cm0f h2) g38 (cm0t h39) g40 (cm0t h41) g42 (cm0t h43) g44 (cm0f h45) g52 g53⟩
          · refine fun o54 τ54 g54 => ?_
            obtain ⟨r54, rfl, g54⟩ := g54
            refine fun o55 τ55 g55 => ?_
            obtain ⟨r55, rfl, g55⟩ := g55
            refine fun o56 τ56 g56 => ?_
            obtain ⟨rfl, g56⟩ := g56
            exact ⟨rfl, sp_1_efttf (q_r a0) (q_r a1) σ τ1 r1 τ38 r38 τ40 r40 τ42 r42 τ54 r54 τ55 r55 τ56 g1 (cm0f h2) g38 (cm0t h39) g40 (cm0t h41) g42 (cm0f h43) g54 g55 g56⟩
        · refine fun o57 τ57 g57 => ?_
          obtain ⟨r57, rfl, g57⟩ := g57
          refine And.intro (fun h58 => ?_) (fun h58 => ?_)
          · refine fun o59 τ59 g59 => ?_
            obtain ⟨r59, rfl, g59⟩ := g59
            refine And.intro (fun h60 => ?_) (fun h60 => ?_)
            · refine fun o61 τ61 g61 => ?_
              obtain ⟨r61, rfl, g61⟩ := g61
              refine And.intro (fun h62 => ?_) (fun h62 => ?_)
              · refine fun o63 τ63 g63 => ?_
                obtain ⟨r63, rfl, g63⟩ := g63
                refine And.intro (fun h64 => ?_) (fun h64 => ?_)
                · refine fun o65 τ65 g65 => ?_
                  obtain ⟨rfl, g65⟩ := g65
                  exact ⟨rfl, sp_1_eftftttt (q_r a0) (q_r a1) σ τ1 r1 τ38 r38 τ40 r40 τ57 r57 τ59 r59 τ61 r61 τ63 r63 τ65 g1 (cm0f h2) g38 (cm0t h39) g40 (cm0f h41) g57 (cm0t h58) g59 (cm0t h60) g61 (cm0t h62) g63 (cm0t h64) g65⟩
                · refine fun o66 τ66 g66 => ?_
                  obtain ⟨r66, rfl, g66⟩ := g66
                  refine fun o67 τ67 g67 => ?_
                  obtain ⟨r67, rfl, g67⟩ := g67
                  refine fun o68 τ68 g68 => ?_
                  obtain ⟨rfl, g68⟩ := g68
                  exact ⟨rfl, sp_1_eftftttf (q_r a0) (q_r a1) σ τ1 r1 τ38 r38 τ40 r40 τ57 r57 τ59 r59 τ61 r61 τ63 r63 τ66 r66 τ67 r67 τ68 g1 (cm0f h2) g38 (cm0t h39) g40 (cm0f h41) g57 (cm0t h58) g59 (cm0t h60) g61 (cm0t h62) g63 (cm0f h64) g66 g67 g68⟩
              · refine fun o69 τ69 g69 => ?_
                obtain ⟨r69, rfl, g69⟩ := g69
                refine fun o70 τ70 g70 => ?_
                obtain ⟨rfl, g70⟩ := g70
                exact ⟨rfl, sp_1_eftfttf (q_r a0) (q_r a1) σ τ1 r1 τ38 r38 τ40 r40 τ57 r57 τ59 r59 τ61 r61 τ69 r69 τ70 g1 (cm0f h2) g38 (cm0t h39) g40 (cm0f h41) g57 (cm0t h58) g59 (cm0t h60) g61 (cm0f h62) g69 g70⟩
            · refine fun o71 τ71 g71 => ?_
              obtain ⟨r71, rfl, g71⟩ := g71
              refine fun o72 τ72 g72 => ?_
              obtain ⟨r72, rfl, g72⟩ := g72
              refine fun o73 τ73 g73 => ?_
              obtain ⟨rfl, g73⟩ := g73
              exact ⟨rfl, sp_1_eftftf (q_r a0) (q_r a1) σ τ1 r1 τ38 r38 τ40 r40 τ57 r57 τ59 r59 τ71 r71 τ72 r72 τ73 g1 (cm0f h2) g38 (cm0t h39) g40 (cm0f h41) g57 (cm0t h58) g59 (cm0f h60) g71 g72 g73⟩
          · refine fun o74 τ74 g74 => ?_
            obtain ⟨rfl, g74⟩ := g74
            exact ⟨rfl, sp_1_eftff (q_r a0) (q_r a1) σ τ1 r1 τ38 r38 τ40 r40 τ57 r57 τ74 g1 (cm0f h2) g38 (cm0t h39) g40 (cm0f h41) g57 (cm0f h58) g74⟩
      · refine fun o75 τ75 g75 => ?_
        obtain ⟨rfl, g75⟩ := g75
        exact ⟨rfl, sp_1_eff (q_r a0) (q_r a1) σ τ1 r1 τ38 r38 τ75 g1 (cm0f h2) g38 (cm0f h39) g75⟩
/-- ahead of a text -/
noncomputable def cI (σ : zSg) (b : Nat → Int) (E nf nt : Nat) (H : Nat → Int32) : Prop := cS0 σ 1 E ∧ cb σ 1 = b ∧ σ.1 1 0 = .ref 2 ∧ hH σ 21 H ∧ dC nf nt H
theorem cI.go {σ τ : zSg} {b : Nat → Int} {E nf nt : Nat} {H : Nat → Int32} (K : cI σ b E nf nt H) (G : p_87 1 σ τ) : cDF σ τ ∧ cR τ b (zBl b E 0) E nf nt H := by
  obtain ⟨h1, h2, h3, h4, h5⟩ := K
  have e := G E h1
  rw [h2] at e
  subst e
  obtain ⟨g1, g2⟩ := h1.mk (w := .int (Int32.ofInt (-1))) (K := zBl b E 0) (zBl_le (by omega))
  refine ⟨(cDF.tp (by omega)).tr (cDF.tp (by omega)), g1, g2.trans h2, ?_, ?_, h4.tp.tp, h5⟩
  · rw [q_w_ne (fun _ q => by omega), q_w_at]; rfl
  · rw [q_w_ne (fun _ q => by omega), q_w_ne (fun _ q => by omega)]; exact h3
theorem cR.go {σ τ : zSg} {b : Nat → Int} {A E nf nt : Nat} {H : Nat → Int32} {x : Int32} (K : cR σ b A E nf nt H) (G : p_89 1 σ x τ) : τ = σ ∧ (x.toInt ≠ 0 → A ≠ E) ∧ (x.toInt = 0 → A = E) := by
  obtain ⟨g1, g2⟩ := G
  have g3 := g2 A E K.1
  have hl := K.le
  refine ⟨g1, fun h => by have := g3.mp h; omega, fun h => ?_⟩
  rcases Nat.lt_or_ge A E with q | q
  · exact absurd h (g3.mpr ⟨K.2.2.1, q⟩)
  · omega
theorem cQ.go {σ τ : zSg} {b : Nat → Int} {E F : Nat} {x : Int32} (K : cQ σ b E F) (G : p_89 1 σ x τ) : τ = σ ∧ x.toInt = 0 := by
  obtain ⟨g1, g2⟩ := G
  obtain ⟨A, h1⟩ := K.1
  have g3 := g2 A E h1
  refine ⟨g1, Decidable.byContradiction fun h => K.no (g3.mp h).1⟩
abbrev cDo (σ' : zSg) (nf nt : Nat) (H : Nat → Int32) (r : Int32) (R : List dOp ⊕ Nat) : Prop := match R with
  | .inl os => r.toInt = -1 ∧ hH σ' 21 (dApps os nf nt H) ∧ dC (nf + dFs os) (nt + dTs os) (dApps os nf nt H)
  | .inr F => r = Int32.ofNat F ∧ F ≤ 400 ∧ ∃ D', hH σ' 21 D'
theorem zJ_0 : zJ3 0 z_m0 z_c0 z_h0 := ⟨rfl, rfl, rfl⟩
noncomputable def p_0 (h a : Nat) (σ : zSg) (r : Int32) (σ' : zSg) : Prop := h = 21 → a = 1 → ∀ b E nf nt H, cI σ b E nf nt H → cDF σ σ' ∧ cDo σ' nf nt H r (dDeed b E nf nt)
noncomputable def i_0 (h a : Nat) (σ : zSg) (l0 l1 : Nat) (l2 l3 : Int32) (τ : zSg) : Prop := l0 = h ∧ l1 = a ∧ (h = 21 → a = 1 → ∀ b E nf nt H, cI σ b E nf nt H → cDF σ τ ∧ ((∃ A os N, l3 = Int32.ofNat N ∧ N ≤ 14 ∧ cR τ b A E (nf + dFs os) (nt + dTs os) (dApps os nf nt H) ∧ ((l2.toInt ≠ 0 ∧ dDeed b E nf nt = dText b E (14 - N) (nf + dFs os) (nt + dTs os) A os) ∨ (l2.toInt = 0 ∧ dDeed b E nf nt = .inl os))) ∨ ∃ F, dDeed b E nf nt = .inr F ∧ cQ τ b E F))
theorem sp_0_e (a0 : Nat) (a1 : Nat) (σ : zSg) (τ1 : zSg) (τ2 : zSg) (r2 : Int32) (g1 : p_87 a1 σ τ1) (g2 : p_89 a1 τ1 r2 τ2) :
    i_0 a0 a1 σ a0 a1 r2 (Int32.ofInt (0)) τ2 := by
  refine ⟨rfl, rfl, ?_⟩
  rintro rfl rfl b E nf nt H K
  obtain ⟨f1, K1⟩ := K.go g1
  obtain ⟨rfl, g1, g2⟩ := K1.go g2
  refine ⟨f1, Or.inl ⟨zBl b E 0, [], 0, rfl, by omega, K1, ?_⟩⟩
  unfold dDeed
  by_cases h : r2.toInt = 0
  · exact Or.inr ⟨h, by rw [if_pos (g2 h)]⟩
  · exact Or.inl ⟨h, by rw [if_neg (g1 h)]; rfl⟩
theorem sp_0_c7_tt (a0 : Nat) (a1 : Nat) (σ : zSg) (l0 : Nat) (l1 : Nat) (l2 : Int32) (l3 : Int32) (τ : zSg) (τ5 : zSg) (r5 : Int32) (hI : i_0 a0 a1 σ l0 l1 l2 l3 τ) (h3 : l2.toInt = (0 : Int)) (h4 : l2.toInt = (0 : Int)) (g5 : p_88 l1 τ r5 τ5) :
    p_0 (a0) (a1) σ r5 τ5 := by
  obtain ⟨rfl, rfl, hI⟩ := hI
  rintro rfl rfl b E nf nt H K
  obtain ⟨rfl, rfl⟩ := g5
  obtain ⟨f1, ⟨A, os, N, rfl, hN, K1, h | ⟨h, hd⟩⟩ | ⟨F, hd, K1⟩⟩ := hI rfl rfl b E nf nt H K
  · exact absurd h3 h.1
  · rw [hd]
    exact ⟨f1, K1.2.2.1, K1.2.2.2.2.1, K1.2.2.2.2.2⟩
  · rw [hd]
    refine ⟨f1, ?_, K1.2.2.2.1, by obtain ⟨D', _, _, h9, _⟩ := K1.2.2.2.2.2; exact ⟨D', h9⟩⟩
    rw [K1.2.2.1]
    rfl
theorem sp_0_c7_tf (a0 : Nat) (a1 : Nat) (σ : zSg) (l0 : Nat) (l1 : Nat) (l2 : Int32) (l3 : Int32) (τ : zSg) (τ6 : zSg) (τ7 : zSg) (r7 : Int32) (hI : i_0 a0 a1 σ l0 l1 l2 l3 τ) (h3 : l2.toInt = (0 : Int)) (h4 : l2.toInt ≠ (0 : Int)) (g6 : p_90 l1 τ τ6) (g7 : p_88 l1 τ6 r7 τ7) :
    p_0 (a0) (a1) σ r7 τ7 := by
  exact absurd h3 h4
theorem sp_0_c7_ftt (a0 : Nat) (a1 : Nat) (σ : zSg) (l0 : Nat) (l1 : Nat) (l2 : Int32) (l3 : Int32) (τ : zSg) (τ10 : zSg) (r10 : Int32) (hI : i_0 a0 a1 σ l0 l1 l2 l3 τ) (h3 : l2.toInt ≠ (0 : Int)) (h8 : l3.toInt ≥ (14 : Int)) (h9 : l2.toInt = (0 : Int)) (g10 : p_88 l1 τ r10 τ10) :
    p_0 (a0) (a1) σ r10 τ10 := by
  exact absurd h9 h3
theorem sp_0_c7_ftf (a0 : Nat) (a1 : Nat) (σ : zSg) (l0 : Nat) (l1 : Nat) (l2 : Int32) (l3 : Int32) (τ : zSg) (τ11 : zSg) (τ12 : zSg) (r12 : Int32) (hI : i_0 a0 a1 σ l0 l1 l2 l3 τ) (h3 : l2.toInt ≠ (0 : Int)) (h8 : l3.toInt ≥ (14 : Int)) (h9 : l2.toInt ≠ (0 : Int)) (g11 : p_90 l1 τ τ11) (g12 : p_88 l1 τ11 r12 τ12) :
    p_0 (a0) (a1) σ r12 τ12 := by
  obtain ⟨rfl, rfl, hI⟩ := hI
  rintro rfl rfl b E nf nt H K
  obtain ⟨f1, ⟨A, os, N, rfl, hN, K1, ⟨h, hd⟩ | h⟩ | ⟨F, hd, K1⟩⟩ := hI rfl rfl b E nf nt H K
  · rw [o32 (by omega)] at h8
    obtain ⟨f2, K2⟩ := K1.rf g11
    obtain ⟨rfl, rfl⟩ := g12
    rw [hd, show 14 - N = 0 by omega]
    refine ⟨f1.tr f2, ?_, K2.2.2.2.1, by obtain ⟨D', _, _, h9, _⟩ := K2.2.2.2.2.2; exact ⟨D', h9⟩⟩
    rw [K2.2.2.1]
    rfl
  · exact absurd h.1 h3
  · obtain rfl := K1.rf g11
    obtain ⟨rfl, rfl⟩ := g12
    rw [hd]
    refine ⟨f1, ?_, K1.2.2.2.1, by obtain ⟨D', _, _, h9, _⟩ := K1.2.2.2.2.2; exact ⟨D', h9⟩⟩
    rw [K1.2.2.1]
    rfl
theorem sp_0_c7_fft (a0 : Nat) (a1 : Nat) (σ : zSg) (l0 : Nat) (l1 : Nat) (l2 : Int32) (l3 : Int32) (τ : zSg) (τ13 : zSg) (τ14 : zSg) (r14 : Int32) (hI : i_0 a0 a1 σ l0 l1 l2 l3 τ) (h3 : l2.toInt ≠ (0 : Int)) (h8 : l3.toInt < (14 : Int)) (g13 : p_1 l0 l1 τ τ13) (g14 : p_89 l1 τ13 r14 τ14) (h15 : r14.toInt = (0 : Int)) :
    i_0 a0 a1 σ l0 l1 r14 (l3 + Int32.ofInt (1)) τ14 := by
  obtain ⟨rfl, rfl, hI⟩ := hI
  refine ⟨rfl, rfl, ?_⟩
  rintro rfl rfl b E nf nt H K
  obtain ⟨f1, ⟨A, os, N, rfl, hN, K1, ⟨h, hd⟩ | h⟩ | ⟨F, hd, K1⟩⟩ := hI rfl rfl b E nf nt H K
  · rw [o32 (by omega)] at h8
    obtain ⟨k, hk⟩ : ∃ k, 14 - N = k + 1 := ⟨13 - N, by omega⟩
    rw [hk] at hd
    unfold dText at hd
    obtain ⟨f2, K2⟩ := (g13 rfl rfl b E).1 A _ _ _ K1
    cases hR : dLine b E (nf + dFs os) (nt + dTs os) A with
    | inr F =>
      rw [hR] at K2 hd
      obtain ⟨rfl, -⟩ := K2.go g14
      exact ⟨f1.tr f2, Or.inr ⟨F, hd, K2⟩⟩
    | inl q =>
      obtain ⟨A1, o⟩ := q
      rw [hR] at K2 hd
      obtain ⟨rfl, -, g2⟩ := K2.go g14
      dsimp only at hd
      rw [if_pos (g2 h15)] at hd
      have hap : dApp (nf + dFs os) (nt + dTs os) (dApps os nf nt H) o = dApps (os ++ [o]) nf nt H := (dApps_app os [o] nf nt H).symm
      have d1 : nf + dFs os + dF1 o = nf + dFs (os ++ [o]) := by rw [dFs_app, Nat.add_assoc]; rfl
      have d2 : nt + dTs os + dT1 o = nt + dTs (os ++ [o]) := by rw [dTs_app, Nat.add_assoc]; rfl
      have K3 : cR τ14 b A1 E (nf + dFs os + dF1 o) (nt + dTs os + dT1 o) (dApp (nf + dFs os) (nt + dTs os) (dApps os nf nt H) o) := K2
      rw [hap, d1, d2] at K3
      exact ⟨f1.tr f2, Or.inl ⟨A1, os ++ [o], N + 1, o32i (by omega), by omega, K3, Or.inr ⟨h15, hd⟩⟩⟩
  · exact absurd h.1 h3
  · obtain ⟨f2, K2⟩ := (g13 rfl rfl b E).2 F K1
    obtain ⟨rfl, -⟩ := K2.go g14
    exact ⟨f1.tr f2, Or.inr ⟨F, hd, K2⟩⟩
theorem sp_0_c7_fff (a0 : Nat) (a1 : Nat) (σ : zSg) (l0 : Nat) (l1 : Nat) (l2 : Int32) (l3 : Int32) (τ : zSg) (τ13 : zSg) (τ14 : zSg) (r14 : Int32) (τ16 : zSg) (hI : i_0 a0 a1 σ l0 l1 l2 l3 τ) (h3 : l2.toInt ≠ (0 : Int)) (h8 : l3.toInt < (14 : Int)) (g13 : p_1 l0 l1 τ τ13) (g14 : p_89 l1 τ13 r14 τ14) (h15 : r14.toInt ≠ (0 : Int)) (g16 : p_94 l1 (Int32.ofInt (59)) τ14 τ16) :
    i_0 a0 a1 σ l0 l1 r14 (l3 + Int32.ofInt (1)) τ16 := by
  obtain ⟨rfl, rfl, hI⟩ := hI
  refine ⟨rfl, rfl, ?_⟩
  rintro rfl rfl b E nf nt H K
  obtain ⟨f1, ⟨A, os, N, rfl, hN, K1, ⟨h, hd⟩ | h⟩ | ⟨F, hd, K1⟩⟩ := hI rfl rfl b E nf nt H K
  · rw [o32 (by omega)] at h8
    obtain ⟨k, hk⟩ : ∃ k, 14 - N = k + 1 := ⟨13 - N, by omega⟩
    rw [hk] at hd
    unfold dText at hd
    obtain ⟨f2, K2⟩ := (g13 rfl rfl b E).1 A _ _ _ K1
    cases hR : dLine b E (nf + dFs os) (nt + dTs os) A with
    | inr F =>
      rw [hR] at K2 hd
      exact absurd (K2.go g14).2 h15
    | inl q =>
      obtain ⟨A1, o⟩ := q
      rw [hR] at K2 hd
      obtain ⟨rfl, g1, -⟩ := K2.go g14
      dsimp only at hd
      rw [if_neg (g1 h15)] at hd
      have hap : dApp (nf + dFs os) (nt + dTs os) (dApps os nf nt H) o = dApps (os ++ [o]) nf nt H := (dApps_app os [o] nf nt H).symm
      have d1 : nf + dFs os + dF1 o = nf + dFs (os ++ [o]) := by rw [dFs_app, Nat.add_assoc]; rfl
      have d2 : nt + dTs os + dT1 o = nt + dTs (os ++ [o]) := by rw [dTs_app, Nat.add_assoc]; rfl
      have K3 : cR τ14 b A1 E (nf + dFs os + dF1 o) (nt + dTs os + dT1 o) (dApp (nf + dFs os) (nt + dTs os) (dApps os nf nt H) o) := K2
      rw [hap, d1, d2] at K3
      obtain ⟨f3, u3, v3⟩ := K3.ns g16 (by decide) (by decide)
      rw [show (Int32.ofInt 59).toInt = 59 from rfl] at u3 v3
      cases hs : ts b E 59 A1 with
      | none =>
        rw [hs] at hd
        exact ⟨(f1.tr f2).tr f3, Or.inr ⟨A1, hd, v3 hs⟩⟩
      | some A2 =>
        rw [hs] at hd
        dsimp only at hd
        rw [d1, d2] at hd
        exact ⟨(f1.tr f2).tr f3, Or.inl ⟨A2, os ++ [o], N + 1, o32i (by omega), by omega, u3 A2 hs, Or.inl ⟨h15, by rw [hd, show 14 - (N + 1) = k by omega]⟩⟩⟩
  · exact absurd h.1 h3
  · obtain ⟨f2, K2⟩ := (g13 rfl rfl b E).2 F K1
    exact absurd (K2.go g14).2 h15
noncomputable def qP_0 : zPp := fun as σ o σ' => match as with
  | [a0, a1] => ∃ r, o = .inl (some (.int r)) ∧ p_0 (q_r a0) (q_r a1) σ r σ'
  | _ => True
set_option maxRecDepth 100000 in
theorem sp_0 {sx : zX} (S87 : zEe sx 87 1 qP_87) (S89 : zEe sx 89 1 qP_89) (S88 : zEe sx 88 1 qP_88) (S90 : zEe sx 90 1 qP_90) (S1 : zEe sx 1 2 qP_1) (S94 : zEe sx 94 2 qP_94) : zEe sx 0 2 qP_0 := by
  refine zfle zJ_0 (sps := [(87, 1, qP_87), (89, 1, qP_89), (88, 1, qP_88), (90, 1, qP_90), (1, 2, qP_1), (94, 2, qP_94)]) (fun q hq => by
    simp only [List.mem_cons, List.not_mem_nil, or_false] at hq
    rcases hq with rfl | rfl | rfl | rfl | rfl | rfl
    · exact S87
    · exact S89
    · exact S88
    · exact S90
    · exact S1
    · exact S94) (fun as σ hl => ?_)
  match as, hl with
  | [a0, a1], _ =>
  refine ⟨[(7, fun lo st τ => st = [] ∧ i_0 (q_r a0) (q_r a1) σ (q_r (lo 0)) (q_r (lo 1)) (q_i (lo 2)) (q_i (lo 3)) τ)], 400, ?_, ?_⟩
  · intro q hq
    simp only [List.mem_cons, List.not_mem_nil, or_false] at hq
    rcases hq with rfl
    · rintro lo st τ ⟨rfl, hI⟩
      refine ⟨400, ?_⟩
      refine And.intro (fun h3 => ?_) (fun h3 => ?_)
      · refine And.intro (fun h4 => ?_) (fun h4 => ?_)
        · refine fun o5 τ5 g5 => ?_
          obtain ⟨r5, rfl, g5⟩ := g5
          exact ⟨_, rfl, sp_0_c7_tt (q_r a0) (q_r a1) σ (q_r (lo 0)) (q_r (lo 1)) (q_i (lo 2)) (q_i (lo 3)) τ τ5 r5 hI (cm0t h3) (cm0t h4) g5⟩
        · refine fun o6 τ6 g6 => ?_
          obtain ⟨rfl, g6⟩ := g6
          refine fun o7 τ7 g7 => ?_
          obtain ⟨r7, rfl, g7⟩ := g7
          exact ⟨_, rfl, sp_0_c7_tf (q_r a0) (q_r a1) σ (q_r (lo 0)) (q_r (lo 1)) (q_i (lo 2)) (q_i (lo 3)) τ τ6 τ7 r7 hI (cm0t h3) (cm0f h4) g6 g7⟩
      · refine And.intro (fun h8 => ?_) (fun h8 => ?_)
        · refine And.intro (fun h9 => ?_) (fun h9 => ?_)
          · refine fun o10 τ10 g10 => ?_
            obtain ⟨r10, rfl, g10⟩ := g10
            exact ⟨_, rfl, sp_0_c7_ftt (q_r a0) (q_r a1) σ (q_r (lo 0)) (q_r (lo 1)) (q_i (lo 2)) (q_i (lo 3)) τ τ10 r10 hI (cm0f h3) (cm3t h8) (cm0t h9) g10⟩
          · refine fun o11 τ11 g11 => ?_
            obtain ⟨rfl, g11⟩ := g11
            refine fun o12 τ12 g12 => ?_
            obtain ⟨r12, rfl, g12⟩ := g12
            exact ⟨_, rfl, sp_0_c7_ftf (q_r a0) (q_r a1) σ (q_r (lo 0)) (q_r (lo 1)) (q_i (lo 2)) (q_i (lo 3)) τ τ11 τ12 r12 hI (cm0f h3) (cm3t h8) (cm0f h9) g11 g12⟩
        · refine fun o13 τ13 g13 => ?_
          obtain ⟨rfl, g13⟩ := g13
          refine fun o14 τ14 g14 => ?_
          obtain ⟨r14, rfl, g14⟩ := g14
          refine And.intro (fun h15 => ?_) (fun h15 => ?_)
          · exact ⟨rfl, sp_0_c7_fft (q_r a0) (q_r a1) σ (q_r (lo 0)) (q_r (lo 1)) (q_i (lo 2)) (q_i (lo 3)) τ τ13 τ14 r14 hI (cm0f h3) (cm3f h8) g13 g14 (cm0t h15)⟩
          · refine fun o16 τ16 g16 => ?_
            obtain ⟨rfl, g16⟩ := g16
            exact ⟨rfl, sp_0_c7_fff (q_r a0) (q_r a1) σ (q_r (lo 0)) (q_r (lo 1)) (q_i (lo 2)) (q_i (lo 3)) τ τ13 τ14 r14 τ16 hI (cm0f h3) (cm3f h8) g13 g14 (cm0f h15) g16⟩
  · refine fun o1 τ1 g1 => ?_
    obtain ⟨rfl, g1⟩ := g1
    refine fun o2 τ2 g2 => ?_
    obtain ⟨r2, rfl, g2⟩ := g2
    exact ⟨rfl, sp_0_e (q_r a0) (q_r a1) σ τ1 τ2 r2 g1 g2⟩
end
