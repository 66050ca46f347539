/-! the reference's texts of a law, exact; printed with wip/gen/gen_t7.py -/
noncomputable def q_us (σ : zSg) (a : Nat) : zSg := q_w (q_w (q_w (q_w σ a 0 (.int (Int32.ofInt 0))) a 11 (.int (q_i (σ.1 a 9)))) a 9 (.int (Int32.ofInt 0))) a 10 (.int (Int32.ofInt 0))
noncomputable def p_210 (a : Nat) (σ σ' : zSg) : Prop := σ' = q_us σ a
noncomputable def p_176 (a : Nat) (x c : Int32) (σ : zSg) (r : Int32) (σ' : zSg) : Prop := r = x ∧ (x.toInt ≠ 0 → σ' = q_w σ a 0 (.int c)) ∧ (x.toInt = 0 → σ' = σ)
theorem sp_210_e (a0 : Nat) (σ : zSg)  :
    p_210 (a0) σ (q_w (q_w (q_w (q_w σ a0 0 (.int (Int32.ofInt (0)))) a0 11 (.int (q_i ((q_w σ a0 0 (.int (Int32.ofInt (0)))).1 a0 9)))) a0 9 (.int (Int32.ofInt (0)))) a0 10 (.int (Int32.ofInt (0)))) := by
  unfold p_210 q_us
  rw [q_w_ne (fun _ q => by omega)]
noncomputable def qP_210 : zPp := fun as σ o σ' => match as with
  | [a0] => o = .inl none ∧ p_210 (q_r a0) σ σ'
  | _ => True
set_option maxRecDepth 100000 in
theorem sp_210 {sx : zX}  : zEe sx 210 1 qP_210 := by
  refine zfle zJ_210 (sps := []) (fun q hq => absurd hq List.not_mem_nil) (fun as σ hl => ?_)
  match as, hl with
  | [a0], _ =>
  refine ⟨[], 400, ?_, ?_⟩
  · exact fun q hq => absurd hq List.not_mem_nil
  · exact ⟨rfl, sp_210_e (q_r a0) σ ⟩
theorem sp_176_et (a0 : Nat) (a1 : Int32) (a2 : Int32) (σ : zSg) (h1 : a1.toInt = (0 : Int)) :
    p_176 (a0) (a1) (a2) σ a1 σ := by
  exact ⟨rfl, fun h => absurd h1 h, fun _ => rfl⟩
theorem sp_176_ef (a0 : Nat) (a1 : Int32) (a2 : Int32) (σ : zSg) (h1 : a1.toInt ≠ (0 : Int)) :
    p_176 (a0) (a1) (a2) σ a1 (q_w σ a0 0 (.int a2)) := by
  exact ⟨rfl, fun _ => rfl, fun h => absurd h h1⟩
noncomputable def qP_176 : zPp := fun as σ o σ' => match as with
  | [a0, a1, a2] => ∃ r, o = .inl (some (.int r)) ∧ p_176 (q_r a0) (q_i a1) (q_i a2) σ r σ'
  | _ => True
set_option maxRecDepth 100000 in
theorem sp_176 {sx : zX}  : zEe sx 176 3 qP_176 := by
  refine zfle zJ_176 (sps := []) (fun q hq => absurd hq List.not_mem_nil) (fun as σ hl => ?_)
  match as, hl with
  | [a0, a1, a2], _ =>
  refine ⟨[], 400, ?_, ?_⟩
  · exact fun q hq => absurd hq List.not_mem_nil
  · refine And.intro (fun h1 => ?_) (fun h1 => ?_)
    · exact ⟨_, rfl, sp_176_et (q_r a0) (q_i a1) (q_i a2) σ (cm0t h1)⟩
    · exact ⟨_, rfl, sp_176_ef (q_r a0) (q_i a1) (q_i a2) σ (cm0f h1)⟩
noncomputable def p_229 (a : Nat) (dd n : Int32) (σ : zSg) (r : Int32) (σ' : zSg) : Prop := dd.toInt = 0 → ∀ W b P E D l N, rG σ a W b P E D l → n = Int32.ofNat N → N ≤ 12 → rF3 σ σ' a W N ∧ (N = 12 → r.toInt = 0 ∧ σ'.1 a 12 = .int (Int32.ofNat (zBl b E P))) ∧ (N < 12 → ∃ R, GI b E (zBl b E P) R ∧ rI σ' a W b E l N r R)
theorem sp_229_ett (a0 : Nat) (a1 : Int32) (a2 : Int32) (σ : zSg) (τ1 : zSg) (g1 : p_203 a0 σ τ1) (h2 : a1.toInt = (0 : Int)) (h3 : a2.toInt ≥ (12 : Int)) :
    p_229 (a0) (a1) (a2) σ (Int32.ofInt (0)) τ1 := by
  intro hd W b P E D l N H eN hN
  obtain ⟨f1, t12, t10, H1⟩ := H.lt g1
  have h12 : N = 12 := by
    have h9 := h3
    rw [eN, o32 (by omega)] at h9
    omega
  exact ⟨rF3.of f1, fun _ => ⟨rfl, t12⟩, fun q => by omega⟩
theorem sp_229_etftt (a0 : Nat) (a1 : Int32) (a2 : Int32) (σ : zSg) (τ1 : zSg) (τ5 : zSg) (r5 : Int32) (g1 : p_203 a0 σ τ1) (h2 : a1.toInt = (0 : Int)) (h3 : a2.toInt < (12 : Int)) (h4 : a1.toInt = (0 : Int)) (g5 : p_228 a0 a2 τ1 r5 τ5) (h6 : r5.toInt = (0 : Int)) :
    p_229 (a0) (a1) (a2) σ (Int32.ofInt (0)) τ5 := by
  intro hd W b P E D l N H eN hN
  obtain ⟨f1, t12, t10, H1⟩ := H.lt g1
  have h12 : N < 12 := by
    have h9 := h3
    rw [eN, o32 (by omega)] at h9
    omega
  obtain ⟨f2, R, g1, g2⟩ := g5 W b E D l (zBl b E P) N ⟨H1, t12, zBl_bl, eN, h12⟩
  refine ⟨(rF3.of f1).tr f2, fun q => by omega, fun _ => ⟨R, g1, ?_⟩⟩
  cases R with
  | inr F => exact ⟨rfl, g2.2⟩
  | inl q => exact absurd h6 g2.1
theorem sp_229_etftf (a0 : Nat) (a1 : Int32) (a2 : Int32) (σ : zSg) (τ1 : zSg) (τ5 : zSg) (r5 : Int32) (g1 : p_203 a0 σ τ1) (h2 : a1.toInt = (0 : Int)) (h3 : a2.toInt < (12 : Int)) (h4 : a1.toInt = (0 : Int)) (g5 : p_228 a0 a2 τ1 r5 τ5) (h6 : r5.toInt ≠ (0 : Int)) :
    p_229 (a0) (a1) (a2) σ (Int32.ofInt (1)) τ5 := by
  intro hd W b P E D l N H eN hN
  obtain ⟨f1, t12, t10, H1⟩ := H.lt g1
  have h12 : N < 12 := by
    have h9 := h3
    rw [eN, o32 (by omega)] at h9
    omega
  obtain ⟨f2, R, g1, g2⟩ := g5 W b E D l (zBl b E P) N ⟨H1, t12, zBl_bl, eN, h12⟩
  refine ⟨(rF3.of f1).tr f2, fun q => by omega, fun _ => ⟨R, g1, ?_⟩⟩
  cases R with
  | inr F => exact absurd g2.1 h6
  | inl q => exact ⟨by decide, g2.2⟩
theorem sp_229_etfft (a0 : Nat) (a1 : Int32) (a2 : Int32) (σ : zSg) (τ1 : zSg) (τ7 : zSg) (r7 : Int32) (g1 : p_203 a0 σ τ1) (h2 : a1.toInt = (0 : Int)) (h3 : a2.toInt < (12 : Int)) (h4 : a1.toInt ≠ (0 : Int)) (g7 : p_220 a0 τ1 r7 τ7) (h8 : r7.toInt = (0 : Int)) :
    p_229 (a0) (a1) (a2) σ (Int32.ofInt (0)) τ7 := by
  exact absurd h2 h4
theorem sp_229_etfff (a0 : Nat) (a1 : Int32) (a2 : Int32) (σ : zSg) (τ1 : zSg) (τ7 : zSg) (r7 : Int32) (g1 : p_203 a0 σ τ1) (h2 : a1.toInt = (0 : Int)) (h3 : a2.toInt < (12 : Int)) (h4 : a1.toInt ≠ (0 : Int)) (g7 : p_220 a0 τ1 r7 τ7) (h8 : r7.toInt ≠ (0 : Int)) :
    p_229 (a0) (a1) (a2) σ (Int32.ofInt (1)) τ7 := by
  exact absurd h2 h4
theorem sp_229_eft (a0 : Nat) (a1 : Int32) (a2 : Int32) (σ : zSg) (τ1 : zSg) (g1 : p_203 a0 σ τ1) (h2 : a1.toInt ≠ (0 : Int)) (h9 : a2.toInt ≥ (14 : Int)) :
    p_229 (a0) (a1) (a2) σ (Int32.ofInt (0)) τ1 := by
  intro hd
  exact absurd hd h2
theorem sp_229_efftt (a0 : Nat) (a1 : Int32) (a2 : Int32) (σ : zSg) (τ1 : zSg) (τ11 : zSg) (r11 : Int32) (g1 : p_203 a0 σ τ1) (h2 : a1.toInt ≠ (0 : Int)) (h9 : a2.toInt < (14 : Int)) (h10 : a1.toInt = (0 : Int)) (g11 : p_228 a0 a2 τ1 r11 τ11) (h12 : r11.toInt = (0 : Int)) :
    p_229 (a0) (a1) (a2) σ (Int32.ofInt (0)) τ11 := by
  intro hd
  exact absurd hd h2
theorem sp_229_efftf (a0 : Nat) (a1 : Int32) (a2 : Int32) (σ : zSg) (τ1 : zSg) (τ11 : zSg) (r11 : Int32) (g1 : p_203 a0 σ τ1) (h2 : a1.toInt ≠ (0 : Int)) (h9 : a2.toInt < (14 : Int)) (h10 : a1.toInt = (0 : Int)) (g11 : p_228 a0 a2 τ1 r11 τ11) (h12 : r11.toInt ≠ (0 : Int)) :
    p_229 (a0) (a1) (a2) σ (Int32.ofInt (1)) τ11 := by
  intro hd
  exact absurd hd h2
theorem sp_229_effft (a0 : Nat) (a1 : Int32) (a2 : Int32) (σ : zSg) (τ1 : zSg) (τ13 : zSg) (r13 : Int32) (g1 : p_203 a0 σ τ1) (h2 : a1.toInt ≠ (0 : Int)) (h9 : a2.toInt < (14 : Int)) (h10 : a1.toInt ≠ (0 : Int)) (g13 : p_220 a0 τ1 r13 τ13) (h14 : r13.toInt = (0 : Int)) :
    p_229 (a0) (a1) (a2) σ (Int32.ofInt (0)) τ13 := by
  intro hd
  exact absurd hd h2
theorem sp_229_effff (a0 : Nat) (a1 : Int32) (a2 : Int32) (σ : zSg) (τ1 : zSg) (τ13 : zSg) (r13 : Int32) (g1 : p_203 a0 σ τ1) (h2 : a1.toInt ≠ (0 : Int)) (h9 : a2.toInt < (14 : Int)) (h10 : a1.toInt ≠ (0 : Int)) (g13 : p_220 a0 τ1 r13 τ13) (h14 : r13.toInt ≠ (0 : Int)) :
    p_229 (a0) (a1) (a2) σ (Int32.ofInt (1)) τ13 := by
  intro hd
  exact absurd hd h2
noncomputable def qP_229 : zPp := fun as σ o σ' => match as with
  | [a0, a1, a2] => ∃ r, o = .inl (some (.int r)) ∧ p_229 (q_r a0) (q_i a1) (q_i a2) σ r σ'
  | _ => True
set_option maxRecDepth 100000 in
theorem sp_229 {sx : zX} (S203 : zEe sx 203 1 qP_203) (S228 : zEe sx 228 2 qP_228) (S220 : zEe sx 220 1 qP_220) : zEe sx 229 3 qP_229 := by
  refine zfle zJ_229 (sps := [(203, 1, qP_203), (228, 2, qP_228), (220, 1, qP_220)]) (fun q hq => by
    simp only [List.mem_cons, List.not_mem_nil, or_false] at hq
    rcases hq with rfl | rfl | rfl
    · exact S203
    · exact S228
    · exact S220) (fun as σ hl => ?_)
  match as, hl with
  | [a0, a1, a2], _ =>
  refine ⟨[], 400, ?_, ?_⟩
  · exact fun q hq => absurd hq List.not_mem_nil
  · refine fun o1 τ1 g1 => ?_
    obtain ⟨rfl, g1⟩ := g1
    refine And.intro (fun h2 => ?_) (fun h2 => ?_)
    · refine And.intro (fun h3 => ?_) (fun h3 => ?_)
      · exact ⟨_, rfl, sp_229_ett (q_r a0) (q_i a1) (q_i a2) σ τ1 g1 (cm0t h2) (cm3t h3)⟩
      · refine And.intro (fun h4 => ?_) (fun h4 => ?_)
        · refine fun o5 τ5 g5 => ?_
          obtain ⟨r5, rfl, g5⟩ := g5
          refine And.intro (fun h6 => ?_) (fun h6 => ?_)
          · exact ⟨_, rfl, sp_229_etftt (q_r a0) (q_i a1) (q_i a2) σ τ1 τ5 r5 g1 (cm0t h2) (cm3f h3) (cm0t h4) g5 (cm0t h6)⟩
          · exact ⟨_, rfl, sp_229_etftf (q_r a0) (q_i a1) (q_i a2) σ τ1 τ5 r5 g1 (cm0t h2) (cm3f h3) (cm0t h4) g5 (cm0f h6)⟩
        · refine fun o7 τ7 g7 => ?_
          obtain ⟨r7, rfl, g7⟩ := g7
          refine And.intro (fun h8 => ?_) (fun h8 => ?_)
          · exact ⟨_, rfl, sp_229_etfft (q_r a0) (q_i a1) (q_i a2) σ τ1 τ7 r7 g1 (cm0t h2) (cm3f h3) (cm0f h4) g7 (cm0t h8)⟩
          · exact ⟨_, rfl, sp_229_etfff (q_r a0) (q_i a1) (q_i a2) σ τ1 τ7 r7 g1 (cm0t h2) (cm3f h3) (cm0f h4) g7 (cm0f h8)⟩
    · refine And.intro (fun h9 => ?_) (fun h9 => ?_)
      · exact ⟨_, rfl, sp_229_eft (q_r a0) (q_i a1) (q_i a2) σ τ1 g1 (cm0f h2) (cm3t h9)⟩
      · refine And.intro (fun h10 => ?_) (fun h10 => ?_)
        · refine fun o11 τ11 g11 => ?_
          obtain ⟨r11, rfl, g11⟩ := g11
          refine And.intro (fun h12 => ?_) (fun h12 => ?_)
          · exact ⟨_, rfl, sp_229_efftt (q_r a0) (q_i a1) (q_i a2) σ τ1 τ11 r11 g1 (cm0f h2) (cm3f h9) (cm0t h10) g11 (cm0t h12)⟩
          · exact ⟨_, rfl, sp_229_efftf (q_r a0) (q_i a1) (q_i a2) σ τ1 τ11 r11 g1 (cm0f h2) (cm3f h9) (cm0t h10) g11 (cm0f h12)⟩
        · refine fun o13 τ13 g13 => ?_
          obtain ⟨r13, rfl, g13⟩ := g13
          refine And.intro (fun h14 => ?_) (fun h14 => ?_)
          · exact ⟨_, rfl, sp_229_effft (q_r a0) (q_i a1) (q_i a2) σ τ1 τ13 r13 g1 (cm0f h2) (cm3f h9) (cm0f h10) g13 (cm0t h14)⟩
          · exact ⟨_, rfl, sp_229_effff (q_r a0) (q_i a1) (q_i a2) σ τ1 τ13 r13 g1 (cm0f h2) (cm3f h9) (cm0f h10) g13 (cm0f h14)⟩
noncomputable def rLn (σ : zSg) (W : Nat) (ls : List gLn4) : Prop := ∀ i x, ls[i]? = some x → σ.1 W (1238 + 4 * i) = .int (Int32.ofNat x.1) ∧ σ.1 W (1239 + 4 * i) = .int (Int32.ofNat x.2.1) ∧ σ.1 W (1240 + 4 * i) = .int (Int32.ofNat x.2.2.1) ∧ σ.1 W (1241 + 4 * i) = .int (Int32.ofNat x.2.2.2)
/-- what holds before a text is read -/
noncomputable def rA (σ : zSg) (a W : Nat) (b : Nat → Int) (E : Nat) : Prop := q_r (σ.1 a 8) ≠ a ∧ rb σ a = b ∧ σ.1 a 1 = .ref W ∧ W ≠ a ∧ q_r (σ.1 a 8) ≠ W ∧ σ.2.1 W = 2086 ∧ σ.1 a 9 = .int (Int32.ofNat E) ∧ E ≤ 400 ∧ ∃ D, D ≤ 6 ∧ σ.1 a 13 = .int (Int32.ofNat D)
noncomputable def rFA (σ σ' : zSg) (a W : Nat) : Prop := σ'.2 = σ.2 ∧ ∀ c k, ¬ (c = a ∧ (k = 0 ∨ k = 9 ∨ k = 10 ∨ k = 11 ∨ k = 12 ∨ k = 13 ∨ k = 16)) → ¬ (c = W ∧ 1237 ≤ k) → σ'.1 c k = σ.1 c k
theorem rFA.tr {σ τ υ : zSg} {a W : Nat} (h1 : rFA σ τ a W) (h2 : rFA τ υ a W) : rFA σ υ a W := ⟨h2.1.trans h1.1, fun c k q1 q2 => (h2.2 c k q1 q2).trans (h1.2 c k q1 q2)⟩
theorem rFA.of3 {σ τ : zSg} {a W N : Nat} (h : rF3 σ τ a W N) : rFA σ τ a W := ⟨h.1, fun c k q1 q2 => h.2 c k (fun q => q1 ⟨q.1, by omega⟩) (fun q => q2 ⟨q.1, by omega⟩) (fun q => q2 ⟨q.1, by omega⟩)⟩
theorem rFA.w {σ : zSg} {a W k : Nat} {v : Value} (h : k = 0 ∨ k = 9 ∨ k = 10 ∨ k = 11 ∨ k = 12 ∨ k = 13 ∨ k = 16) : rFA σ (q_w σ a k v) a W := ⟨rfl, fun c i q1 _ => q_w_ne (fun e1 e2 => q1 ⟨e1, by omega⟩)⟩
theorem rFA.us {σ : zSg} {a W : Nat} : rFA σ (q_us σ a) a W := (((rFA.w (by omega)).tr (rFA.w (by omega))).tr (rFA.w (by omega))).tr (rFA.w (by omega))
/-- what stays of the begin: nothing thrown, no tape -/
noncomputable def rZ (σ : zSg) (a : Nat) : Prop := σ.1 a 0 = .int (Int32.ofInt 0) ∧ σ.1 a 9 = .int (Int32.ofInt 0)
theorem rZ.of3 {σ τ : zSg} {a W N : Nat} (h : rF3 σ τ a W N) (hW : W ≠ a) (H : rZ σ a) : rZ τ a := ⟨by rw [h.2 a 0 (fun q => by omega) (fun q => hW q.1.symm) (fun q => hW q.1.symm)]; exact H.1, by rw [h.2 a 9 (fun q => by omega) (fun q => hW q.1.symm) (fun q => hW q.1.symm)]; exact H.2⟩
theorem rLn.of {σ τ : zSg} {a W : Nat} {ls : List gLn4} (h : rF σ τ a W) (hW : W ≠ a) (hl : ls.length ≤ 12) (H : rLn σ W ls) : rLn τ W ls := by
  intro i x hx
  have hi : i < ls.length := (List.getElem?_eq_some_iff.mp hx).1
  rw [h.at hW (by omega), h.at hW (by omega), h.at hW (by omega), h.at hW (by omega)]
  exact H i x hx
theorem rLn.add {σ τ : zSg} {a W N c v x y : Nat} {ls : List gLn4} (h : rF3 σ τ a W N) (hW : W ≠ a) (hN : N = ls.length) (hN2 : N < 12) (H : rLn σ W ls) (h0 : τ.1 W (1238 + 4 * N) = .int (Int32.ofNat c)) (h1 : τ.1 W (1239 + 4 * N) = .int (Int32.ofNat v)) (h2 : τ.1 W (1240 + 4 * N) = .int (Int32.ofNat x)) (h3 : τ.1 W (1241 + 4 * N) = .int (Int32.ofNat y)) : rLn τ W (ls ++ [(c, v, x, y)]) := by
  intro i z hz
  by_cases hi : i < ls.length
  · rw [List.getElem?_append_left hi] at hz
    rw [h.2 W _ (fun q => hW q.1) (fun q => by omega) (fun q => by omega), h.2 W _ (fun q => hW q.1) (fun q => by omega) (fun q => by omega), h.2 W _ (fun q => hW q.1) (fun q => by omega) (fun q => by omega), h.2 W _ (fun q => hW q.1) (fun q => by omega) (fun q => by omega)]
    exact H i z hz
  · rw [List.getElem?_append_right (by omega)] at hz
    have hi2 : i = ls.length := by
      cases hd : i - ls.length with
      | zero => omega
      | succ n => rw [hd] at hz; simp at hz
    subst hi2
    rw [Nat.sub_self] at hz
    cases hz
    subst hN
    exact ⟨h0, h1, h2, h3⟩
/-- ready to read -/
theorem rA.go {σ : zSg} {a W E : Nat} {b : Nat → Int} (H : rA σ a W b E) : ∃ D, rG (q_w (q_us σ a) a 16 (.int (Int32.ofInt 0))) a W b 0 E D [] := by
  obtain ⟨h1, h2, h3, h4, h5, h6, h7, h8, D, hD, h9⟩ := H
  have go : ∀ c k, ¬ (c = a ∧ (k = 0 ∨ k = 9 ∨ k = 10 ∨ k = 11 ∨ k = 16)) → (q_w (q_us σ a) a 16 (.int (Int32.ofInt 0))).1 c k = σ.1 c k := by
    intro c k q
    unfold q_us
    rw [q_w_ne (fun e1 e2 => q ⟨e1, by omega⟩), q_w_ne (fun e1 e2 => q ⟨e1, by omega⟩), q_w_ne (fun e1 e2 => q ⟨e1, by omega⟩), q_w_ne (fun e1 e2 => q ⟨e1, by omega⟩), q_w_ne (fun e1 e2 => q ⟨e1, by omega⟩)]
  refine ⟨D, ⟨?_, ?_, ?_, Nat.zero_le _, h8⟩, ?_, ?_, h4, ?_, h6, ?_, hD, ?_, Nat.zero_le _, fun i x hx => by simp at hx⟩
  · rw [go _ _ (fun q => by omega)]; exact h1
  · unfold q_us
    rw [q_w_ne (fun _ q => by omega), q_w_at]
    rfl
  · unfold q_us
    rw [q_w_ne (fun _ q => by omega), q_w_ne (fun _ q => by omega), q_w_ne (fun _ q => by omega), q_w_at, h7]
    rfl
  · rw [← h2]
    funext i
    unfold rb
    rw [go a 8 (fun q => by omega), go _ _ (fun q => h1 q.1)]
  · rw [go _ _ (fun q => by omega)]; exact h3
  · rw [go _ _ (fun q => by omega)]; exact h5
  · rw [go _ _ (fun q => by omega)]; exact h9
  · rw [q_w_at]; rfl
theorem rA.z {σ : zSg} {a : Nat} : rZ (q_w (q_us σ a) a 16 (.int (Int32.ofInt 0))) a := by
  unfold q_us
  refine ⟨?_, ?_⟩
  · rw [q_w_ne (fun _ q => by omega), q_w_ne (fun _ q => by omega), q_w_ne (fun _ q => by omega), q_w_ne (fun _ q => by omega), q_w_at]
  · rw [q_w_ne (fun _ q => by omega), q_w_ne (fun _ q => by omega), q_w_at]
theorem rG.bk {σ τ : zSg} {a W P E D : Nat} {b : Nat → Int} {l : zSs} (H : rG σ a W b P E D l) (G : p_202 a σ τ) : rF σ τ a W ∧ τ.1 a 12 = .int (Int32.ofNat (zBl b E P)) ∧ rG τ a W b (zBl b E P) E D l := by
  have := G P E H.1
  rw [H.2.1] at this
  subst this
  exact ⟨rF.rs, q_rs_12, H.rs H.bl⟩
abbrev rT (σ' : zSg) (a W : Nat) (r : Int32) (R : (List gLn4 × zSs) ⊕ Nat) : Prop := match R with
  | .inl (ls, l) => r = Int32.ofNat ls.length ∧ ls.length ≤ 12 ∧ l.length ≤ 400 ∧ rLn σ' W ls ∧ ∀ i x, l[i]? = some x → σ'.1 W (1286 + 2 * i) = .int (Int32.ofNat x.1) ∧ σ'.1 W (1287 + 2 * i) = .int (Int32.ofNat x.2)
  | .inr F => r.toInt = -1 ∧ σ'.1 a 12 = .int (Int32.ofNat F)
noncomputable def p_230 (a : Nat) (dd : Int32) (σ : zSg) (r : Int32) (σ' : zSg) : Prop := dd.toInt = 0 → ∀ W b E, rA σ a W b E → rFA σ σ' a W ∧ rZ σ' a ∧ ∃ R, GLaw b E R ∧ rT σ' a W r R
noncomputable def i_230 (a : Nat) (dd : Int32) (σ : zSg) (l0 : Nat) (l1 l2 : Int32) (τ : zSg) : Prop := l0 = a ∧ l1 = dd ∧ (dd.toInt = 0 → ∀ W b E, rA σ a W b E → rFA σ τ a W ∧ rZ τ a ∧ ∃ P D N ls l, l2 = Int32.ofNat N ∧ N = ls.length ∧ N ≤ 12 ∧ rG τ a W b P E D l ∧ rLn τ W ls ∧ ∀ R, GT b E (zBl b E P) ls l R → GLaw b E R)
theorem rG.e11 {σ : zSg} {a W P E D : Nat} {b : Nat → Int} {l : zSs} (H : rG σ a W b P E D l) : (q_i (σ.1 a 11)).toInt = (E : Int) ∧ (q_i (σ.1 a 10)).toInt = (P : Int) := by
  have hl := H.le
  rw [H.1.2.2.1, H.1.2.1]
  exact ⟨o32 (by omega), o32 (by omega)⟩
theorem sp_230_et (a0 : Nat) (a1 : Int32) (σ : zSg) (τ1 : zSg) (τ2 : zSg) (g1 : p_210 a0 σ τ1) (g2 : p_202 a0 (q_w τ1 a0 16 (.int (Int32.ofInt (0)))) τ2) (h3 : (q_i (τ2.1 a0 10)).toInt ≠ (q_i (τ2.1 a0 11)).toInt) :
    i_230 a0 a1 σ a0 a1 (Int32.ofInt (0)) τ2 := by
  refine ⟨rfl, rfl, ?_⟩
  intro hd W b E H
  obtain rfl := g1
  obtain ⟨D, H0⟩ := H.go
  obtain ⟨f1, t12, H1⟩ := H0.bk g2
  have hz := rA.z (σ := σ) (a := a0)
  have hW := H1.2.2.2.1
  have hz1 := rZ.of3 (N := 0) (rF3.of f1) hW hz
  have fa : rFA σ τ2 a0 W := (rFA.us.tr (rFA.w (by omega))).tr (rFA.of3 (N := 0) (rF3.of f1))
  obtain ⟨e11, e10⟩ := H1.e11
  rw [e11, e10] at h3
  refine ⟨fa, hz1, zBl b E 0, D, 0, [], [], rfl, rfl, by omega, H1, fun i x hx => by simp at hx, fun R hR => Or.inr ⟨by omega, ?_⟩⟩
  rw [zBl_bl] at hR
  exact hR
theorem sp_230_ef (a0 : Nat) (a1 : Int32) (σ : zSg) (τ1 : zSg) (τ2 : zSg) (g1 : p_210 a0 σ τ1) (g2 : p_202 a0 (q_w τ1 a0 16 (.int (Int32.ofInt (0)))) τ2) (h3 : (q_i (τ2.1 a0 10)).toInt = (q_i (τ2.1 a0 11)).toInt) :
    p_230 (a0) (a1) σ (Int32.ofInt (0)) τ2 := by
  intro hd W b E H
  obtain rfl := g1
  obtain ⟨D, H0⟩ := H.go
  obtain ⟨f1, t12, H1⟩ := H0.bk g2
  have hz := rA.z (σ := σ) (a := a0)
  have hW := H1.2.2.2.1
  have hz1 := rZ.of3 (N := 0) (rF3.of f1) hW hz
  have fa : rFA σ τ2 a0 W := (rFA.us.tr (rFA.w (by omega))).tr (rFA.of3 (N := 0) (rF3.of f1))
  obtain ⟨e11, e10⟩ := H1.e11
  rw [e11, e10] at h3
  exact ⟨fa, hz1, _, Or.inl ⟨by omega, rfl⟩, rfl, (by show 0 ≤ 12; omega), (by show 0 ≤ 400; omega), fun i x hx => by simp at hx, fun i x hx => by simp at hx⟩
theorem sp_230_c16_ttt (a0 : Nat) (a1 : Int32) (σ : zSg) (l0 : Nat) (l1 : Int32) (l2 : Int32) (τ : zSg) (τ4 : zSg) (r4 : Int32) (τ6 : zSg) (τ8 : zSg) (r8 : Int32) (hI : i_230 a0 a1 σ l0 l1 l2 τ) (g4 : p_229 l0 l1 l2 τ r4 τ4) (h5 : r4.toInt ≠ (0 : Int)) (g6 : p_202 l0 τ4 τ6) (h7 : (q_i (τ6.1 l0 10)).toInt ≠ (q_i (τ6.1 l0 11)).toInt) (g8 : p_201 l0 (Int32.ofInt (59)) (Int32.ofInt (59)) τ6 r8 τ8) (h9 : r8.toInt ≠ (0 : Int)) :
    i_230 a0 a1 σ l0 l1 (l2 + Int32.ofInt (1)) (q_w τ8 l0 10 (.int ((q_i (τ8.1 l0 10)) + (Int32.ofInt (1))))) := by
  obtain ⟨rfl, rfl, G⟩ := hI
  refine ⟨rfl, rfl, fun hd W b E H => ?_⟩
  obtain ⟨fa, hz, P, D, N, ls, l, rfl, hN, hN12, H1, hl, hR⟩ := G hd W b E H
  have hW := H1.2.2.2.1
  have hle := H1.le
  obtain ⟨f1, v12, v⟩ := g4 hd W b P E D l N H1 rfl hN12
  have hlt : N < 12 := by
    by_cases q : N = 12
    · exact absurd (v12 q).1 h5
    · omega
  obtain ⟨R, g1, g2⟩ := v hlt
  cases R with
  | inr F => exact absurd g2.1 h5
  | inl q =>
  obtain ⟨A1, c, w, m⟩ := q
  obtain ⟨-, ⟨P2, p2, rfl, H2x⟩, w0, w1, w2, w3⟩ := g2
  obtain ⟨f2, s12, H3x⟩ := H2x.bk g6
  have hz3 := rZ.of3 (N := 0) (rF3.of f2) hW (rZ.of3 f1 hW hz)
  have fa3 := (fa.tr (rFA.of3 f1)).tr (rFA.of3 (N := 0) (rF3.of f2))
  have hl3 := (rLn.add f1 hW hN hlt hl w0 w1 w2 w3)
  have hl4 : rLn τ6 W (ls ++ [(c, w, l.length, (l ++ m).length)]) := rLn.of f2 hW (by rw [List.length_append]; show ls.length + 1 ≤ 12; omega) hl3
  obtain ⟨e11, e10⟩ := H3x.e11
  rw [e11, e10] at h7
  have eA : zBl b E P2 ≠ E := by omega
  have hc := g8.t H3x.1 h9
  rw [H3x.2.1] at hc
  have c59 : (Int32.ofInt 59).toInt = 59 := rfl
  have e1 : ts b E 59 (zBl b E P2) = some (zBl b E (zBl b E P2 + 1)) := by
    unfold ts
    rw [if_pos ⟨hc.1, by omega⟩]
  rw [g8.1]
  have e9 : q_i (τ6.1 l0 10) + Int32.ofInt 1 = Int32.ofNat (zBl b E P2 + 1) := by
    rw [H3x.1.2.1]
    exact o32i (by omega)
  rw [e9]
  have H4x := H3x.pt (K := zBl b E P2 + 1) (by omega)
  have f4 : rF τ6 (q_w τ6 l0 10 (.int (Int32.ofNat (zBl b E P2 + 1)))) l0 W := rF.w (by omega)
  refine ⟨fa3.tr (rFA.of3 (N := 0) (rF3.of f4)), rZ.of3 (N := 0) (rF3.of f4) hW hz3, _, _, N + 1, _, _, o32i (by omega), ?_, by omega, H4x, rLn.of f4 hW (by rw [List.length_append]; show ls.length + 1 ≤ 12; omega) hl4, fun R h9 => hR R (GT.step (by omega) g1 eA e1 h9)⟩
  rw [List.length_append, hN]; rfl
theorem sp_230_c16_ttf (a0 : Nat) (a1 : Int32) (σ : zSg) (l0 : Nat) (l1 : Int32) (l2 : Int32) (τ : zSg) (τ4 : zSg) (r4 : Int32) (τ6 : zSg) (τ8 : zSg) (r8 : Int32) (hI : i_230 a0 a1 σ l0 l1 l2 τ) (g4 : p_229 l0 l1 l2 τ r4 τ4) (h5 : r4.toInt ≠ (0 : Int)) (g6 : p_202 l0 τ4 τ6) (h7 : (q_i (τ6.1 l0 10)).toInt ≠ (q_i (τ6.1 l0 11)).toInt) (g8 : p_201 l0 (Int32.ofInt (59)) (Int32.ofInt (59)) τ6 r8 τ8) (h9 : r8.toInt = (0 : Int)) :
    p_230 (a0) (a1) σ (Int32.ofInt (-1)) τ8 := by
  obtain ⟨rfl, rfl, G⟩ := hI
  intro hd W b E H
  obtain ⟨fa, hz, P, D, N, ls, l, rfl, hN, hN12, H1, hl, hR⟩ := G hd W b E H
  have hW := H1.2.2.2.1
  have hle := H1.le
  obtain ⟨f1, v12, v⟩ := g4 hd W b P E D l N H1 rfl hN12
  have hlt : N < 12 := by
    by_cases q : N = 12
    · exact absurd (v12 q).1 h5
    · omega
  obtain ⟨R, g1, g2⟩ := v hlt
  cases R with
  | inr F => exact absurd g2.1 h5
  | inl q =>
  obtain ⟨A1, c, w, m⟩ := q
  obtain ⟨-, ⟨P2, p2, rfl, H2x⟩, w0, w1, w2, w3⟩ := g2
  obtain ⟨f2, s12, H3x⟩ := H2x.bk g6
  have hz3 := rZ.of3 (N := 0) (rF3.of f2) hW (rZ.of3 f1 hW hz)
  have fa3 := (fa.tr (rFA.of3 f1)).tr (rFA.of3 (N := 0) (rF3.of f2))
  have hl3 := (rLn.add f1 hW hN hlt hl w0 w1 w2 w3)
  have hl4 : rLn τ6 W (ls ++ [(c, w, l.length, (l ++ m).length)]) := rLn.of f2 hW (by rw [List.length_append]; show ls.length + 1 ≤ 12; omega) hl3
  obtain ⟨e11, e10⟩ := H3x.e11
  rw [e11, e10] at h7
  have eA : zBl b E P2 ≠ E := by omega
  have hc := g8.f H3x.1 h9
  have e1 : ts b E 59 (zBl b E P2) = none := by
    unfold ts
    rw [if_neg]
    intro q
    rw [H3x.2.1] at hc
    have c59 : (Int32.ofInt 59).toInt = 59 := rfl
    exact hc ⟨q.1, by omega, by omega⟩
  rw [g8.1]
  exact ⟨fa3, hz3, _, hR _ (GT.semi (by omega) g1 eA e1), by decide, s12⟩
theorem sp_230_c16_tf (a0 : Nat) (a1 : Int32) (σ : zSg) (l0 : Nat) (l1 : Int32) (l2 : Int32) (τ : zSg) (τ4 : zSg) (r4 : Int32) (τ6 : zSg) (hI : i_230 a0 a1 σ l0 l1 l2 τ) (g4 : p_229 l0 l1 l2 τ r4 τ4) (h5 : r4.toInt ≠ (0 : Int)) (g6 : p_202 l0 τ4 τ6) (h7 : (q_i (τ6.1 l0 10)).toInt = (q_i (τ6.1 l0 11)).toInt) :
    p_230 (a0) (a1) σ (l2 + (Int32.ofInt (1))) τ6 := by
  obtain ⟨rfl, rfl, G⟩ := hI
  intro hd W b E H
  obtain ⟨fa, hz, P, D, N, ls, l, rfl, hN, hN12, H1, hl, hR⟩ := G hd W b E H
  have hW := H1.2.2.2.1
  have hle := H1.le
  obtain ⟨f1, v12, v⟩ := g4 hd W b P E D l N H1 rfl hN12
  have hlt : N < 12 := by
    by_cases q : N = 12
    · exact absurd (v12 q).1 h5
    · omega
  obtain ⟨R, g1, g2⟩ := v hlt
  cases R with
  | inr F => exact absurd g2.1 h5
  | inl q =>
  obtain ⟨A1, c, w, m⟩ := q
  obtain ⟨-, ⟨P2, p2, rfl, H2x⟩, w0, w1, w2, w3⟩ := g2
  obtain ⟨f2, s12, H3x⟩ := H2x.bk g6
  have hz3 := rZ.of3 (N := 0) (rF3.of f2) hW (rZ.of3 f1 hW hz)
  have fa3 := (fa.tr (rFA.of3 f1)).tr (rFA.of3 (N := 0) (rF3.of f2))
  have hl3 := (rLn.add f1 hW hN hlt hl w0 w1 w2 w3)
  have hl4 : rLn τ6 W (ls ++ [(c, w, l.length, (l ++ m).length)]) := rLn.of f2 hW (by rw [List.length_append]; show ls.length + 1 ≤ 12; omega) hl3
  obtain ⟨e11, e10⟩ := H3x.e11
  rw [e11, e10] at h7
  have eA : zBl b E P2 = E := by omega
  rw [eA] at g1
  refine ⟨fa3, hz3, _, hR _ (GT.last (by omega) g1), ?_, ?_, H3x.2.2.2.2.2.2.2.2.2.1, hl4, H3x.2.2.2.2.2.2.2.2.2.2⟩
  · rw [List.length_append, o32i (by omega), hN]; rfl
  · rw [List.length_append]; show ls.length + 1 ≤ 12; omega
theorem sp_230_c16_f (a0 : Nat) (a1 : Int32) (σ : zSg) (l0 : Nat) (l1 : Int32) (l2 : Int32) (τ : zSg) (τ4 : zSg) (r4 : Int32) (hI : i_230 a0 a1 σ l0 l1 l2 τ) (g4 : p_229 l0 l1 l2 τ r4 τ4) (h5 : r4.toInt = (0 : Int)) :
    p_230 (a0) (a1) σ (Int32.ofInt (-1)) τ4 := by
  obtain ⟨rfl, rfl, G⟩ := hI
  intro hd W b E H
  obtain ⟨fa, hz, P, D, N, ls, l, rfl, hN, hN12, H1, hl, hR⟩ := G hd W b E H
  have hW := H1.2.2.2.1
  have hle := H1.le
  obtain ⟨f1, v12, v⟩ := g4 hd W b P E D l N H1 rfl hN12
  refine ⟨fa.tr (rFA.of3 f1), rZ.of3 f1 hW hz, ?_⟩
  by_cases q : N = 12
  · exact ⟨_, hR _ (GT.full (by omega)), by decide, (v12 q).2⟩
  · obtain ⟨R, g1, g2⟩ := v (by omega)
    cases R with
    | inl q => exact absurd h5 g2.1
    | inr F => exact ⟨_, hR _ (GT.bad (by omega) g1), by decide, g2.2⟩
noncomputable def qP_230 : zPp := fun as σ o σ' => match as with
  | [a0, a1] => ∃ r, o = .inl (some (.int r)) ∧ p_230 (q_r a0) (q_i a1) σ r σ'
  | _ => True
set_option maxRecDepth 100000 in
theorem sp_230 {sx : zX} (S210 : zEe sx 210 1 qP_210) (S202 : zEe sx 202 1 qP_202) (S229 : zEe sx 229 3 qP_229) (S201 : zEe sx 201 3 qP_201) : zEe sx 230 2 qP_230 := by
  refine zfle zJ_230 (sps := [(210, 1, qP_210), (202, 1, qP_202), (229, 3, qP_229), (201, 3, qP_201)]) (fun q hq => by
    simp only [List.mem_cons, List.not_mem_nil, or_false] at hq
    rcases hq with rfl | rfl | rfl | rfl
    · exact S210
    · exact S202
    · exact S229
    · exact S201) (fun as σ hl => ?_)
  match as, hl with
  | [a0, a1], _ =>
  refine ⟨[(16, fun lo st τ => st = [] ∧ i_230 (q_r a0) (q_i a1) σ (q_r (lo 0)) (q_i (lo 1)) (q_i (lo 2)) τ)], 400, ?_, ?_⟩
  · intro q hq
    simp only [List.mem_cons, List.not_mem_nil, or_false] at hq
    rcases hq with rfl
    · rintro lo st τ ⟨rfl, hI⟩
      refine ⟨400, ?_⟩
      refine fun o4 τ4 g4 => ?_
      obtain ⟨r4, rfl, g4⟩ := g4
      refine And.intro (fun h5 => ?_) (fun h5 => ?_)
      · refine fun o6 τ6 g6 => ?_
        obtain ⟨rfl, g6⟩ := g6
        refine And.intro (fun h7 => ?_) (fun h7 => ?_)
        · refine fun o8 τ8 g8 => ?_
          obtain ⟨r8, rfl, g8⟩ := g8
          refine And.intro (fun h9 => ?_) (fun h9 => ?_)
          · exact ⟨rfl, sp_230_c16_ttt (q_r a0) (q_i a1) σ (q_r (lo 0)) (q_i (lo 1)) (q_i (lo 2)) τ τ4 r4 τ6 τ8 r8 hI g4 (cm1t h5) g6 (cm1t h7) g8 (cm1t h9)⟩
          · exact ⟨_, rfl, sp_230_c16_ttf (q_r a0) (q_i a1) σ (q_r (lo 0)) (q_i (lo 1)) (q_i (lo 2)) τ τ4 r4 τ6 τ8 r8 hI g4 (cm1t h5) g6 (cm1t h7) g8 (cm1f h9)⟩
        · exact ⟨_, rfl, sp_230_c16_tf (q_r a0) (q_i a1) σ (q_r (lo 0)) (q_i (lo 1)) (q_i (lo 2)) τ τ4 r4 τ6 hI g4 (cm1t h5) g6 (cm1f h7)⟩
      · exact ⟨_, rfl, sp_230_c16_f (q_r a0) (q_i a1) σ (q_r (lo 0)) (q_i (lo 1)) (q_i (lo 2)) τ τ4 r4 hI g4 (cm1f h5)⟩
  · refine fun o1 τ1 g1 => ?_
    obtain ⟨rfl, g1⟩ := g1
    refine fun o2 τ2 g2 => ?_
    obtain ⟨rfl, g2⟩ := g2
    refine And.intro (fun h3 => ?_) (fun h3 => ?_)
    · exact ⟨rfl, sp_230_et (q_r a0) (q_i a1) σ τ1 τ2 g1 g2 (cm1t h3)⟩
    · exact ⟨_, rfl, sp_230_ef (q_r a0) (q_i a1) σ τ1 τ2 g1 g2 (cm1f h3)⟩
noncomputable def rCp (σ : zSg) (W K : Nat) : zSg := (fun c k => if c = W ∧ 388 ≤ k ∧ k < 388 + K then .int (q_i (σ.1 W (k + 849))) else σ.1 c k, σ.2)
noncomputable def rLT (σ : zSg) (W : Nat) (ls : List gLn4) (l : zSs) : Prop := σ.1 W 388 = .int (Int32.ofNat ls.length) ∧ (∀ i x, ls[i]? = some x → σ.1 W (389 + 4 * i) = .int (Int32.ofNat x.1) ∧ σ.1 W (390 + 4 * i) = .int (Int32.ofNat x.2.1) ∧ σ.1 W (391 + 4 * i) = .int (Int32.ofNat x.2.2.1) ∧ σ.1 W (392 + 4 * i) = .int (Int32.ofNat x.2.2.2)) ∧ ∀ i x, l[i]? = some x → σ.1 W (437 + 2 * i) = .int (Int32.ofNat x.1) ∧ σ.1 W (438 + 2 * i) = .int (Int32.ofNat x.2)
noncomputable def rFL (σ σ' : zSg) (a W : Nat) : Prop := σ'.2 = σ.2 ∧ ∀ c k, ¬ (c = a ∧ (k = 0 ∨ k = 7 ∨ (9 ≤ k ∧ k ≤ 14) ∨ k = 16)) → ¬ (c = W ∧ (k = 3 ∨ 388 ≤ k)) → σ'.1 c k = σ.1 c k
abbrev rLw (σ σ' : zSg) (a W : Nat) (r : Int32) (R : (List gLn4 × zSs) ⊕ Nat) : Prop := match R with
  | .inl (ls, l) => r = Int32.ofNat ls.length ∧ ls.length ≤ 12 ∧ σ'.1 a 0 = .int (Int32.ofInt 0) ∧ σ'.1 a 14 = .int (Int32.ofInt (-1)) ∧ σ'.1 a 7 = .int (Int32.ofInt 0) ∧ σ'.1 W 3 = .int (Int32.ofInt 1) ∧ l.length ≤ 400 ∧ rLT σ' W ls l
  | .inr F => r = Int32.ofInt 0 ∧ σ'.1 a 0 = .int (Int32.ofInt 1) ∧ σ'.1 a 14 = .int (Int32.ofNat F) ∧ σ'.1 a 7 = σ.1 a 7 ∧ ∀ k, k < 1237 → σ'.1 W k = σ.1 W k
noncomputable def p_232 (a : Nat) (σ : zSg) (r : Int32) (σ' : zSg) : Prop := ∀ W b E, rA σ a W b E → rFL σ σ' a W ∧ σ'.1 a 9 = .int (Int32.ofInt 0) ∧ ∃ R, GLaw b E R ∧ rLw σ σ' a W r R
noncomputable def i_232 (a : Nat) (σ : zSg) (l0 : Nat) (n k : Int32) (τ : zSg) : Prop := l0 = a ∧ ∀ W b E, rA σ a W b E → W ≠ a ∧ ∃ σ1 K ls l, k = Int32.ofNat K ∧ K ≤ 849 ∧ τ = rCp σ1 W K ∧ GLaw b E (.inl (ls, l)) ∧ n = Int32.ofNat ls.length ∧ ls.length ≤ 12 ∧ l.length ≤ 400 ∧ rFL σ σ1 a W ∧ σ1.1 a 9 = .int (Int32.ofInt 0) ∧ σ1.1 a 0 = .int (Int32.ofInt 0) ∧ σ1.1 a 14 = .int (Int32.ofInt (-1)) ∧ σ1.1 a 1 = .ref W ∧ σ1.1 W 1237 = .int (Int32.ofNat ls.length) ∧ rLn σ1 W ls ∧ ∀ i x, l[i]? = some x → σ1.1 W (1286 + 2 * i) = .int (Int32.ofNat x.1) ∧ σ1.1 W (1287 + 2 * i) = .int (Int32.ofNat x.2)
theorem rFL.ofA {σ τ : zSg} {a W : Nat} (h : rFA σ τ a W) : rFL σ τ a W := ⟨h.1, fun c k q1 q2 => h.2 c k (fun q => q1 ⟨q.1, by omega⟩) (fun q => q2 ⟨q.1, by omega⟩)⟩
theorem rFL.tr {σ τ υ : zSg} {a W : Nat} (h1 : rFL σ τ a W) (h2 : rFL τ υ a W) : rFL σ υ a W := ⟨h2.1.trans h1.1, fun c k q1 q2 => (h2.2 c k q1 q2).trans (h1.2 c k q1 q2)⟩
theorem rFL.w {σ : zSg} {a W k : Nat} {v : Value} (h : k = 0 ∨ k = 7 ∨ (9 ≤ k ∧ k ≤ 14) ∨ k = 16) : rFL σ (q_w σ a k v) a W := ⟨rfl, fun c i q1 _ => q_w_ne (fun e1 e2 => q1 ⟨e1, by omega⟩)⟩
theorem rFL.ww {σ : zSg} {a W k : Nat} {v : Value} (h : k = 3 ∨ 388 ≤ k) : rFL σ (q_w σ W k v) a W := ⟨rfl, fun c i _ q2 => q_w_ne (fun e1 e2 => q2 ⟨e1, by omega⟩)⟩
theorem rCp_ne {σ : zSg} {W K c k : Nat} (h : ¬ (c = W ∧ 388 ≤ k ∧ k < 388 + K)) : (rCp σ W K).1 c k = σ.1 c k := if_neg h
theorem rCp_at {σ : zSg} {W K k : Nat} (h : 388 ≤ k ∧ k < 388 + K) : (rCp σ W K).1 W k = .int (q_i (σ.1 W (k + 849))) := if_pos ⟨rfl, h⟩
theorem rFL.cp {σ : zSg} {a W K : Nat} : rFL σ (rCp σ W K) a W := ⟨rfl, fun c k _ q2 => rCp_ne (fun q => q2 ⟨q.1, by omega⟩)⟩
theorem rCp_0 {σ : zSg} {W : Nat} : σ = rCp σ W 0 := by
  refine Prod.ext ?_ rfl
  funext c k
  exact (rCp_ne (fun q => by omega)).symm
theorem rCp_s {σ : zSg} {W K : Nat} (hK : K < 849) : q_w (rCp σ W K) W (388 + K) (.int (q_i ((rCp σ W K).1 W (1237 + K)))) = rCp σ W (K + 1) := by
  refine Prod.ext ?_ rfl
  funext c k
  rw [rCp_ne (k := 1237 + K) (fun q => by omega)]
  by_cases h1 : c = W ∧ k = 388 + K
  · obtain ⟨rfl, rfl⟩ := h1
    rw [q_w_at, rCp_at (by omega), show 388 + K + 849 = 1237 + K by omega]
  · rw [q_w_ne (fun e1 e2 => h1 ⟨e1, e2⟩)]
    by_cases h2 : c = W ∧ 388 ≤ k ∧ k < 388 + K
    · obtain ⟨rfl, h2⟩ := h2
      rw [rCp_at h2, rCp_at (by omega)]
    · rw [rCp_ne h2, rCp_ne (fun q => h2 ⟨q.1, q.2.1, by have := fun e => h1 ⟨q.1, e⟩; omega⟩)]
theorem sp_232_ettt (a0 : Nat) (σ : zSg) (τ1 : zSg) (r1 : Int32) (τ4 : zSg) (r4 : Int32) (g1 : p_230 a0 (Int32.ofInt (0)) σ r1 τ1) (h2 : r1.toInt ≥ (0 : Int)) (h3 : r1.toInt ≥ (0 : Int)) (g4 : p_176 a0 (Int32.ofInt (0)) (Int32.ofInt (1)) (q_w τ1 a0 14 (.int (Int32.ofInt (-1)))) r4 τ4) (h5 : r4.toInt = (0 : Int)) (h6 : 0 ≤ (Int32.ofInt (1237)).toInt ∧ (Int32.ofInt (1237)).toInt < (τ4.2.1 (q_r (τ4.1 a0 1)) : Int)) :
    i_232 a0 σ a0 r1 (Int32.ofInt (0)) (q_w τ4 (q_r (τ4.1 a0 1)) (Int32.ofInt (1237)).toNatClampNeg (.int r1)) := by
  refine ⟨rfl, fun W b E H => ?_⟩
  have hW := H.2.2.2.1
  obtain ⟨fa, hz, R, hR, hT⟩ := g1 rfl W b E H
  cases R with
  | inr F =>
    exfalso
    have := hT.1
    omega
  | inl q =>
  obtain ⟨ls, l⟩ := q
  obtain ⟨e1, e2, e3, e4, e5⟩ := hT
  obtain rfl := (g4.2.2 rfl).symm
  have ne : ∀ k, (q_w τ1 a0 14 (.int (Int32.ofInt (-1)))).1 W k = τ1.1 W k := fun k => q_w_ne (fun q _ => hW q)
  have q1 : τ1.1 a0 1 = .ref W := by rw [fa.2 a0 1 (fun q => by omega) (fun q => hW q.1.symm)]; exact H.2.2.1
  have q1x : q_r ((q_w τ1 a0 14 (.int (Int32.ofInt (-1)))).1 a0 1) = W := by rw [q_w_ne (fun _ q => by omega), q1]; rfl
  have k1 : (Int32.ofInt 1237).toNatClampNeg = 1237 := rfl
  rw [q1x, k1]
  have na : ∀ k, k ≠ 14 → (q_w (q_w τ1 a0 14 (.int (Int32.ofInt (-1)))) W 1237 (.int r1)).1 a0 k = τ1.1 a0 k := by
    intro k hk
    rw [q_w_ne (fun q _ => hW q.symm), q_w_ne (fun _ q => hk q)]
  have nw : ∀ k, k ≠ 1237 → (q_w (q_w τ1 a0 14 (.int (Int32.ofInt (-1)))) W 1237 (.int r1)).1 W k = τ1.1 W k := by
    intro k hk
    rw [q_w_ne (fun _ q => hk q), ne]
  refine ⟨hW, _, 0, ls, l, rfl, by omega, rCp_0, hR, e1, e2, e3, ((rFL.ofA fa).tr (rFL.w (by omega))).tr (rFL.ww (by omega)), ?_, ?_, ?_, ?_, ?_, ?_, ?_⟩
  · rw [na 9 (by omega)]; exact hz.2
  · rw [na 0 (by omega)]; exact hz.1
  · rw [q_w_ne (fun q _ => hW q.symm), q_w_at]
  · rw [na 1 (by omega)]; exact q1
  · rw [q_w_at, e1]
  · intro i x hx
    rw [nw _ (by omega), nw _ (by omega), nw _ (by omega), nw _ (by omega)]
    exact e4 i x hx
  · intro i x hx
    rw [nw _ (by omega), nw _ (by omega)]
    exact e5 i x hx
theorem sp_232_ettf (a0 : Nat) (σ : zSg) (τ1 : zSg) (r1 : Int32) (τ4 : zSg) (r4 : Int32) (g1 : p_230 a0 (Int32.ofInt (0)) σ r1 τ1) (h2 : r1.toInt ≥ (0 : Int)) (h3 : r1.toInt ≥ (0 : Int)) (g4 : p_176 a0 (Int32.ofInt (0)) (Int32.ofInt (1)) (q_w τ1 a0 14 (.int (Int32.ofInt (-1)))) r4 τ4) (h5 : r4.toInt ≠ (0 : Int)) :
    p_232 (a0) σ (Int32.ofInt (0)) τ4 := by
  have := g4.1
  rw [this] at h5
  exact absurd rfl h5
theorem sp_232_etft (a0 : Nat) (σ : zSg) (τ1 : zSg) (r1 : Int32) (τ7 : zSg) (r7 : Int32) (g1 : p_230 a0 (Int32.ofInt (0)) σ r1 τ1) (h2 : r1.toInt ≥ (0 : Int)) (h3 : r1.toInt < (0 : Int)) (g7 : p_176 a0 (Int32.ofInt (1)) (Int32.ofInt (1)) (q_w τ1 a0 14 (.int (Int32.ofInt (-1)))) r7 τ7) (h8 : r7.toInt = (0 : Int)) (h9 : 0 ≤ (Int32.ofInt (1237)).toInt ∧ (Int32.ofInt (1237)).toInt < (τ7.2.1 (q_r (τ7.1 a0 1)) : Int)) :
    i_232 a0 σ a0 r1 (Int32.ofInt (0)) (q_w τ7 (q_r (τ7.1 a0 1)) (Int32.ofInt (1237)).toNatClampNeg (.int r1)) := by
  exfalso
  omega
theorem sp_232_etff (a0 : Nat) (σ : zSg) (τ1 : zSg) (r1 : Int32) (τ7 : zSg) (r7 : Int32) (g1 : p_230 a0 (Int32.ofInt (0)) σ r1 τ1) (h2 : r1.toInt ≥ (0 : Int)) (h3 : r1.toInt < (0 : Int)) (g7 : p_176 a0 (Int32.ofInt (1)) (Int32.ofInt (1)) (q_w τ1 a0 14 (.int (Int32.ofInt (-1)))) r7 τ7) (h8 : r7.toInt ≠ (0 : Int)) :
    p_232 (a0) σ (Int32.ofInt (0)) τ7 := by
  exfalso
  omega
theorem sp_232_eftt (a0 : Nat) (σ : zSg) (τ1 : zSg) (r1 : Int32) (τ11 : zSg) (r11 : Int32) (g1 : p_230 a0 (Int32.ofInt (0)) σ r1 τ1) (h2 : r1.toInt < (0 : Int)) (h10 : r1.toInt ≥ (0 : Int)) (g11 : p_176 a0 (Int32.ofInt (0)) (Int32.ofInt (1)) (q_w τ1 a0 14 (.int (q_i (τ1.1 a0 12)))) r11 τ11) (h12 : r11.toInt = (0 : Int)) (h13 : 0 ≤ (Int32.ofInt (1237)).toInt ∧ (Int32.ofInt (1237)).toInt < (τ11.2.1 (q_r (τ11.1 a0 1)) : Int)) :
    i_232 a0 σ a0 r1 (Int32.ofInt (0)) (q_w τ11 (q_r (τ11.1 a0 1)) (Int32.ofInt (1237)).toNatClampNeg (.int r1)) := by
  exfalso
  omega
theorem sp_232_eftf (a0 : Nat) (σ : zSg) (τ1 : zSg) (r1 : Int32) (τ11 : zSg) (r11 : Int32) (g1 : p_230 a0 (Int32.ofInt (0)) σ r1 τ1) (h2 : r1.toInt < (0 : Int)) (h10 : r1.toInt ≥ (0 : Int)) (g11 : p_176 a0 (Int32.ofInt (0)) (Int32.ofInt (1)) (q_w τ1 a0 14 (.int (q_i (τ1.1 a0 12)))) r11 τ11) (h12 : r11.toInt ≠ (0 : Int)) :
    p_232 (a0) σ (Int32.ofInt (0)) τ11 := by
  exfalso
  omega
theorem sp_232_efft (a0 : Nat) (σ : zSg) (τ1 : zSg) (r1 : Int32) (τ14 : zSg) (r14 : Int32) (g1 : p_230 a0 (Int32.ofInt (0)) σ r1 τ1) (h2 : r1.toInt < (0 : Int)) (h10 : r1.toInt < (0 : Int)) (g14 : p_176 a0 (Int32.ofInt (1)) (Int32.ofInt (1)) (q_w τ1 a0 14 (.int (q_i (τ1.1 a0 12)))) r14 τ14) (h15 : r14.toInt = (0 : Int)) (h16 : 0 ≤ (Int32.ofInt (1237)).toInt ∧ (Int32.ofInt (1237)).toInt < (τ14.2.1 (q_r (τ14.1 a0 1)) : Int)) :
    i_232 a0 σ a0 r1 (Int32.ofInt (0)) (q_w τ14 (q_r (τ14.1 a0 1)) (Int32.ofInt (1237)).toNatClampNeg (.int r1)) := by
  have := g14.1
  rw [this] at h15
  exact absurd h15 (by decide)
theorem sp_232_efff (a0 : Nat) (σ : zSg) (τ1 : zSg) (r1 : Int32) (τ14 : zSg) (r14 : Int32) (g1 : p_230 a0 (Int32.ofInt (0)) σ r1 τ1) (h2 : r1.toInt < (0 : Int)) (h10 : r1.toInt < (0 : Int)) (g14 : p_176 a0 (Int32.ofInt (1)) (Int32.ofInt (1)) (q_w τ1 a0 14 (.int (q_i (τ1.1 a0 12)))) r14 τ14) (h15 : r14.toInt ≠ (0 : Int)) :
    p_232 (a0) σ (Int32.ofInt (0)) τ14 := by
  intro W b E H
  have hW := H.2.2.2.1
  obtain ⟨fa, hz, R, hR, hT⟩ := g1 rfl W b E H
  cases R with
  | inl q =>
    exfalso
    obtain ⟨ls, l⟩ := q
    obtain ⟨e1, e2, -⟩ := hT
    rw [e1, o32 (by omega)] at h2
    omega
  | inr F =>
  obtain rfl := (g14.2.1 (by decide)).symm
  have q12 : q_i (τ1.1 a0 12) = Int32.ofNat F := by rw [hT.2]; rfl
  rw [q12]
  refine ⟨((rFL.ofA fa).tr (rFL.w (by omega))).tr (rFL.w (by omega)), ?_, _, hR, rfl, q_w_at _ _ _ _, ?_, ?_, fun k hk => ?_⟩
  · rw [q_w_ne (fun _ q => by omega), q_w_ne (fun _ q => by omega)]; exact hz.2
  · rw [q_w_ne (fun _ q => by omega), q_w_at]
  · rw [q_w_ne (fun _ q => by omega), q_w_ne (fun _ q => by omega)]
    exact fa.2 a0 7 (fun q => by omega) (fun q => hW q.1.symm)
  · rw [q_w_ne (fun q _ => hW q), q_w_ne (fun q _ => hW q)]
    exact fa.2 W k (fun q => hW q.1) (fun q => by omega)
theorem sp_232_c30_t (a0 : Nat) (σ : zSg) (l0 : Nat) (l1 : Int32) (l2 : Int32) (τ : zSg) (hI : i_232 a0 σ l0 l1 l2 τ) (h17 : l2.toInt ≥ (849 : Int)) (h18 : 0 ≤ (Int32.ofInt (3)).toInt ∧ (Int32.ofInt (3)).toInt < (τ.2.1 (q_r (τ.1 l0 1)) : Int)) :
    p_232 (a0) σ l1 (q_w (q_w τ (q_r (τ.1 l0 1)) (Int32.ofInt (3)).toNatClampNeg (.int (Int32.ofInt (1)))) l0 7 (.int (Int32.ofInt (0)))) := by
  obtain ⟨rfl, G⟩ := hI
  intro W b E H
  obtain ⟨hW, σ1, K, ls, l, rfl, hK, rfl, hR, rfl, h12, h400, fl, z9, z0, z14, q1, w0, hl, hs⟩ := G W b E H
  have q1x : q_r ((rCp σ1 W K).1 l0 1) = W := by rw [rCp_ne (fun q => hW q.1.symm), q1]; rfl
  rw [zofNat2 (by omega)] at h17
  have hK2 : K = 849 := by omega
  subst hK2
  have k1 : (Int32.ofInt 3).toNatClampNeg = 3 := rfl
  rw [q1x, k1]
  have na : ∀ k, k ≠ 7 → (q_w (q_w (rCp σ1 W 849) W 3 (.int (Int32.ofInt 1))) l0 7 (.int (Int32.ofInt 0))).1 l0 k = σ1.1 l0 k := by
    intro k hk
    rw [q_w_ne (fun _ q => hk q), q_w_ne (fun q _ => hW q.symm), rCp_ne (fun q => hW q.1.symm)]
  have nw : ∀ k, 388 ≤ k → k < 1237 → (q_w (q_w (rCp σ1 W 849) W 3 (.int (Int32.ofInt 1))) l0 7 (.int (Int32.ofInt 0))).1 W k = .int (q_i (σ1.1 W (k + 849))) := by
    intro k h1 h2
    rw [q_w_ne (fun q _ => hW q), q_w_ne (fun _ q => by omega), rCp_at (by omega)]
  refine ⟨((fl.tr rFL.cp).tr (rFL.ww (by omega))).tr (rFL.w (by omega)), ?_, _, hR, rfl, h12, ?_, ?_, q_w_at _ _ _ _, ?_, h400, ?_, ?_, ?_⟩
  · rw [na 9 (by omega)]; exact z9
  · rw [na 0 (by omega)]; exact z0
  · rw [na 14 (by omega)]; exact z14
  · rw [q_w_ne (fun q _ => hW q), q_w_at]
  · rw [nw 388 (by omega) (by omega), w0]; rfl
  · intro i x hx
    have hi : i < ls.length := (List.getElem?_eq_some_iff.mp hx).1
    obtain ⟨a1, a2, a3, a4⟩ := hl i x hx
    rw [nw _ (by omega) (by omega), nw _ (by omega) (by omega), nw _ (by omega) (by omega), nw _ (by omega) (by omega), show 389 + 4 * i + 849 = 1238 + 4 * i by omega, show 390 + 4 * i + 849 = 1239 + 4 * i by omega, show 391 + 4 * i + 849 = 1240 + 4 * i by omega, show 392 + 4 * i + 849 = 1241 + 4 * i by omega, a1, a2, a3, a4]
    exact ⟨rfl, rfl, rfl, rfl⟩
  · intro i x hx
    have hi : i < l.length := (List.getElem?_eq_some_iff.mp hx).1
    obtain ⟨a1, a2⟩ := hs i x hx
    rw [nw _ (by omega) (by omega), nw _ (by omega) (by omega), show 437 + 2 * i + 849 = 1286 + 2 * i by omega, show 438 + 2 * i + 849 = 1287 + 2 * i by omega, a1, a2]
    exact ⟨rfl, rfl⟩
theorem sp_232_c30_f (a0 : Nat) (σ : zSg) (l0 : Nat) (l1 : Int32) (l2 : Int32) (τ : zSg) (hI : i_232 a0 σ l0 l1 l2 τ) (h17 : l2.toInt < (849 : Int)) (h19 : 0 ≤ ((Int32.ofInt (1237)) + l2).toInt ∧ ((Int32.ofInt (1237)) + l2).toInt < (τ.2.1 (q_r (τ.1 l0 1)) : Int)) (h20 : 0 ≤ ((Int32.ofInt (388)) + l2).toInt ∧ ((Int32.ofInt (388)) + l2).toInt < (τ.2.1 (q_r (τ.1 l0 1)) : Int)) :
    i_232 a0 σ l0 l1 (l2 + Int32.ofInt (1)) (q_w τ (q_r (τ.1 l0 1)) ((Int32.ofInt (388)) + l2).toNatClampNeg (.int (q_i (τ.1 (q_r (τ.1 l0 1)) ((Int32.ofInt (1237)) + l2).toNatClampNeg)))) := by
  obtain ⟨rfl, G⟩ := hI
  refine ⟨rfl, fun W b E H => ?_⟩
  obtain ⟨hW, σ1, K, ls, l, rfl, hK, rfl, hR, rfl, h12, h400, fl, z9, z0, z14, q1, w0, hl, hs⟩ := G W b E H
  have q1x : q_r ((rCp σ1 W K).1 l0 1) = W := by rw [rCp_ne (fun q => hW q.1.symm), q1]; rfl
  rw [zofNat2 (by omega)] at h17
  have k1 : (Int32.ofInt 388 + Int32.ofNat K).toNatClampNeg = 388 + K := znat (by rw [zI_add (zI_c (by omega) (by omega)) (zofNat2 (by omega)) (by omega) (by omega)]; omega)
  have k2 : (Int32.ofInt 1237 + Int32.ofNat K).toNatClampNeg = 1237 + K := znat (by rw [zI_add (zI_c (by omega) (by omega)) (zofNat2 (by omega)) (by omega) (by omega)]; omega)
  rw [q1x, k1, k2, rCp_s (by omega), o32i (by omega)]
  exact ⟨hW, σ1, K + 1, ls, l, rfl, by omega, rfl, hR, rfl, h12, h400, fl, z9, z0, z14, q1, w0, hl, hs⟩
noncomputable def qP_232 : zPp := fun as σ o σ' => match as with
  | [a0] => ∃ r, o = .inl (some (.int r)) ∧ p_232 (q_r a0) σ r σ'
  | _ => True
set_option maxRecDepth 100000 in
theorem sp_232 {sx : zX} (S230 : zEe sx 230 2 qP_230) (S176 : zEe sx 176 3 qP_176) : zEe sx 232 1 qP_232 := by
  refine zfle zJ_232 (sps := [(230, 2, qP_230), (176, 3, qP_176)]) (fun q hq => by
    simp only [List.mem_cons, List.not_mem_nil, or_false] at hq
    rcases hq with rfl | rfl
    · exact S230
    · exact S176) (fun as σ hl => ?_)
  match as, hl with
  | [a0], _ =>
  refine ⟨[(30, fun lo st τ => st = [] ∧ i_232 (q_r a0) σ (q_r (lo 0)) (q_i (lo 1)) (q_i (lo 2)) τ)], 400, ?_, ?_⟩
  · intro q hq
    simp only [List.mem_cons, List.not_mem_nil, or_false] at hq
    rcases hq with rfl
    · rintro lo st τ ⟨rfl, hI⟩
      refine ⟨400, ?_⟩
      refine And.intro (fun h17 => ?_) (fun h17 => ?_)
      · refine fun h18 => ?_
        exact ⟨_, rfl, sp_232_c30_t (q_r a0) σ (q_r (lo 0)) (q_i (lo 1)) (q_i (lo 2)) τ hI (cm3t h17) (q_inp h18)⟩
      · refine fun h19 => ?_
        refine fun h20 => ?_
        exact ⟨rfl, sp_232_c30_f (q_r a0) σ (q_r (lo 0)) (q_i (lo 1)) (q_i (lo 2)) τ hI (cm3f h17) (q_inp h19) (q_inp h20)⟩
  · refine fun o1 τ1 g1 => ?_
    obtain ⟨r1, rfl, g1⟩ := g1
    refine And.intro (fun h2 => ?_) (fun h2 => ?_)
    · refine And.intro (fun h3 => ?_) (fun h3 => ?_)
      · refine fun o4 τ4 g4 => ?_
        obtain ⟨r4, rfl, g4⟩ := g4
        refine And.intro (fun h5 => ?_) (fun h5 => ?_)
        · refine fun h6 => ?_
          exact ⟨rfl, sp_232_ettt (q_r a0) σ τ1 r1 τ4 r4 g1 (cm3t h2) (cm3t h3) g4 (cm0t h5) (q_inp h6)⟩
        · exact ⟨_, rfl, sp_232_ettf (q_r a0) σ τ1 r1 τ4 r4 g1 (cm3t h2) (cm3t h3) g4 (cm0f h5)⟩
      · refine fun o7 τ7 g7 => ?_
        obtain ⟨r7, rfl, g7⟩ := g7
        refine And.intro (fun h8 => ?_) (fun h8 => ?_)
        · refine fun h9 => ?_
          exact ⟨rfl, sp_232_etft (q_r a0) σ τ1 r1 τ7 r7 g1 (cm3t h2) (cm3f h3) g7 (cm0t h8) (q_inp h9)⟩
        · exact ⟨_, rfl, sp_232_etff (q_r a0) σ τ1 r1 τ7 r7 g1 (cm3t h2) (cm3f h3) g7 (cm0f h8)⟩
    · refine And.intro (fun h10 => ?_) (fun h10 => ?_)
      · refine fun o11 τ11 g11 => ?_
        obtain ⟨r11, rfl, g11⟩ := g11
        refine And.intro (fun h12 => ?_) (fun h12 => ?_)
        · refine fun h13 => ?_
          exact ⟨rfl, sp_232_eftt (q_r a0) σ τ1 r1 τ11 r11 g1 (cm3f h2) (cm3t h10) g11 (cm0t h12) (q_inp h13)⟩
        · exact ⟨_, rfl, sp_232_eftf (q_r a0) σ τ1 r1 τ11 r11 g1 (cm3f h2) (cm3t h10) g11 (cm0f h12)⟩
      · refine fun o14 τ14 g14 => ?_
        obtain ⟨r14, rfl, g14⟩ := g14
        refine And.intro (fun h15 => ?_) (fun h15 => ?_)
        · refine fun h16 => ?_
          exact ⟨rfl, sp_232_efft (q_r a0) σ τ1 r1 τ14 r14 g1 (cm3f h2) (cm3f h10) g14 (cm0t h15) (q_inp h16)⟩
        · exact ⟨_, rfl, sp_232_efff (q_r a0) σ τ1 r1 τ14 r14 g1 (cm3f h2) (cm3f h10) g14 (cm0f h15)⟩
