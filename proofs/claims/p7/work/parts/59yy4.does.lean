/-! the reference's does and thing, exact; printed with wip/gen/gen_dr.py -/
theorem rEv.z {σ : zSg} {A : Nat → Int32} {nt : Nat} {Lo : Option (Nat × List gLn4 × zSs)} (K : rEv σ A nt Lo) : rEv (r0 σ) A nt Lo :=
  ⟨K.1.el (by omega), (q_w_ne (fun _ e => by omega)).trans K.2.1, K.2.2.1, K.2.2.2.1, K.2.2.2.2.1, K.2.2.2.2.2.of (fun k _ => q_w_ne (fun e _ => by omega)) rfl⟩
theorem zJ_250 : zJ3 250 z_m250 z_c250 z_h250 := ⟨rfl, rfl, rfl⟩
noncomputable def p_250 (a : Nat) (f h w : Int32) (σ : zSg) (r : Int32) (σ' : zSg) : Prop := a = 205 → ∀ A nf nt Lo, rEv σ A nt Lo → aI nf nt A → (¬ ((0 ≤ f.toInt ∧ f.toInt < (nf : Int)) ∧ (0 ≤ h.toInt ∧ h.toInt < 24)) → r = Int32.ofInt 0 ∧ σ' = rTh σ 1) ∧ (∀ F n, f = Int32.ofNat F → F < nf → h = Int32.ofNat n → n < 24 → (¬ (0 ≤ w.toInt ∧ w.toInt ≤ 1) → r = Int32.ofInt 0 ∧ σ' = rTh σ 2) ∧ ((0 ≤ w.toInt ∧ w.toInt ≤ 1) → rVF (r0 σ) σ' ∧ r = if w.toInt = 0 then A (42 + 4 * F) + eSm Lo (eFa A nt F n) 0 else A (41 + 4 * F) + eSm Lo (eFa A nt F n) 1))
theorem sp_250_et (a0 : Nat) (a1 : Int32) (a2 : Int32) (a3 : Int32) (σ : zSg) (τ1 : zSg) (r1 : Int32) (g1 : p_195 a0 a1 (q_w σ a0 0 (.int (Int32.ofInt (0)))) r1 τ1) (h2 : r1.toInt ≠ (0 : Int)) :
    p_250 (a0) (a1) (a2) (a3) σ (Int32.ofInt (0)) (q_w τ1 a0 0 (.int (Int32.ofInt (1)))) := by
  rintro rfl A nf nt Lo K I
  have k6 := I.1.2.1
  have k8 := I.1.2.2.2.1
  have EV := K.z
  have w0 := EV.1
  have z0 : (Int32.ofInt 0).toInt = 0 := rfl
  have z1 : (Int32.ofInt 1).toInt = 1 := rfl
  have z3 : (Int32.ofInt 3).toInt = 3 := rfl
  obtain ⟨e1, u1⟩ := g1
  have e1 : τ1 = r0 σ := e1
  subst e1
  have u1 := u1 rfl A w0 nf I.1.1 k6
  exact ⟨fun _ => ⟨rfl, r0_T⟩, fun F n eF hF en hn => absurd (by rw [eF, o32 (by omega)]; omega) (u1.mp h2)⟩
theorem sp_250_efttt (a0 : Nat) (a1 : Int32) (a2 : Int32) (a3 : Int32) (σ : zSg) (τ1 : zSg) (r1 : Int32) (τ5 : zSg) (r5 : Int32) (τ9 : zSg) (r9 : Int32) (τ14 : zSg) (r14 : Int32) (g1 : p_195 a0 a1 (q_w σ a0 0 (.int (Int32.ofInt (0)))) r1 τ1) (h2 : r1.toInt = (0 : Int)) (g5 : p_197 a2 τ1 r5 τ5) (h6 : r5.toInt = (0 : Int)) (g9 : p_177 a3 (Int32.ofInt (0)) (Int32.ofInt (1)) τ5 r9 τ9) (h10 : r9.toInt ≠ (0 : Int)) (h13 : a3.toInt ≠ (0 : Int)) (g14 : p_240 a0 a1 a2 τ9 r14 τ14) :
    p_250 (a0) (a1) (a2) (a3) σ r14 τ14 := by
  rintro rfl A nf nt Lo K I
  have k6 := I.1.2.1
  have k8 := I.1.2.2.2.1
  have EV := K.z
  have w0 := EV.1
  have z0 : (Int32.ofInt 0).toInt = 0 := rfl
  have z1 : (Int32.ofInt 1).toInt = 1 := rfl
  have z3 : (Int32.ofInt 3).toInt = 3 := rfl
  obtain ⟨e1, u1⟩ := g1
  have e1 : τ1 = r0 σ := e1
  subst e1
  have u1 := u1 rfl A w0 nf I.1.1 k6
  have v1 : 0 ≤ a1.toInt ∧ a1.toInt < (nf : Int) := Decidable.byContradiction (fun w => (u1.mpr w) h2)
  obtain ⟨e2, u2⟩ := g5
  have e2 : τ5 = r0 σ := e2
  subst e2
  have v2 : 0 ≤ a2.toInt ∧ a2.toInt < 24 := Decidable.byContradiction (fun w => (u2.mpr w) h6)
  obtain ⟨e3, u3⟩ := g9
  have e3 : τ9 = r0 σ := e3
  subst e3
  rw [z0, z1] at u3
  have v3 := u3.mp h10
  refine ⟨fun q => absurd ⟨v1, v2⟩ q, fun F n eF hF en hn => ⟨fun q => absurd v3 q, fun _ => ?_⟩⟩
  obtain ⟨f4, x4⟩ := g14 rfl A nt Lo F n EV eF (by omega) en hn
  exact ⟨f4, by rw [x4, if_neg h13]⟩
theorem sp_250_efttf (a0 : Nat) (a1 : Int32) (a2 : Int32) (a3 : Int32) (σ : zSg) (τ1 : zSg) (r1 : Int32) (τ5 : zSg) (r5 : Int32) (τ9 : zSg) (r9 : Int32) (τ15 : zSg) (r15 : Int32) (g1 : p_195 a0 a1 (q_w σ a0 0 (.int (Int32.ofInt (0)))) r1 τ1) (h2 : r1.toInt = (0 : Int)) (g5 : p_197 a2 τ1 r5 τ5) (h6 : r5.toInt = (0 : Int)) (g9 : p_177 a3 (Int32.ofInt (0)) (Int32.ofInt (1)) τ5 r9 τ9) (h10 : r9.toInt ≠ (0 : Int)) (h13 : a3.toInt = (0 : Int)) (g15 : p_239 a0 a1 a2 τ9 r15 τ15) :
    p_250 (a0) (a1) (a2) (a3) σ r15 τ15 := by
  rintro rfl A nf nt Lo K I
  have k6 := I.1.2.1
  have k8 := I.1.2.2.2.1
  have EV := K.z
  have w0 := EV.1
  have z0 : (Int32.ofInt 0).toInt = 0 := rfl
  have z1 : (Int32.ofInt 1).toInt = 1 := rfl
  have z3 : (Int32.ofInt 3).toInt = 3 := rfl
  obtain ⟨e1, u1⟩ := g1
  have e1 : τ1 = r0 σ := e1
  subst e1
  have u1 := u1 rfl A w0 nf I.1.1 k6
  have v1 : 0 ≤ a1.toInt ∧ a1.toInt < (nf : Int) := Decidable.byContradiction (fun w => (u1.mpr w) h2)
  obtain ⟨e2, u2⟩ := g5
  have e2 : τ5 = r0 σ := e2
  subst e2
  have v2 : 0 ≤ a2.toInt ∧ a2.toInt < 24 := Decidable.byContradiction (fun w => (u2.mpr w) h6)
  obtain ⟨e3, u3⟩ := g9
  have e3 : τ9 = r0 σ := e3
  subst e3
  rw [z0, z1] at u3
  have v3 := u3.mp h10
  refine ⟨fun q => absurd ⟨v1, v2⟩ q, fun F n eF hF en hn => ⟨fun q => absurd v3 q, fun _ => ?_⟩⟩
  obtain ⟨f4, x4⟩ := g15 rfl A nt Lo F n EV eF (by omega) en hn
  exact ⟨f4, by rw [x4, if_pos h13]⟩
theorem sp_250_eftf (a0 : Nat) (a1 : Int32) (a2 : Int32) (a3 : Int32) (σ : zSg) (τ1 : zSg) (r1 : Int32) (τ5 : zSg) (r5 : Int32) (τ9 : zSg) (r9 : Int32) (g1 : p_195 a0 a1 (q_w σ a0 0 (.int (Int32.ofInt (0)))) r1 τ1) (h2 : r1.toInt = (0 : Int)) (g5 : p_197 a2 τ1 r5 τ5) (h6 : r5.toInt = (0 : Int)) (g9 : p_177 a3 (Int32.ofInt (0)) (Int32.ofInt (1)) τ5 r9 τ9) (h10 : r9.toInt = (0 : Int)) :
    p_250 (a0) (a1) (a2) (a3) σ (Int32.ofInt (0)) (q_w τ9 a0 0 (.int (Int32.ofInt (2)))) := by
  rintro rfl A nf nt Lo K I
  have k6 := I.1.2.1
  have k8 := I.1.2.2.2.1
  have EV := K.z
  have w0 := EV.1
  have z0 : (Int32.ofInt 0).toInt = 0 := rfl
  have z1 : (Int32.ofInt 1).toInt = 1 := rfl
  have z3 : (Int32.ofInt 3).toInt = 3 := rfl
  obtain ⟨e1, u1⟩ := g1
  have e1 : τ1 = r0 σ := e1
  subst e1
  have u1 := u1 rfl A w0 nf I.1.1 k6
  have v1 : 0 ≤ a1.toInt ∧ a1.toInt < (nf : Int) := Decidable.byContradiction (fun w => (u1.mpr w) h2)
  obtain ⟨e2, u2⟩ := g5
  have e2 : τ5 = r0 σ := e2
  subst e2
  have v2 : 0 ≤ a2.toInt ∧ a2.toInt < 24 := Decidable.byContradiction (fun w => (u2.mpr w) h6)
  obtain ⟨e3, u3⟩ := g9
  have e3 : τ9 = r0 σ := e3
  subst e3
  rw [z0, z1] at u3
  exact ⟨fun q => absurd ⟨v1, v2⟩ q, fun F n eF hF en hn => ⟨fun _ => ⟨rfl, r0_T⟩, fun q => absurd h10 (u3.mpr q)⟩⟩
theorem sp_250_eff (a0 : Nat) (a1 : Int32) (a2 : Int32) (a3 : Int32) (σ : zSg) (τ1 : zSg) (r1 : Int32) (τ5 : zSg) (r5 : Int32) (g1 : p_195 a0 a1 (q_w σ a0 0 (.int (Int32.ofInt (0)))) r1 τ1) (h2 : r1.toInt = (0 : Int)) (g5 : p_197 a2 τ1 r5 τ5) (h6 : r5.toInt ≠ (0 : Int)) :
    p_250 (a0) (a1) (a2) (a3) σ (Int32.ofInt (0)) (q_w τ5 a0 0 (.int (Int32.ofInt (1)))) := by
  rintro rfl A nf nt Lo K I
  have k6 := I.1.2.1
  have k8 := I.1.2.2.2.1
  have EV := K.z
  have w0 := EV.1
  have z0 : (Int32.ofInt 0).toInt = 0 := rfl
  have z1 : (Int32.ofInt 1).toInt = 1 := rfl
  have z3 : (Int32.ofInt 3).toInt = 3 := rfl
  obtain ⟨e1, u1⟩ := g1
  have e1 : τ1 = r0 σ := e1
  subst e1
  have u1 := u1 rfl A w0 nf I.1.1 k6
  have v1 : 0 ≤ a1.toInt ∧ a1.toInt < (nf : Int) := Decidable.byContradiction (fun w => (u1.mpr w) h2)
  obtain ⟨e2, u2⟩ := g5
  have e2 : τ5 = r0 σ := e2
  subst e2
  exact ⟨fun _ => ⟨rfl, r0_T⟩, fun F n eF hF en hn => absurd (by rw [en, o32 (by omega)]; omega) (u2.mp h6)⟩
noncomputable def qP_250 : zPp := fun as σ o σ' => match as with
  | [a0, a1, a2, a3] => ∃ r, o = .inl (some (.int r)) ∧ p_250 (q_r a0) (q_i a1) (q_i a2) (q_i a3) σ r σ'
  | _ => True
set_option maxRecDepth 100000 in
theorem sp_250 {sx : zX} (S195 : zEe sx 195 2 qP_195) (S176 : zEe sx 176 3 qP_176) (S197 : zEe sx 197 1 qP_197) (S177 : zEe sx 177 3 qP_177) (S240 : zEe sx 240 3 qP_240) (S239 : zEe sx 239 3 qP_239) : zEe sx 250 4 qP_250 := by
  refine zfle zJ_250 (sps := [(195, 2, qP_195), (176, 3, qP_176), (197, 1, qP_197), (177, 3, qP_177), (240, 3, qP_240), (239, 3, qP_239)]) (fun q hq => by
    simp only [List.mem_cons, List.not_mem_nil, or_false] at hq
    rcases hq with rfl | rfl | rfl | rfl | rfl | rfl
    · exact S195
    · exact S176
    · exact S197
    · exact S177
    · exact S240
    · exact S239) (fun as σ hl => ?_)
  match as, hl with
  | [a0, a1, a2, a3], _ =>
  refine ⟨[], 400, ?_, ?_⟩
  · exact fun q hq => absurd hq List.not_mem_nil
  · refine fun o1 τ1 g1 => ?_
    obtain ⟨r1, rfl, g1⟩ := g1
    refine And.intro (fun h2 => ?_) (fun h2 => ?_)
    · refine fun o3 τ3 g3 => ?_
      obtain ⟨r3, rfl, rfl, y3, z3⟩ := g3
      have e3 := (y3 (by decide)).symm
      subst e3
      refine And.intro (fun _ => ?_) (fun h4 => absurd (show z_cmp 1 (Int32.ofInt (1)) 0 = false from h4) (by decide))
      exact ⟨_, rfl, sp_250_et (q_r a0) (q_i a1) (q_i a2) (q_i a3) σ τ1 r1 g1 (cm1t h2)⟩
    · refine fun o5 τ5 g5 => ?_
      obtain ⟨r5, rfl, g5⟩ := g5
      refine And.intro (fun h6 => ?_) (fun h6 => ?_)
      · refine fun o7 τ7 g7 => ?_
        obtain ⟨r7, rfl, rfl, y7, z7⟩ := g7
        have e7 := (z7 rfl).symm
        subst e7
        refine And.intro (fun h8 => absurd (show z_cmp 1 (Int32.ofInt (0)) 0 = true from h8) (by decide)) (fun _ => ?_)
        refine fun o9 τ9 g9 => ?_
        obtain ⟨r9, rfl, g9⟩ := g9
        refine And.intro (fun h10 => ?_) (fun h10 => ?_)
        · refine fun o11 τ11 g11 => ?_
          obtain ⟨r11, rfl, rfl, y11, z11⟩ := g11
          have e11 := (z11 rfl).symm
          subst e11
          refine And.intro (fun _ => ?_) (fun h12 => absurd (show z_cmp 0 (Int32.ofInt (0)) 0 = false from h12) (by decide))
          refine And.intro (fun h13 => ?_) (fun h13 => ?_)
          · refine fun o14 τ14 g14 => ?_
            obtain ⟨r14, rfl, g14⟩ := g14
            exact ⟨_, rfl, sp_250_efttt (q_r a0) (q_i a1) (q_i a2) (q_i a3) σ τ1 r1 τ5 r5 τ9 r9 τ14 r14 g1 (cm1f h2) g5 (cm0t h6) g9 (cm1t h10) (cm1t h13) g14⟩
          · refine fun o15 τ15 g15 => ?_
            obtain ⟨r15, rfl, g15⟩ := g15
            exact ⟨_, rfl, sp_250_efttf (q_r a0) (q_i a1) (q_i a2) (q_i a3) σ τ1 r1 τ5 r5 τ9 r9 τ15 r15 g1 (cm1f h2) g5 (cm0t h6) g9 (cm1t h10) (cm1f h13) g15⟩
        · refine fun o16 τ16 g16 => ?_
          obtain ⟨r16, rfl, rfl, y16, z16⟩ := g16
          have e16 := (y16 (by decide)).symm
          subst e16
          refine And.intro (fun h17 => absurd (show z_cmp 0 (Int32.ofInt (1)) 0 = true from h17) (by decide)) (fun _ => ?_)
          exact ⟨_, rfl, sp_250_eftf (q_r a0) (q_i a1) (q_i a2) (q_i a3) σ τ1 r1 τ5 r5 τ9 r9 g1 (cm1f h2) g5 (cm0t h6) g9 (cm1f h10)⟩
      · refine fun o18 τ18 g18 => ?_
        obtain ⟨r18, rfl, rfl, y18, z18⟩ := g18
        have e18 := (y18 (by decide)).symm
        subst e18
        refine And.intro (fun _ => ?_) (fun h19 => absurd (show z_cmp 1 (Int32.ofInt (1)) 0 = false from h19) (by decide))
        exact ⟨_, rfl, sp_250_eff (q_r a0) (q_i a1) (q_i a2) (q_i a3) σ τ1 r1 τ5 r5 g1 (cm1f h2) g5 (cm0f h6)⟩
theorem zJ_251 : zJ3 251 z_m251 z_c251 z_h251 := ⟨rfl, rfl, rfl⟩
noncomputable def p_251 (a : Nat) (t w : Int32) (σ : zSg) (r : Int32) (σ' : zSg) : Prop := a = 205 → ∀ A nf nt Lo, rEv σ A nt Lo → aI nf nt A → (¬ (0 ≤ t.toInt ∧ t.toInt < (nt : Int)) → r = Int32.ofInt 0 ∧ σ' = rTh σ 1) ∧ (∀ T, t = Int32.ofNat T → T < nt → (¬ (0 ≤ w.toInt ∧ w.toInt ≤ 3) → r = Int32.ofInt 0 ∧ σ' = rTh σ 2) ∧ ((0 ≤ w.toInt ∧ w.toInt ≤ 3) → (w.toInt = 3 → ∀ F n, A (64 + 3 * T) = Int32.ofNat F → F < nf → A 4 = Int32.ofNat n → n < 24 → rVF (r0 σ) σ' ∧ r = A 11 * A (65 + 3 * T) + eSm Lo (eFa A nt F n) 2) ∧ (∀ k, k < 3 → w = Int32.ofNat k → σ' = r0 σ ∧ r = A (64 + k + 3 * T))))
theorem sp_251_et (a0 : Nat) (a1 : Int32) (a2 : Int32) (σ : zSg) (τ1 : zSg) (r1 : Int32) (τ2 : zSg) (r2 : Int32) (g1 : p_196 a0 a1 (q_w σ a0 0 (.int (Int32.ofInt (0)))) r1 τ1) (g2 : p_176 a0 r1 (Int32.ofInt (1)) τ1 r2 τ2) (h3 : r2.toInt ≠ (0 : Int)) :
    p_251 (a0) (a1) (a2) σ (Int32.ofInt (0)) τ2 := by
  rintro rfl A nf nt Lo K I
  have k6 := I.1.2.1
  have k8 := I.1.2.2.2.1
  have EV := K.z
  have w0 := EV.1
  have z0 : (Int32.ofInt 0).toInt = 0 := rfl
  have z1 : (Int32.ofInt 1).toInt = 1 := rfl
  have z3 : (Int32.ofInt 3).toInt = 3 := rfl
  obtain ⟨e1, u1⟩ := g1
  have e1 : τ1 = r0 σ := e1
  subst e1
  have u1 := u1 rfl A w0 nt I.1.2.2.1 k8
  obtain ⟨x2, y2, n2⟩ := g2
  rw [x2] at h3
  have e2 := y2 h3
  subst e2
  exact ⟨fun _ => ⟨rfl, r0_T⟩, fun T eT hT => absurd (by rw [eT, o32 (by omega)]; omega) (u1.mp h3)⟩
theorem sp_251_eftt (a0 : Nat) (a1 : Int32) (a2 : Int32) (σ : zSg) (τ1 : zSg) (r1 : Int32) (τ2 : zSg) (r2 : Int32) (τ4 : zSg) (r4 : Int32) (τ9 : zSg) (r9 : Int32) (g1 : p_196 a0 a1 (q_w σ a0 0 (.int (Int32.ofInt (0)))) r1 τ1) (g2 : p_176 a0 r1 (Int32.ofInt (1)) τ1 r2 τ2) (h3 : r2.toInt = (0 : Int)) (g4 : p_177 a2 (Int32.ofInt (0)) (Int32.ofInt (3)) τ2 r4 τ4) (h5 : r4.toInt ≠ (0 : Int)) (h8 : a2.toInt ≠ (3 : Int)) (g9 : p_193 a0 a1 a2 τ4 r9 τ9) :
    p_251 (a0) (a1) (a2) σ r9 τ9 := by
  rintro rfl A nf nt Lo K I
  have k6 := I.1.2.1
  have k8 := I.1.2.2.2.1
  have EV := K.z
  have w0 := EV.1
  have z0 : (Int32.ofInt 0).toInt = 0 := rfl
  have z1 : (Int32.ofInt 1).toInt = 1 := rfl
  have z3 : (Int32.ofInt 3).toInt = 3 := rfl
  obtain ⟨e1, u1⟩ := g1
  have e1 : τ1 = r0 σ := e1
  subst e1
  have u1 := u1 rfl A w0 nt I.1.2.2.1 k8
  obtain ⟨x2, y2, n2⟩ := g2
  rw [x2] at h3
  have v1 : 0 ≤ a1.toInt ∧ a1.toInt < (nt : Int) := Decidable.byContradiction (fun w => (u1.mpr w) h3)
  have e2 := n2 h3
  subst e2
  obtain ⟨e3, u3⟩ := g4
  have e3 : τ4 = r0 σ := e3
  subst e3
  rw [z0, z3] at u3
  have v3 := u3.mp h5
  refine ⟨fun q => absurd v1 q, fun T eT hT => ⟨fun q => absurd v3 q, fun _ => ⟨fun q => absurd q h8, fun k hk ek => ?_⟩⟩⟩
  obtain ⟨e4, g4⟩ := g9
  exact ⟨e4, g4 rfl A w0 T k eT (by omega) ek hk⟩
theorem sp_251_eftf (a0 : Nat) (a1 : Int32) (a2 : Int32) (σ : zSg) (τ1 : zSg) (r1 : Int32) (τ2 : zSg) (r2 : Int32) (τ4 : zSg) (r4 : Int32) (τ10 : zSg) (r10 : Int32) (g1 : p_196 a0 a1 (q_w σ a0 0 (.int (Int32.ofInt (0)))) r1 τ1) (g2 : p_176 a0 r1 (Int32.ofInt (1)) τ1 r2 τ2) (h3 : r2.toInt = (0 : Int)) (g4 : p_177 a2 (Int32.ofInt (0)) (Int32.ofInt (3)) τ2 r4 τ4) (h5 : r4.toInt ≠ (0 : Int)) (h8 : a2.toInt = (3 : Int)) (g10 : p_241 a0 a1 τ4 r10 τ10) :
    p_251 (a0) (a1) (a2) σ r10 τ10 := by
  rintro rfl A nf nt Lo K I
  have k6 := I.1.2.1
  have k8 := I.1.2.2.2.1
  have EV := K.z
  have w0 := EV.1
  have z0 : (Int32.ofInt 0).toInt = 0 := rfl
  have z1 : (Int32.ofInt 1).toInt = 1 := rfl
  have z3 : (Int32.ofInt 3).toInt = 3 := rfl
  obtain ⟨e1, u1⟩ := g1
  have e1 : τ1 = r0 σ := e1
  subst e1
  have u1 := u1 rfl A w0 nt I.1.2.2.1 k8
  obtain ⟨x2, y2, n2⟩ := g2
  rw [x2] at h3
  have v1 : 0 ≤ a1.toInt ∧ a1.toInt < (nt : Int) := Decidable.byContradiction (fun w => (u1.mpr w) h3)
  have e2 := n2 h3
  subst e2
  obtain ⟨e3, u3⟩ := g4
  have e3 : τ4 = r0 σ := e3
  subst e3
  rw [z0, z3] at u3
  have v3 := u3.mp h5
  refine ⟨fun q => absurd v1 q, fun T eT hT => ⟨fun q => absurd v3 q, fun _ => ⟨fun _ F n eF hF en hn => ?_, fun k hk ek => absurd h8 (by rw [ek, o32 (by omega)]; omega)⟩⟩⟩
  exact g10 rfl A nt Lo F n T EV eT (by omega) eF (by omega) en hn
theorem sp_251_eff (a0 : Nat) (a1 : Int32) (a2 : Int32) (σ : zSg) (τ1 : zSg) (r1 : Int32) (τ2 : zSg) (r2 : Int32) (τ4 : zSg) (r4 : Int32) (g1 : p_196 a0 a1 (q_w σ a0 0 (.int (Int32.ofInt (0)))) r1 τ1) (g2 : p_176 a0 r1 (Int32.ofInt (1)) τ1 r2 τ2) (h3 : r2.toInt = (0 : Int)) (g4 : p_177 a2 (Int32.ofInt (0)) (Int32.ofInt (3)) τ2 r4 τ4) (h5 : r4.toInt = (0 : Int)) :
    p_251 (a0) (a1) (a2) σ (Int32.ofInt (0)) (q_w τ4 a0 0 (.int (Int32.ofInt (2)))) := by
  rintro rfl A nf nt Lo K I
  have k6 := I.1.2.1
  have k8 := I.1.2.2.2.1
  have EV := K.z
  have w0 := EV.1
  have z0 : (Int32.ofInt 0).toInt = 0 := rfl
  have z1 : (Int32.ofInt 1).toInt = 1 := rfl
  have z3 : (Int32.ofInt 3).toInt = 3 := rfl
  obtain ⟨e1, u1⟩ := g1
  have e1 : τ1 = r0 σ := e1
  subst e1
  have u1 := u1 rfl A w0 nt I.1.2.2.1 k8
  obtain ⟨x2, y2, n2⟩ := g2
  rw [x2] at h3
  have v1 : 0 ≤ a1.toInt ∧ a1.toInt < (nt : Int) := Decidable.byContradiction (fun w => (u1.mpr w) h3)
  have e2 := n2 h3
  subst e2
  obtain ⟨e3, u3⟩ := g4
  have e3 : τ4 = r0 σ := e3
  subst e3
  rw [z0, z3] at u3
  exact ⟨fun q => absurd v1 q, fun T eT hT => ⟨fun _ => ⟨rfl, r0_T⟩, fun q => absurd h5 (u3.mpr q)⟩⟩
noncomputable def qP_251 : zPp := fun as σ o σ' => match as with
  | [a0, a1, a2] => ∃ r, o = .inl (some (.int r)) ∧ p_251 (q_r a0) (q_i a1) (q_i a2) σ r σ'
  | _ => True
set_option maxRecDepth 100000 in
theorem sp_251 {sx : zX} (S196 : zEe sx 196 2 qP_196) (S176 : zEe sx 176 3 qP_176) (S177 : zEe sx 177 3 qP_177) (S193 : zEe sx 193 3 qP_193) (S241 : zEe sx 241 2 qP_241) : zEe sx 251 3 qP_251 := by
  refine zfle zJ_251 (sps := [(196, 2, qP_196), (176, 3, qP_176), (177, 3, qP_177), (193, 3, qP_193), (241, 2, qP_241)]) (fun q hq => by
    simp only [List.mem_cons, List.not_mem_nil, or_false] at hq
    rcases hq with rfl | rfl | rfl | rfl | rfl
    · exact S196
    · exact S176
    · exact S177
    · exact S193
    · exact S241) (fun as σ hl => ?_)
  match as, hl with
  | [a0, a1, a2], _ =>
  refine ⟨[], 400, ?_, ?_⟩
  · exact fun q hq => absurd hq List.not_mem_nil
  · refine fun o1 τ1 g1 => ?_
    obtain ⟨r1, rfl, g1⟩ := g1
    refine fun o2 τ2 g2 => ?_
    obtain ⟨r2, rfl, g2⟩ := g2
    refine And.intro (fun h3 => ?_) (fun h3 => ?_)
    · exact ⟨_, rfl, sp_251_et (q_r a0) (q_i a1) (q_i a2) σ τ1 r1 τ2 r2 g1 g2 (cm1t h3)⟩
    · refine fun o4 τ4 g4 => ?_
      obtain ⟨r4, rfl, g4⟩ := g4
      refine And.intro (fun h5 => ?_) (fun h5 => ?_)
      · refine fun o6 τ6 g6 => ?_
        obtain ⟨r6, rfl, rfl, y6, z6⟩ := g6
        have e6 := (z6 rfl).symm
        subst e6
        refine And.intro (fun _ => ?_) (fun h7 => absurd (show z_cmp 0 (Int32.ofInt (0)) 0 = false from h7) (by decide))
        refine And.intro (fun h8 => ?_) (fun h8 => ?_)
        · refine fun o9 τ9 g9 => ?_
          obtain ⟨r9, rfl, g9⟩ := g9
          exact ⟨_, rfl, sp_251_eftt (q_r a0) (q_i a1) (q_i a2) σ τ1 r1 τ2 r2 τ4 r4 τ9 r9 g1 g2 (cm1f h3) g4 (cm1t h5) (cm1t h8) g9⟩
        · refine fun o10 τ10 g10 => ?_
          obtain ⟨r10, rfl, g10⟩ := g10
          exact ⟨_, rfl, sp_251_eftf (q_r a0) (q_i a1) (q_i a2) σ τ1 r1 τ2 r2 τ4 r4 τ10 r10 g1 g2 (cm1f h3) g4 (cm1t h5) (cm1f h8) g10⟩
      · refine fun o11 τ11 g11 => ?_
        obtain ⟨r11, rfl, rfl, y11, z11⟩ := g11
        have e11 := (y11 (by decide)).symm
        subst e11
        refine And.intro (fun h12 => absurd (show z_cmp 0 (Int32.ofInt (1)) 0 = true from h12) (by decide)) (fun _ => ?_)
        exact ⟨_, rfl, sp_251_eff (q_r a0) (q_i a1) (q_i a2) σ τ1 r1 τ2 r2 τ4 r4 g1 g2 (cm1f h3) g4 (cm1f h5)⟩
