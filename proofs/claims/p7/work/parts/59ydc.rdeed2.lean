/-! the reference's deed, exact; printed with wip/gen/gen_d9.py -/
noncomputable def rIt (σ : zSg) : Prop := ∀ k, k < 1237 → ∃ x, σ.1 206 k = .int x
theorem rYB.q {σ S : zSg} {Th Ft : Int32} (H : rYB σ S Th Ft) (K : rSk σ) : rSk S := by
  obtain ⟨k1, k2, k3, k4, k5⟩ := K
  have e : ∀ k, 1 ≤ k → k ≤ 5 → S.1 205 k = σ.1 205 k := fun k h1 h2 => H.1.2 205 k (by omega) (by omega) (by omega)
  exact ⟨by rw [e 1 (by omega) (by omega)]; exact k1, by rw [e 2 (by omega) (by omega)]; exact k2, by rw [e 3 (by omega) (by omega)]; exact k3, by rw [e 4 (by omega) (by omega)]; exact k4, by rw [e 5 (by omega) (by omega)]; exact k5⟩
noncomputable def p_231 (a : Nat) (σ : zSg) (r : Int32) (σ' : zSg) : Prop := a = 205 → rSk σ → ∀ b E nf nt A tx, rE σ b E nf nt A → A 2 = Int32.ofNat tx → tx ≤ 12 → rIt σ → rYF σ σ' ∧ σ'.1 205 9 = .int (Int32.ofInt 0) ∧ rYo σ σ' nf nt tx A r (dDeed b E nf nt)
noncomputable def i_231 (a : Nat) (σ : zSg) (l0 : Nat) (l1 : Int32) (τ : zSg) : Prop := l0 = a ∧ (a = 205 → rSk σ → ∃ n, n ≤ 1237 ∧ l1 = Int32.ofNat n ∧ τ = rCy σ 206 208 0 0 n)
noncomputable def k_231 (a : Nat) (σ : zSg) (l0 : Nat) (l2 : Int32) (τ : zSg) : Prop := l0 = a ∧ (a = 205 → rSk σ → ∀ b E nf nt A tx, rE σ b E nf nt A → A 2 = Int32.ofNat tx → tx ≤ 12 → rIt σ → ∃ n S Th Ft, n ≤ 1237 ∧ l2 = Int32.ofNat n ∧ τ = rCy S 208 206 0 0 n ∧ rYB σ S Th Ft ∧ ((∃ F, dDeed b E nf nt = .inr F ∧ Th = Int32.ofInt 1 ∧ Ft = Int32.ofNat F) ∨ (∃ os, dDeed b E nf nt = .inl os ∧ tx = 12 ∧ Th = Int32.ofInt 2 ∧ Ft = Int32.ofInt (-1))))
theorem sp_231_e (a0 : Nat) (σ : zSg)  :
    i_231 a0 σ a0 (Int32.ofInt (0)) σ := by
  exact ⟨rfl, fun h _ => ⟨0, by omega, rfl, by rw [rCy_0]⟩⟩
theorem sp_231_c2_tttt (a0 : Nat) (σ : zSg) (l0 : Nat) (l1 : Int32) (τ : zSg) (τ2 : zSg) (r2 : Int32) (τ5 : zSg) (r5 : Int32) (hI : i_231 a0 σ l0 l1 τ) (h1 : l1.toInt ≥ (1237 : Int)) (g2 : p_230d l0 (Int32.ofInt (1)) τ r2 τ2) (h3 : r2.toInt ≥ (0 : Int)) (h4 : r2.toInt ≥ (0 : Int)) (g5 : p_176 l0 (Int32.ofInt (0)) (Int32.ofInt (1)) (q_w τ2 l0 14 (.int (Int32.ofInt (-1)))) r5 τ5) (h6 : r5.toInt ≠ (0 : Int)) :
    k_231 a0 σ l0 (Int32.ofInt (0)) τ5 := by
  have h9 := g5.1
  rw [h9] at h6
  exact absurd rfl h6
theorem sp_231_c2_tttftt (a0 : Nat) (σ : zSg) (l0 : Nat) (l1 : Int32) (τ : zSg) (τ2 : zSg) (r2 : Int32) (τ5 : zSg) (r5 : Int32) (τ9 : zSg) (r9 : Int32) (hI : i_231 a0 σ l0 l1 τ) (h1 : l1.toInt ≥ (1237 : Int)) (g2 : p_230d l0 (Int32.ofInt (1)) τ r2 τ2) (h3 : r2.toInt ≥ (0 : Int)) (h4 : r2.toInt ≥ (0 : Int)) (g5 : p_176 l0 (Int32.ofInt (0)) (Int32.ofInt (1)) (q_w τ2 l0 14 (.int (Int32.ofInt (-1)))) r5 τ5) (h6 : r5.toInt = (0 : Int)) (h7 : 0 ≤ (Int32.ofInt (2)).toInt ∧ (Int32.ofInt (2)).toInt < (τ5.2.1 (q_r (τ5.1 l0 1)) : Int)) (h8 : (q_i (τ5.1 (q_r (τ5.1 l0 1)) (Int32.ofInt (2)).toNatClampNeg)).toInt ≠ (12 : Int)) (g9 : p_176 l0 (Int32.ofInt (0)) (Int32.ofInt (2)) τ5 r9 τ9) (h10 : r9.toInt = (0 : Int)) (h11 : 0 ≤ (Int32.ofInt (2)).toInt ∧ (Int32.ofInt (2)).toInt < (τ9.2.1 (q_r (τ9.1 l0 1)) : Int)) (h12 : 0 ≤ (Int32.ofInt (2)).toInt ∧ (Int32.ofInt (2)).toInt < (τ9.2.1 (q_r (τ9.1 l0 1)) : Int)) (h13 : 0 ≤ (Int32.ofInt (2)).toInt ∧ (Int32.ofInt (2)).toInt < ((q_w (q_w τ9 (q_r (τ9.1 l0 1)) (Int32.ofInt (2)).toNatClampNeg (.int ((q_i (τ9.1 (q_r (τ9.1 l0 1)) (Int32.ofInt (2)).toNatClampNeg)) + (Int32.ofInt (1))))) l0 7 (.int (Int32.ofInt (0)))).2.1 (q_r ((q_w (q_w τ9 (q_r (τ9.1 l0 1)) (Int32.ofInt (2)).toNatClampNeg (.int ((q_i (τ9.1 (q_r (τ9.1 l0 1)) (Int32.ofInt (2)).toNatClampNeg)) + (Int32.ofInt (1))))) l0 7 (.int (Int32.ofInt (0)))).1 l0 1)) : Int)) :
    p_231 (a0) σ (q_i ((q_w (q_w τ9 (q_r (τ9.1 l0 1)) (Int32.ofInt (2)).toNatClampNeg (.int ((q_i (τ9.1 (q_r (τ9.1 l0 1)) (Int32.ofInt (2)).toNatClampNeg)) + (Int32.ofInt (1))))) l0 7 (.int (Int32.ofInt (0)))).1 (q_r ((q_w (q_w τ9 (q_r (τ9.1 l0 1)) (Int32.ofInt (2)).toNatClampNeg (.int ((q_i (τ9.1 (q_r (τ9.1 l0 1)) (Int32.ofInt (2)).toNatClampNeg)) + (Int32.ofInt (1))))) l0 7 (.int (Int32.ofInt (0)))).1 l0 1)) (Int32.ofInt (2)).toNatClampNeg)) (q_w (q_w τ9 (q_r (τ9.1 l0 1)) (Int32.ofInt (2)).toNatClampNeg (.int ((q_i (τ9.1 (q_r (τ9.1 l0 1)) (Int32.ofInt (2)).toNatClampNeg)) + (Int32.ofInt (1))))) l0 7 (.int (Int32.ofInt (0)))) := by
  obtain ⟨rfl, hI⟩ := hI
  rintro rfl K b E nf nt A tx H h2 ht hint
  obtain ⟨n, hn, rfl, rfl⟩ := hI rfl K
  rw [zofNat2 (by omega)] at h1
  have hn9 : n = 1237 := by omega
  subst hn9
  obtain ⟨f1, t0, t9, hR⟩ := g2 rfl (by decide) b E nf nt A H.cy
  have f2 : rYF σ τ2 := rYF.cy.tr (rYF.of f1)
  have m8 : ∀ k, k < 1237 → τ2.1 208 k = .int (q_i (σ.1 206 k)) := fun k hk => by
    rw [f1.2 208 k (by omega) (by omega)]
    have := rCy_at (σ := σ) (s := 206) (d := 208) (os := 0) (od := 0) (n := 1237) (k := k) hk
    rw [Nat.zero_add] at this
    exact this
  have m7 : τ2.1 205 7 = σ.1 205 7 := by
    rw [f1.2 205 7 (by omega) (by omega)]
    exact rCy_ne (fun q => by omega)
  cases hD : dDeed b E nf nt with
  | inr F => rw [hD] at hR; have := hR.1; omega
  | inl os =>
  rw [hD] at hR
  obtain ⟨-, w1⟩ := hR
  obtain ⟨-, -, g2⟩ := g5
  have g3 := g2 rfl
  subst g3
  obtain ⟨-, -, g4⟩ := g9
  have g5 := g4 rfl
  subst g5
  have w2 : rW (q_w τ2 205 14 (.int (Int32.ofInt (-1)))) (dApps os nf nt A) := w1.el (by omega)
  have z2 : (Int32.ofInt 2).toNatClampNeg = 2 := rfl
  have i2 : q_i ((q_w τ2 205 14 (.int (Int32.ofInt (-1)))).1 206 2) = Int32.ofNat tx := by rw [w2.i (by omega), dApps_ne hD H.2.2.2.2.2.2.1 H.2.2.2.2.2.2.2.2 (by omega), h2]
  have i3 : Int32.ofNat tx + Int32.ofInt 1 = Int32.ofNat (tx + 1) := o32i (by omega)
  simp only [w2.q, z2, i2] at h8
  rw [o32 (by omega)] at h8
  have w3 := w2.ww (k := 2) (v := Int32.ofNat (tx + 1))
  have w4 : rW (q_w (q_w (q_w τ2 205 14 (.int (Int32.ofInt (-1)))) 206 2 (.int (Int32.ofNat (tx + 1)))) 205 7 (.int (Int32.ofInt 0))) (aU (dApps os nf nt A) 2 (Int32.ofNat (tx + 1))) := w3.el (by omega)
  have i4 := (w4.i (k := 2) (by omega)).trans aU_at
  simp only [w2.q, z2, i2, i3, w4.q, i4]
  refine ⟨((f2.tr (rYF.w (by omega))).tr (rYF.ww (by omega))).tr (rYF.w (by omega)), ?_, ?_, fun h => absurd h (by omega), fun _ => ⟨?_, rfl, w4, q_w_at _ _ _ _⟩⟩
  · rw [q_w_ne (fun _ q => by omega), q_w_ne (fun q _ => by omega), q_w_ne (fun _ q => by omega)]; exact t9
  · rw [q_w_ne (fun _ q => by omega), q_w_ne (fun q _ => by omega), q_w_at]
  · rw [q_w_ne (fun _ q => by omega), q_w_ne (fun q _ => by omega), q_w_ne (fun _ q => by omega)]; exact t0
theorem sp_231_c2_tttftf (a0 : Nat) (σ : zSg) (l0 : Nat) (l1 : Int32) (τ : zSg) (τ2 : zSg) (r2 : Int32) (τ5 : zSg) (r5 : Int32) (τ9 : zSg) (r9 : Int32) (hI : i_231 a0 σ l0 l1 τ) (h1 : l1.toInt ≥ (1237 : Int)) (g2 : p_230d l0 (Int32.ofInt (1)) τ r2 τ2) (h3 : r2.toInt ≥ (0 : Int)) (h4 : r2.toInt ≥ (0 : Int)) (g5 : p_176 l0 (Int32.ofInt (0)) (Int32.ofInt (1)) (q_w τ2 l0 14 (.int (Int32.ofInt (-1)))) r5 τ5) (h6 : r5.toInt = (0 : Int)) (h7 : 0 ≤ (Int32.ofInt (2)).toInt ∧ (Int32.ofInt (2)).toInt < (τ5.2.1 (q_r (τ5.1 l0 1)) : Int)) (h8 : (q_i (τ5.1 (q_r (τ5.1 l0 1)) (Int32.ofInt (2)).toNatClampNeg)).toInt ≠ (12 : Int)) (g9 : p_176 l0 (Int32.ofInt (0)) (Int32.ofInt (2)) τ5 r9 τ9) (h10 : r9.toInt ≠ (0 : Int)) :
    k_231 a0 σ l0 (Int32.ofInt (0)) τ9 := by
  have h9 := g9.1
  rw [h9] at h10
  exact absurd rfl h10
theorem sp_231_c2_tttfft (a0 : Nat) (σ : zSg) (l0 : Nat) (l1 : Int32) (τ : zSg) (τ2 : zSg) (r2 : Int32) (τ5 : zSg) (r5 : Int32) (τ14 : zSg) (r14 : Int32) (hI : i_231 a0 σ l0 l1 τ) (h1 : l1.toInt ≥ (1237 : Int)) (g2 : p_230d l0 (Int32.ofInt (1)) τ r2 τ2) (h3 : r2.toInt ≥ (0 : Int)) (h4 : r2.toInt ≥ (0 : Int)) (g5 : p_176 l0 (Int32.ofInt (0)) (Int32.ofInt (1)) (q_w τ2 l0 14 (.int (Int32.ofInt (-1)))) r5 τ5) (h6 : r5.toInt = (0 : Int)) (h7 : 0 ≤ (Int32.ofInt (2)).toInt ∧ (Int32.ofInt (2)).toInt < (τ5.2.1 (q_r (τ5.1 l0 1)) : Int)) (h8 : (q_i (τ5.1 (q_r (τ5.1 l0 1)) (Int32.ofInt (2)).toNatClampNeg)).toInt = (12 : Int)) (g14 : p_176 l0 (Int32.ofInt (1)) (Int32.ofInt (2)) τ5 r14 τ14) (h15 : r14.toInt = (0 : Int)) (h16 : 0 ≤ (Int32.ofInt (2)).toInt ∧ (Int32.ofInt (2)).toInt < (τ14.2.1 (q_r (τ14.1 l0 1)) : Int)) (h17 : 0 ≤ (Int32.ofInt (2)).toInt ∧ (Int32.ofInt (2)).toInt < (τ14.2.1 (q_r (τ14.1 l0 1)) : Int)) (h18 : 0 ≤ (Int32.ofInt (2)).toInt ∧ (Int32.ofInt (2)).toInt < ((q_w (q_w τ14 (q_r (τ14.1 l0 1)) (Int32.ofInt (2)).toNatClampNeg (.int ((q_i (τ14.1 (q_r (τ14.1 l0 1)) (Int32.ofInt (2)).toNatClampNeg)) + (Int32.ofInt (1))))) l0 7 (.int (Int32.ofInt (0)))).2.1 (q_r ((q_w (q_w τ14 (q_r (τ14.1 l0 1)) (Int32.ofInt (2)).toNatClampNeg (.int ((q_i (τ14.1 (q_r (τ14.1 l0 1)) (Int32.ofInt (2)).toNatClampNeg)) + (Int32.ofInt (1))))) l0 7 (.int (Int32.ofInt (0)))).1 l0 1)) : Int)) :
    p_231 (a0) σ (q_i ((q_w (q_w τ14 (q_r (τ14.1 l0 1)) (Int32.ofInt (2)).toNatClampNeg (.int ((q_i (τ14.1 (q_r (τ14.1 l0 1)) (Int32.ofInt (2)).toNatClampNeg)) + (Int32.ofInt (1))))) l0 7 (.int (Int32.ofInt (0)))).1 (q_r ((q_w (q_w τ14 (q_r (τ14.1 l0 1)) (Int32.ofInt (2)).toNatClampNeg (.int ((q_i (τ14.1 (q_r (τ14.1 l0 1)) (Int32.ofInt (2)).toNatClampNeg)) + (Int32.ofInt (1))))) l0 7 (.int (Int32.ofInt (0)))).1 l0 1)) (Int32.ofInt (2)).toNatClampNeg)) (q_w (q_w τ14 (q_r (τ14.1 l0 1)) (Int32.ofInt (2)).toNatClampNeg (.int ((q_i (τ14.1 (q_r (τ14.1 l0 1)) (Int32.ofInt (2)).toNatClampNeg)) + (Int32.ofInt (1))))) l0 7 (.int (Int32.ofInt (0)))) := by
  have h9 := g14.1
  rw [h9] at h15
  exact absurd h15 (by decide)
theorem sp_231_c2_tttfff (a0 : Nat) (σ : zSg) (l0 : Nat) (l1 : Int32) (τ : zSg) (τ2 : zSg) (r2 : Int32) (τ5 : zSg) (r5 : Int32) (τ14 : zSg) (r14 : Int32) (hI : i_231 a0 σ l0 l1 τ) (h1 : l1.toInt ≥ (1237 : Int)) (g2 : p_230d l0 (Int32.ofInt (1)) τ r2 τ2) (h3 : r2.toInt ≥ (0 : Int)) (h4 : r2.toInt ≥ (0 : Int)) (g5 : p_176 l0 (Int32.ofInt (0)) (Int32.ofInt (1)) (q_w τ2 l0 14 (.int (Int32.ofInt (-1)))) r5 τ5) (h6 : r5.toInt = (0 : Int)) (h7 : 0 ≤ (Int32.ofInt (2)).toInt ∧ (Int32.ofInt (2)).toInt < (τ5.2.1 (q_r (τ5.1 l0 1)) : Int)) (h8 : (q_i (τ5.1 (q_r (τ5.1 l0 1)) (Int32.ofInt (2)).toNatClampNeg)).toInt = (12 : Int)) (g14 : p_176 l0 (Int32.ofInt (1)) (Int32.ofInt (2)) τ5 r14 τ14) (h15 : r14.toInt ≠ (0 : Int)) :
    k_231 a0 σ l0 (Int32.ofInt (0)) τ14 := by
  obtain ⟨rfl, hI⟩ := hI
  refine ⟨rfl, ?_⟩
  rintro rfl K b E nf nt A tx H h2 ht hint
  obtain ⟨n, hn, rfl, rfl⟩ := hI rfl K
  rw [zofNat2 (by omega)] at h1
  have hn9 : n = 1237 := by omega
  subst hn9
  obtain ⟨f1, t0, t9, hR⟩ := g2 rfl (by decide) b E nf nt A H.cy
  have f2 : rYF σ τ2 := rYF.cy.tr (rYF.of f1)
  have m8 : ∀ k, k < 1237 → τ2.1 208 k = .int (q_i (σ.1 206 k)) := fun k hk => by
    rw [f1.2 208 k (by omega) (by omega)]
    have := rCy_at (σ := σ) (s := 206) (d := 208) (os := 0) (od := 0) (n := 1237) (k := k) hk
    rw [Nat.zero_add] at this
    exact this
  have m7 : τ2.1 205 7 = σ.1 205 7 := by
    rw [f1.2 205 7 (by omega) (by omega)]
    exact rCy_ne (fun q => by omega)
  cases hD : dDeed b E nf nt with
  | inr F => rw [hD] at hR; have := hR.1; omega
  | inl os =>
  rw [hD] at hR
  obtain ⟨-, w1⟩ := hR
  obtain ⟨-, -, g2⟩ := g5
  have g3 := g2 rfl
  subst g3
  obtain ⟨-, g4, -⟩ := g14
  have g5 := g4 (by decide)
  subst g5
  have w2 : rW (q_w τ2 205 14 (.int (Int32.ofInt (-1)))) (dApps os nf nt A) := w1.el (by omega)
  have z2 : (Int32.ofInt 2).toNatClampNeg = 2 := rfl
  rw [w2.q, z2, w2.i (by omega), dApps_ne hD H.2.2.2.2.2.2.1 H.2.2.2.2.2.2.2.2 (by omega), h2, o32 (by omega)] at h8
  refine ⟨0, _, Int32.ofInt 2, Int32.ofInt (-1), by omega, rfl, rCy_0.symm, ⟨(f2.tr (rYF.w (by omega))).tr (rYF.w (by omega)), fun k hk => ?_, q_w_at _ _ _ _, ?_, ?_, ?_⟩, Or.inr ⟨os, rfl, by omega, rfl, rfl⟩⟩
  · rw [q_w_ne (fun q _ => by omega), q_w_ne (fun q _ => by omega)]; exact m8 k hk
  · rw [q_w_ne (fun _ q => by omega), q_w_at]
  · rw [q_w_ne (fun _ q => by omega), q_w_ne (fun _ q => by omega)]; exact t9
  · rw [q_w_ne (fun _ q => by omega), q_w_ne (fun _ q => by omega)]; exact m7
theorem sp_231_c2_ttft (a0 : Nat) (σ : zSg) (l0 : Nat) (l1 : Int32) (τ : zSg) (τ2 : zSg) (r2 : Int32) (τ19 : zSg) (r19 : Int32) (hI : i_231 a0 σ l0 l1 τ) (h1 : l1.toInt ≥ (1237 : Int)) (g2 : p_230d l0 (Int32.ofInt (1)) τ r2 τ2) (h3 : r2.toInt ≥ (0 : Int)) (h4 : r2.toInt < (0 : Int)) (g19 : p_176 l0 (Int32.ofInt (1)) (Int32.ofInt (1)) (q_w τ2 l0 14 (.int (Int32.ofInt (-1)))) r19 τ19) (h20 : r19.toInt ≠ (0 : Int)) :
    k_231 a0 σ l0 (Int32.ofInt (0)) τ19 := by
  omega
theorem sp_231_c2_ttfftt (a0 : Nat) (σ : zSg) (l0 : Nat) (l1 : Int32) (τ : zSg) (τ2 : zSg) (r2 : Int32) (τ19 : zSg) (r19 : Int32) (τ23 : zSg) (r23 : Int32) (hI : i_231 a0 σ l0 l1 τ) (h1 : l1.toInt ≥ (1237 : Int)) (g2 : p_230d l0 (Int32.ofInt (1)) τ r2 τ2) (h3 : r2.toInt ≥ (0 : Int)) (h4 : r2.toInt < (0 : Int)) (g19 : p_176 l0 (Int32.ofInt (1)) (Int32.ofInt (1)) (q_w τ2 l0 14 (.int (Int32.ofInt (-1)))) r19 τ19) (h20 : r19.toInt = (0 : Int)) (h21 : 0 ≤ (Int32.ofInt (2)).toInt ∧ (Int32.ofInt (2)).toInt < (τ19.2.1 (q_r (τ19.1 l0 1)) : Int)) (h22 : (q_i (τ19.1 (q_r (τ19.1 l0 1)) (Int32.ofInt (2)).toNatClampNeg)).toInt ≠ (12 : Int)) (g23 : p_176 l0 (Int32.ofInt (0)) (Int32.ofInt (2)) τ19 r23 τ23) (h24 : r23.toInt = (0 : Int)) (h25 : 0 ≤ (Int32.ofInt (2)).toInt ∧ (Int32.ofInt (2)).toInt < (τ23.2.1 (q_r (τ23.1 l0 1)) : Int)) (h26 : 0 ≤ (Int32.ofInt (2)).toInt ∧ (Int32.ofInt (2)).toInt < (τ23.2.1 (q_r (τ23.1 l0 1)) : Int)) (h27 : 0 ≤ (Int32.ofInt (2)).toInt ∧ (Int32.ofInt (2)).toInt < ((q_w (q_w τ23 (q_r (τ23.1 l0 1)) (Int32.ofInt (2)).toNatClampNeg (.int ((q_i (τ23.1 (q_r (τ23.1 l0 1)) (Int32.ofInt (2)).toNatClampNeg)) + (Int32.ofInt (1))))) l0 7 (.int (Int32.ofInt (0)))).2.1 (q_r ((q_w (q_w τ23 (q_r (τ23.1 l0 1)) (Int32.ofInt (2)).toNatClampNeg (.int ((q_i (τ23.1 (q_r (τ23.1 l0 1)) (Int32.ofInt (2)).toNatClampNeg)) + (Int32.ofInt (1))))) l0 7 (.int (Int32.ofInt (0)))).1 l0 1)) : Int)) :
    p_231 (a0) σ (q_i ((q_w (q_w τ23 (q_r (τ23.1 l0 1)) (Int32.ofInt (2)).toNatClampNeg (.int ((q_i (τ23.1 (q_r (τ23.1 l0 1)) (Int32.ofInt (2)).toNatClampNeg)) + (Int32.ofInt (1))))) l0 7 (.int (Int32.ofInt (0)))).1 (q_r ((q_w (q_w τ23 (q_r (τ23.1 l0 1)) (Int32.ofInt (2)).toNatClampNeg (.int ((q_i (τ23.1 (q_r (τ23.1 l0 1)) (Int32.ofInt (2)).toNatClampNeg)) + (Int32.ofInt (1))))) l0 7 (.int (Int32.ofInt (0)))).1 l0 1)) (Int32.ofInt (2)).toNatClampNeg)) (q_w (q_w τ23 (q_r (τ23.1 l0 1)) (Int32.ofInt (2)).toNatClampNeg (.int ((q_i (τ23.1 (q_r (τ23.1 l0 1)) (Int32.ofInt (2)).toNatClampNeg)) + (Int32.ofInt (1))))) l0 7 (.int (Int32.ofInt (0)))) := by
  omega
theorem sp_231_c2_ttfftf (a0 : Nat) (σ : zSg) (l0 : Nat) (l1 : Int32) (τ : zSg) (τ2 : zSg) (r2 : Int32) (τ19 : zSg) (r19 : Int32) (τ23 : zSg) (r23 : Int32) (hI : i_231 a0 σ l0 l1 τ) (h1 : l1.toInt ≥ (1237 : Int)) (g2 : p_230d l0 (Int32.ofInt (1)) τ r2 τ2) (h3 : r2.toInt ≥ (0 : Int)) (h4 : r2.toInt < (0 : Int)) (g19 : p_176 l0 (Int32.ofInt (1)) (Int32.ofInt (1)) (q_w τ2 l0 14 (.int (Int32.ofInt (-1)))) r19 τ19) (h20 : r19.toInt = (0 : Int)) (h21 : 0 ≤ (Int32.ofInt (2)).toInt ∧ (Int32.ofInt (2)).toInt < (τ19.2.1 (q_r (τ19.1 l0 1)) : Int)) (h22 : (q_i (τ19.1 (q_r (τ19.1 l0 1)) (Int32.ofInt (2)).toNatClampNeg)).toInt ≠ (12 : Int)) (g23 : p_176 l0 (Int32.ofInt (0)) (Int32.ofInt (2)) τ19 r23 τ23) (h24 : r23.toInt ≠ (0 : Int)) :
    k_231 a0 σ l0 (Int32.ofInt (0)) τ23 := by
  omega
theorem sp_231_c2_ttffft (a0 : Nat) (σ : zSg) (l0 : Nat) (l1 : Int32) (τ : zSg) (τ2 : zSg) (r2 : Int32) (τ19 : zSg) (r19 : Int32) (τ28 : zSg) (r28 : Int32) (hI : i_231 a0 σ l0 l1 τ) (h1 : l1.toInt ≥ (1237 : Int)) (g2 : p_230d l0 (Int32.ofInt (1)) τ r2 τ2) (h3 : r2.toInt ≥ (0 : Int)) (h4 : r2.toInt < (0 : Int)) (g19 : p_176 l0 (Int32.ofInt (1)) (Int32.ofInt (1)) (q_w τ2 l0 14 (.int (Int32.ofInt (-1)))) r19 τ19) (h20 : r19.toInt = (0 : Int)) (h21 : 0 ≤ (Int32.ofInt (2)).toInt ∧ (Int32.ofInt (2)).toInt < (τ19.2.1 (q_r (τ19.1 l0 1)) : Int)) (h22 : (q_i (τ19.1 (q_r (τ19.1 l0 1)) (Int32.ofInt (2)).toNatClampNeg)).toInt = (12 : Int)) (g28 : p_176 l0 (Int32.ofInt (1)) (Int32.ofInt (2)) τ19 r28 τ28) (h29 : r28.toInt = (0 : Int)) (h30 : 0 ≤ (Int32.ofInt (2)).toInt ∧ (Int32.ofInt (2)).toInt < (τ28.2.1 (q_r (τ28.1 l0 1)) : Int)) (h31 : 0 ≤ (Int32.ofInt (2)).toInt ∧ (Int32.ofInt (2)).toInt < (τ28.2.1 (q_r (τ28.1 l0 1)) : Int)) (h32 : 0 ≤ (Int32.ofInt (2)).toInt ∧ (Int32.ofInt (2)).toInt < ((q_w (q_w τ28 (q_r (τ28.1 l0 1)) (Int32.ofInt (2)).toNatClampNeg (.int ((q_i (τ28.1 (q_r (τ28.1 l0 1)) (Int32.ofInt (2)).toNatClampNeg)) + (Int32.ofInt (1))))) l0 7 (.int (Int32.ofInt (0)))).2.1 (q_r ((q_w (q_w τ28 (q_r (τ28.1 l0 1)) (Int32.ofInt (2)).toNatClampNeg (.int ((q_i (τ28.1 (q_r (τ28.1 l0 1)) (Int32.ofInt (2)).toNatClampNeg)) + (Int32.ofInt (1))))) l0 7 (.int (Int32.ofInt (0)))).1 l0 1)) : Int)) :
    p_231 (a0) σ (q_i ((q_w (q_w τ28 (q_r (τ28.1 l0 1)) (Int32.ofInt (2)).toNatClampNeg (.int ((q_i (τ28.1 (q_r (τ28.1 l0 1)) (Int32.ofInt (2)).toNatClampNeg)) + (Int32.ofInt (1))))) l0 7 (.int (Int32.ofInt (0)))).1 (q_r ((q_w (q_w τ28 (q_r (τ28.1 l0 1)) (Int32.ofInt (2)).toNatClampNeg (.int ((q_i (τ28.1 (q_r (τ28.1 l0 1)) (Int32.ofInt (2)).toNatClampNeg)) + (Int32.ofInt (1))))) l0 7 (.int (Int32.ofInt (0)))).1 l0 1)) (Int32.ofInt (2)).toNatClampNeg)) (q_w (q_w τ28 (q_r (τ28.1 l0 1)) (Int32.ofInt (2)).toNatClampNeg (.int ((q_i (τ28.1 (q_r (τ28.1 l0 1)) (Int32.ofInt (2)).toNatClampNeg)) + (Int32.ofInt (1))))) l0 7 (.int (Int32.ofInt (0)))) := by
  omega
theorem sp_231_c2_ttffff (a0 : Nat) (σ : zSg) (l0 : Nat) (l1 : Int32) (τ : zSg) (τ2 : zSg) (r2 : Int32) (τ19 : zSg) (r19 : Int32) (τ28 : zSg) (r28 : Int32) (hI : i_231 a0 σ l0 l1 τ) (h1 : l1.toInt ≥ (1237 : Int)) (g2 : p_230d l0 (Int32.ofInt (1)) τ r2 τ2) (h3 : r2.toInt ≥ (0 : Int)) (h4 : r2.toInt < (0 : Int)) (g19 : p_176 l0 (Int32.ofInt (1)) (Int32.ofInt (1)) (q_w τ2 l0 14 (.int (Int32.ofInt (-1)))) r19 τ19) (h20 : r19.toInt = (0 : Int)) (h21 : 0 ≤ (Int32.ofInt (2)).toInt ∧ (Int32.ofInt (2)).toInt < (τ19.2.1 (q_r (τ19.1 l0 1)) : Int)) (h22 : (q_i (τ19.1 (q_r (τ19.1 l0 1)) (Int32.ofInt (2)).toNatClampNeg)).toInt = (12 : Int)) (g28 : p_176 l0 (Int32.ofInt (1)) (Int32.ofInt (2)) τ19 r28 τ28) (h29 : r28.toInt ≠ (0 : Int)) :
    k_231 a0 σ l0 (Int32.ofInt (0)) τ28 := by
  omega
theorem sp_231_c2_tftt (a0 : Nat) (σ : zSg) (l0 : Nat) (l1 : Int32) (τ : zSg) (τ2 : zSg) (r2 : Int32) (τ34 : zSg) (r34 : Int32) (hI : i_231 a0 σ l0 l1 τ) (h1 : l1.toInt ≥ (1237 : Int)) (g2 : p_230d l0 (Int32.ofInt (1)) τ r2 τ2) (h3 : r2.toInt < (0 : Int)) (h33 : r2.toInt ≥ (0 : Int)) (g34 : p_176 l0 (Int32.ofInt (0)) (Int32.ofInt (1)) (q_w τ2 l0 14 (.int (q_i (τ2.1 l0 12)))) r34 τ34) (h35 : r34.toInt ≠ (0 : Int)) :
    k_231 a0 σ l0 (Int32.ofInt (0)) τ34 := by
  omega
theorem sp_231_c2_tftftt (a0 : Nat) (σ : zSg) (l0 : Nat) (l1 : Int32) (τ : zSg) (τ2 : zSg) (r2 : Int32) (τ34 : zSg) (r34 : Int32) (τ38 : zSg) (r38 : Int32) (hI : i_231 a0 σ l0 l1 τ) (h1 : l1.toInt ≥ (1237 : Int)) (g2 : p_230d l0 (Int32.ofInt (1)) τ r2 τ2) (h3 : r2.toInt < (0 : Int)) (h33 : r2.toInt ≥ (0 : Int)) (g34 : p_176 l0 (Int32.ofInt (0)) (Int32.ofInt (1)) (q_w τ2 l0 14 (.int (q_i (τ2.1 l0 12)))) r34 τ34) (h35 : r34.toInt = (0 : Int)) (h36 : 0 ≤ (Int32.ofInt (2)).toInt ∧ (Int32.ofInt (2)).toInt < (τ34.2.1 (q_r (τ34.1 l0 1)) : Int)) (h37 : (q_i (τ34.1 (q_r (τ34.1 l0 1)) (Int32.ofInt (2)).toNatClampNeg)).toInt ≠ (12 : Int)) (g38 : p_176 l0 (Int32.ofInt (0)) (Int32.ofInt (2)) τ34 r38 τ38) (h39 : r38.toInt = (0 : Int)) (h40 : 0 ≤ (Int32.ofInt (2)).toInt ∧ (Int32.ofInt (2)).toInt < (τ38.2.1 (q_r (τ38.1 l0 1)) : Int)) (h41 : 0 ≤ (Int32.ofInt (2)).toInt ∧ (Int32.ofInt (2)).toInt < (τ38.2.1 (q_r (τ38.1 l0 1)) : Int)) (h42 : 0 ≤ (Int32.ofInt (2)).toInt ∧ (Int32.ofInt (2)).toInt < ((q_w (q_w τ38 (q_r (τ38.1 l0 1)) (Int32.ofInt (2)).toNatClampNeg (.int ((q_i (τ38.1 (q_r (τ38.1 l0 1)) (Int32.ofInt (2)).toNatClampNeg)) + (Int32.ofInt (1))))) l0 7 (.int (Int32.ofInt (0)))).2.1 (q_r ((q_w (q_w τ38 (q_r (τ38.1 l0 1)) (Int32.ofInt (2)).toNatClampNeg (.int ((q_i (τ38.1 (q_r (τ38.1 l0 1)) (Int32.ofInt (2)).toNatClampNeg)) + (Int32.ofInt (1))))) l0 7 (.int (Int32.ofInt (0)))).1 l0 1)) : Int)) :
    p_231 (a0) σ (q_i ((q_w (q_w τ38 (q_r (τ38.1 l0 1)) (Int32.ofInt (2)).toNatClampNeg (.int ((q_i (τ38.1 (q_r (τ38.1 l0 1)) (Int32.ofInt (2)).toNatClampNeg)) + (Int32.ofInt (1))))) l0 7 (.int (Int32.ofInt (0)))).1 (q_r ((q_w (q_w τ38 (q_r (τ38.1 l0 1)) (Int32.ofInt (2)).toNatClampNeg (.int ((q_i (τ38.1 (q_r (τ38.1 l0 1)) (Int32.ofInt (2)).toNatClampNeg)) + (Int32.ofInt (1))))) l0 7 (.int (Int32.ofInt (0)))).1 l0 1)) (Int32.ofInt (2)).toNatClampNeg)) (q_w (q_w τ38 (q_r (τ38.1 l0 1)) (Int32.ofInt (2)).toNatClampNeg (.int ((q_i (τ38.1 (q_r (τ38.1 l0 1)) (Int32.ofInt (2)).toNatClampNeg)) + (Int32.ofInt (1))))) l0 7 (.int (Int32.ofInt (0)))) := by
  omega
theorem sp_231_c2_tftftf (a0 : Nat) (σ : zSg) (l0 : Nat) (l1 : Int32) (τ : zSg) (τ2 : zSg) (r2 : Int32) (τ34 : zSg) (r34 : Int32) (τ38 : zSg) (r38 : Int32) (hI : i_231 a0 σ l0 l1 τ) (h1 : l1.toInt ≥ (1237 : Int)) (g2 : p_230d l0 (Int32.ofInt (1)) τ r2 τ2) (h3 : r2.toInt < (0 : Int)) (h33 : r2.toInt ≥ (0 : Int)) (g34 : p_176 l0 (Int32.ofInt (0)) (Int32.ofInt (1)) (q_w τ2 l0 14 (.int (q_i (τ2.1 l0 12)))) r34 τ34) (h35 : r34.toInt = (0 : Int)) (h36 : 0 ≤ (Int32.ofInt (2)).toInt ∧ (Int32.ofInt (2)).toInt < (τ34.2.1 (q_r (τ34.1 l0 1)) : Int)) (h37 : (q_i (τ34.1 (q_r (τ34.1 l0 1)) (Int32.ofInt (2)).toNatClampNeg)).toInt ≠ (12 : Int)) (g38 : p_176 l0 (Int32.ofInt (0)) (Int32.ofInt (2)) τ34 r38 τ38) (h39 : r38.toInt ≠ (0 : Int)) :
    k_231 a0 σ l0 (Int32.ofInt (0)) τ38 := by
  omega
theorem sp_231_c2_tftfft (a0 : Nat) (σ : zSg) (l0 : Nat) (l1 : Int32) (τ : zSg) (τ2 : zSg) (r2 : Int32) (τ34 : zSg) (r34 : Int32) (τ43 : zSg) (r43 : Int32) (hI : i_231 a0 σ l0 l1 τ) (h1 : l1.toInt ≥ (1237 : Int)) (g2 : p_230d l0 (Int32.ofInt (1)) τ r2 τ2) (h3 : r2.toInt < (0 : Int)) (h33 : r2.toInt ≥ (0 : Int)) (g34 : p_176 l0 (Int32.ofInt (0)) (Int32.ofInt (1)) (q_w τ2 l0 14 (.int (q_i (τ2.1 l0 12)))) r34 τ34) (h35 : r34.toInt = (0 : Int)) (h36 : 0 ≤ (Int32.ofInt (2)).toInt ∧ (Int32.ofInt (2)).toInt < (τ34.2.1 (q_r (τ34.1 l0 1)) : Int)) (h37 : (q_i (τ34.1 (q_r (τ34.1 l0 1)) (Int32.ofInt (2)).toNatClampNeg)).toInt = (12 : Int)) (g43 : p_176 l0 (Int32.ofInt (1)) (Int32.ofInt (2)) τ34 r43 τ43) (h44 : r43.toInt = (0 : Int)) (h45 : 0 ≤ (Int32.ofInt (2)).toInt ∧ (Int32.ofInt (2)).toInt < (τ43.2.1 (q_r (τ43.1 l0 1)) : Int)) (h46 : 0 ≤ (Int32.ofInt (2)).toInt ∧ (Int32.ofInt (2)).toInt < (τ43.2.1 (q_r (τ43.1 l0 1)) : Int)) (h47 : 0 ≤ (Int32.ofInt (2)).toInt ∧ (Int32.ofInt (2)).toInt < ((q_w (q_w τ43 (q_r (τ43.1 l0 1)) (Int32.ofInt (2)).toNatClampNeg (.int ((q_i (τ43.1 (q_r (τ43.1 l0 1)) (Int32.ofInt (2)).toNatClampNeg)) + (Int32.ofInt (1))))) l0 7 (.int (Int32.ofInt (0)))).2.1 (q_r ((q_w (q_w τ43 (q_r (τ43.1 l0 1)) (Int32.ofInt (2)).toNatClampNeg (.int ((q_i (τ43.1 (q_r (τ43.1 l0 1)) (Int32.ofInt (2)).toNatClampNeg)) + (Int32.ofInt (1))))) l0 7 (.int (Int32.ofInt (0)))).1 l0 1)) : Int)) :
    p_231 (a0) σ (q_i ((q_w (q_w τ43 (q_r (τ43.1 l0 1)) (Int32.ofInt (2)).toNatClampNeg (.int ((q_i (τ43.1 (q_r (τ43.1 l0 1)) (Int32.ofInt (2)).toNatClampNeg)) + (Int32.ofInt (1))))) l0 7 (.int (Int32.ofInt (0)))).1 (q_r ((q_w (q_w τ43 (q_r (τ43.1 l0 1)) (Int32.ofInt (2)).toNatClampNeg (.int ((q_i (τ43.1 (q_r (τ43.1 l0 1)) (Int32.ofInt (2)).toNatClampNeg)) + (Int32.ofInt (1))))) l0 7 (.int (Int32.ofInt (0)))).1 l0 1)) (Int32.ofInt (2)).toNatClampNeg)) (q_w (q_w τ43 (q_r (τ43.1 l0 1)) (Int32.ofInt (2)).toNatClampNeg (.int ((q_i (τ43.1 (q_r (τ43.1 l0 1)) (Int32.ofInt (2)).toNatClampNeg)) + (Int32.ofInt (1))))) l0 7 (.int (Int32.ofInt (0)))) := by
  omega
theorem sp_231_c2_tftfff (a0 : Nat) (σ : zSg) (l0 : Nat) (l1 : Int32) (τ : zSg) (τ2 : zSg) (r2 : Int32) (τ34 : zSg) (r34 : Int32) (τ43 : zSg) (r43 : Int32) (hI : i_231 a0 σ l0 l1 τ) (h1 : l1.toInt ≥ (1237 : Int)) (g2 : p_230d l0 (Int32.ofInt (1)) τ r2 τ2) (h3 : r2.toInt < (0 : Int)) (h33 : r2.toInt ≥ (0 : Int)) (g34 : p_176 l0 (Int32.ofInt (0)) (Int32.ofInt (1)) (q_w τ2 l0 14 (.int (q_i (τ2.1 l0 12)))) r34 τ34) (h35 : r34.toInt = (0 : Int)) (h36 : 0 ≤ (Int32.ofInt (2)).toInt ∧ (Int32.ofInt (2)).toInt < (τ34.2.1 (q_r (τ34.1 l0 1)) : Int)) (h37 : (q_i (τ34.1 (q_r (τ34.1 l0 1)) (Int32.ofInt (2)).toNatClampNeg)).toInt = (12 : Int)) (g43 : p_176 l0 (Int32.ofInt (1)) (Int32.ofInt (2)) τ34 r43 τ43) (h44 : r43.toInt ≠ (0 : Int)) :
    k_231 a0 σ l0 (Int32.ofInt (0)) τ43 := by
  omega
theorem sp_231_c2_tfft (a0 : Nat) (σ : zSg) (l0 : Nat) (l1 : Int32) (τ : zSg) (τ2 : zSg) (r2 : Int32) (τ48 : zSg) (r48 : Int32) (hI : i_231 a0 σ l0 l1 τ) (h1 : l1.toInt ≥ (1237 : Int)) (g2 : p_230d l0 (Int32.ofInt (1)) τ r2 τ2) (h3 : r2.toInt < (0 : Int)) (h33 : r2.toInt < (0 : Int)) (g48 : p_176 l0 (Int32.ofInt (1)) (Int32.ofInt (1)) (q_w τ2 l0 14 (.int (q_i (τ2.1 l0 12)))) r48 τ48) (h49 : r48.toInt ≠ (0 : Int)) :
    k_231 a0 σ l0 (Int32.ofInt (0)) τ48 := by
  obtain ⟨rfl, hI⟩ := hI
  refine ⟨rfl, ?_⟩
  rintro rfl K b E nf nt A tx H h2 ht hint
  obtain ⟨n, hn, rfl, rfl⟩ := hI rfl K
  rw [zofNat2 (by omega)] at h1
  have hn9 : n = 1237 := by omega
  subst hn9
  obtain ⟨f1, t0, t9, hR⟩ := g2 rfl (by decide) b E nf nt A H.cy
  have f2 : rYF σ τ2 := rYF.cy.tr (rYF.of f1)
  have m8 : ∀ k, k < 1237 → τ2.1 208 k = .int (q_i (σ.1 206 k)) := fun k hk => by
    rw [f1.2 208 k (by omega) (by omega)]
    have := rCy_at (σ := σ) (s := 206) (d := 208) (os := 0) (od := 0) (n := 1237) (k := k) hk
    rw [Nat.zero_add] at this
    exact this
  have m7 : τ2.1 205 7 = σ.1 205 7 := by
    rw [f1.2 205 7 (by omega) (by omega)]
    exact rCy_ne (fun q => by omega)
  cases hD : dDeed b E nf nt with
  | inl os => rw [hD] at hR; have := hR.1; omega
  | inr F =>
  rw [hD] at hR
  obtain ⟨-, t12⟩ := hR
  obtain ⟨-, g2, -⟩ := g48
  have g3 := g2 (by decide)
  subst g3
  refine ⟨0, _, Int32.ofInt 1, Int32.ofNat F, by omega, rfl, rCy_0.symm, ⟨(f2.tr (rYF.w (by omega))).tr (rYF.w (by omega)), fun k hk => ?_, q_w_at _ _ _ _, ?_, ?_, ?_⟩, Or.inl ⟨F, rfl, rfl, rfl⟩⟩
  · rw [q_w_ne (fun q _ => by omega), q_w_ne (fun q _ => by omega)]; exact m8 k hk
  · rw [q_w_ne (fun _ q => by omega), q_w_at, t12]; rfl
  · rw [q_w_ne (fun _ q => by omega), q_w_ne (fun _ q => by omega)]; exact t9
  · rw [q_w_ne (fun _ q => by omega), q_w_ne (fun _ q => by omega)]; exact m7
theorem sp_231_c2_tffftt (a0 : Nat) (σ : zSg) (l0 : Nat) (l1 : Int32) (τ : zSg) (τ2 : zSg) (r2 : Int32) (τ48 : zSg) (r48 : Int32) (τ52 : zSg) (r52 : Int32) (hI : i_231 a0 σ l0 l1 τ) (h1 : l1.toInt ≥ (1237 : Int)) (g2 : p_230d l0 (Int32.ofInt (1)) τ r2 τ2) (h3 : r2.toInt < (0 : Int)) (h33 : r2.toInt < (0 : Int)) (g48 : p_176 l0 (Int32.ofInt (1)) (Int32.ofInt (1)) (q_w τ2 l0 14 (.int (q_i (τ2.1 l0 12)))) r48 τ48) (h49 : r48.toInt = (0 : Int)) (h50 : 0 ≤ (Int32.ofInt (2)).toInt ∧ (Int32.ofInt (2)).toInt < (τ48.2.1 (q_r (τ48.1 l0 1)) : Int)) (h51 : (q_i (τ48.1 (q_r (τ48.1 l0 1)) (Int32.ofInt (2)).toNatClampNeg)).toInt ≠ (12 : Int)) (g52 : p_176 l0 (Int32.ofInt (0)) (Int32.ofInt (2)) τ48 r52 τ52) (h53 : r52.toInt = (0 : Int)) (h54 : 0 ≤ (Int32.ofInt (2)).toInt ∧ (Int32.ofInt (2)).toInt < (τ52.2.1 (q_r (τ52.1 l0 1)) : Int)) (h55 : 0 ≤ (Int32.ofInt (2)).toInt ∧ (Int32.ofInt (2)).toInt < (τ52.2.1 (q_r (τ52.1 l0 1)) : Int)) (h56 : 0 ≤ (Int32.ofInt (2)).toInt ∧ (Int32.ofInt (2)).toInt < ((q_w (q_w τ52 (q_r (τ52.1 l0 1)) (Int32.ofInt (2)).toNatClampNeg (.int ((q_i (τ52.1 (q_r (τ52.1 l0 1)) (Int32.ofInt (2)).toNatClampNeg)) + (Int32.ofInt (1))))) l0 7 (.int (Int32.ofInt (0)))).2.1 (q_r ((q_w (q_w τ52 (q_r (τ52.1 l0 1)) (Int32.ofInt (2)).toNatClampNeg (.int ((q_i (τ52.1 (q_r (τ52.1 l0 1)) (Int32.ofInt (2)).toNatClampNeg)) + (Int32.ofInt (1))))) l0 7 (.int (Int32.ofInt (0)))).1 l0 1)) : Int)) :
    p_231 (a0) σ (q_i ((q_w (q_w τ52 (q_r (τ52.1 l0 1)) (Int32.ofInt (2)).toNatClampNeg (.int ((q_i (τ52.1 (q_r (τ52.1 l0 1)) (Int32.ofInt (2)).toNatClampNeg)) + (Int32.ofInt (1))))) l0 7 (.int (Int32.ofInt (0)))).1 (q_r ((q_w (q_w τ52 (q_r (τ52.1 l0 1)) (Int32.ofInt (2)).toNatClampNeg (.int ((q_i (τ52.1 (q_r (τ52.1 l0 1)) (Int32.ofInt (2)).toNatClampNeg)) + (Int32.ofInt (1))))) l0 7 (.int (Int32.ofInt (0)))).1 l0 1)) (Int32.ofInt (2)).toNatClampNeg)) (q_w (q_w τ52 (q_r (τ52.1 l0 1)) (Int32.ofInt (2)).toNatClampNeg (.int ((q_i (τ52.1 (q_r (τ52.1 l0 1)) (Int32.ofInt (2)).toNatClampNeg)) + (Int32.ofInt (1))))) l0 7 (.int (Int32.ofInt (0)))) := by
  have h9 := g48.1
  rw [h9] at h49
  exact absurd h49 (by decide)
theorem sp_231_c2_tffftf (a0 : Nat) (σ : zSg) (l0 : Nat) (l1 : Int32) (τ : zSg) (τ2 : zSg) (r2 : Int32) (τ48 : zSg) (r48 : Int32) (τ52 : zSg) (r52 : Int32) (hI : i_231 a0 σ l0 l1 τ) (h1 : l1.toInt ≥ (1237 : Int)) (g2 : p_230d l0 (Int32.ofInt (1)) τ r2 τ2) (h3 : r2.toInt < (0 : Int)) (h33 : r2.toInt < (0 : Int)) (g48 : p_176 l0 (Int32.ofInt (1)) (Int32.ofInt (1)) (q_w τ2 l0 14 (.int (q_i (τ2.1 l0 12)))) r48 τ48) (h49 : r48.toInt = (0 : Int)) (h50 : 0 ≤ (Int32.ofInt (2)).toInt ∧ (Int32.ofInt (2)).toInt < (τ48.2.1 (q_r (τ48.1 l0 1)) : Int)) (h51 : (q_i (τ48.1 (q_r (τ48.1 l0 1)) (Int32.ofInt (2)).toNatClampNeg)).toInt ≠ (12 : Int)) (g52 : p_176 l0 (Int32.ofInt (0)) (Int32.ofInt (2)) τ48 r52 τ52) (h53 : r52.toInt ≠ (0 : Int)) :
    k_231 a0 σ l0 (Int32.ofInt (0)) τ52 := by
  have h9 := g48.1
  rw [h9] at h49
  exact absurd h49 (by decide)
theorem sp_231_c2_tfffft (a0 : Nat) (σ : zSg) (l0 : Nat) (l1 : Int32) (τ : zSg) (τ2 : zSg) (r2 : Int32) (τ48 : zSg) (r48 : Int32) (τ57 : zSg) (r57 : Int32) (hI : i_231 a0 σ l0 l1 τ) (h1 : l1.toInt ≥ (1237 : Int)) (g2 : p_230d l0 (Int32.ofInt (1)) τ r2 τ2) (h3 : r2.toInt < (0 : Int)) (h33 : r2.toInt < (0 : Int)) (g48 : p_176 l0 (Int32.ofInt (1)) (Int32.ofInt (1)) (q_w τ2 l0 14 (.int (q_i (τ2.1 l0 12)))) r48 τ48) (h49 : r48.toInt = (0 : Int)) (h50 : 0 ≤ (Int32.ofInt (2)).toInt ∧ (Int32.ofInt (2)).toInt < (τ48.2.1 (q_r (τ48.1 l0 1)) : Int)) (h51 : (q_i (τ48.1 (q_r (τ48.1 l0 1)) (Int32.ofInt (2)).toNatClampNeg)).toInt = (12 : Int)) (g57 : p_176 l0 (Int32.ofInt (1)) (Int32.ofInt (2)) τ48 r57 τ57) (h58 : r57.toInt = (0 : Int)) (h59 : 0 ≤ (Int32.ofInt (2)).toInt ∧ (Int32.ofInt (2)).toInt < (τ57.2.1 (q_r (τ57.1 l0 1)) : Int)) (h60 : 0 ≤ (Int32.ofInt (2)).toInt ∧ (Int32.ofInt (2)).toInt < (τ57.2.1 (q_r (τ57.1 l0 1)) : Int)) (h61 : 0 ≤ (Int32.ofInt (2)).toInt ∧ (Int32.ofInt (2)).toInt < ((q_w (q_w τ57 (q_r (τ57.1 l0 1)) (Int32.ofInt (2)).toNatClampNeg (.int ((q_i (τ57.1 (q_r (τ57.1 l0 1)) (Int32.ofInt (2)).toNatClampNeg)) + (Int32.ofInt (1))))) l0 7 (.int (Int32.ofInt (0)))).2.1 (q_r ((q_w (q_w τ57 (q_r (τ57.1 l0 1)) (Int32.ofInt (2)).toNatClampNeg (.int ((q_i (τ57.1 (q_r (τ57.1 l0 1)) (Int32.ofInt (2)).toNatClampNeg)) + (Int32.ofInt (1))))) l0 7 (.int (Int32.ofInt (0)))).1 l0 1)) : Int)) :
    p_231 (a0) σ (q_i ((q_w (q_w τ57 (q_r (τ57.1 l0 1)) (Int32.ofInt (2)).toNatClampNeg (.int ((q_i (τ57.1 (q_r (τ57.1 l0 1)) (Int32.ofInt (2)).toNatClampNeg)) + (Int32.ofInt (1))))) l0 7 (.int (Int32.ofInt (0)))).1 (q_r ((q_w (q_w τ57 (q_r (τ57.1 l0 1)) (Int32.ofInt (2)).toNatClampNeg (.int ((q_i (τ57.1 (q_r (τ57.1 l0 1)) (Int32.ofInt (2)).toNatClampNeg)) + (Int32.ofInt (1))))) l0 7 (.int (Int32.ofInt (0)))).1 l0 1)) (Int32.ofInt (2)).toNatClampNeg)) (q_w (q_w τ57 (q_r (τ57.1 l0 1)) (Int32.ofInt (2)).toNatClampNeg (.int ((q_i (τ57.1 (q_r (τ57.1 l0 1)) (Int32.ofInt (2)).toNatClampNeg)) + (Int32.ofInt (1))))) l0 7 (.int (Int32.ofInt (0)))) := by
  have h9 := g48.1
  rw [h9] at h49
  exact absurd h49 (by decide)
theorem sp_231_c2_tfffff (a0 : Nat) (σ : zSg) (l0 : Nat) (l1 : Int32) (τ : zSg) (τ2 : zSg) (r2 : Int32) (τ48 : zSg) (r48 : Int32) (τ57 : zSg) (r57 : Int32) (hI : i_231 a0 σ l0 l1 τ) (h1 : l1.toInt ≥ (1237 : Int)) (g2 : p_230d l0 (Int32.ofInt (1)) τ r2 τ2) (h3 : r2.toInt < (0 : Int)) (h33 : r2.toInt < (0 : Int)) (g48 : p_176 l0 (Int32.ofInt (1)) (Int32.ofInt (1)) (q_w τ2 l0 14 (.int (q_i (τ2.1 l0 12)))) r48 τ48) (h49 : r48.toInt = (0 : Int)) (h50 : 0 ≤ (Int32.ofInt (2)).toInt ∧ (Int32.ofInt (2)).toInt < (τ48.2.1 (q_r (τ48.1 l0 1)) : Int)) (h51 : (q_i (τ48.1 (q_r (τ48.1 l0 1)) (Int32.ofInt (2)).toNatClampNeg)).toInt = (12 : Int)) (g57 : p_176 l0 (Int32.ofInt (1)) (Int32.ofInt (2)) τ48 r57 τ57) (h58 : r57.toInt ≠ (0 : Int)) :
    k_231 a0 σ l0 (Int32.ofInt (0)) τ57 := by
  have h9 := g48.1
  rw [h9] at h49
  exact absurd h49 (by decide)
theorem sp_231_c2_f (a0 : Nat) (σ : zSg) (l0 : Nat) (l1 : Int32) (τ : zSg) (hI : i_231 a0 σ l0 l1 τ) (h1 : l1.toInt < (1237 : Int)) (h62 : 0 ≤ l1.toInt ∧ l1.toInt < (τ.2.1 (q_r (τ.1 l0 1)) : Int)) (h63 : 0 ≤ l1.toInt ∧ l1.toInt < (τ.2.1 (q_r (τ.1 l0 3)) : Int)) :
    i_231 a0 σ l0 (l1 + Int32.ofInt (1)) (q_w τ (q_r (τ.1 l0 3)) l1.toNatClampNeg (.int (q_i (τ.1 (q_r (τ.1 l0 1)) l1.toNatClampNeg)))) := by
  obtain ⟨rfl, hI⟩ := hI
  refine ⟨rfl, ?_⟩
  rintro rfl K
  obtain ⟨n, hn, rfl, rfl⟩ := hI rfl K
  rw [zofNat2 (by omega)] at h1
  have q9 := (K.cy (s := 206) (d := 208) (os := 0) (od := 0) (n := n) (by decide)).q
  have hx : (Int32.ofNat n).toNatClampNeg = 0 + n := (o32N (by omega)).trans (by omega)
  simp only [q9.1, q9.2.2.1, hx]
  exact ⟨n + 1, by omega, o32J (by omega), rCy_s (Or.inl (by decide))⟩
theorem sp_231_c51_t (a0 : Nat) (σ : zSg) (l0 : Nat) (l2 : Int32) (τ : zSg) (hI : k_231 a0 σ l0 l2 τ) (h64 : l2.toInt ≥ (1237 : Int)) :
    p_231 (a0) σ (Int32.ofInt (0)) τ := by
  obtain ⟨rfl, hI⟩ := hI
  rintro rfl K b E nf nt A tx H h2 ht hint
  obtain ⟨n, S, Th, Ft, hn, rfl, rfl, HB, hx⟩ := hI rfl K b E nf nt A tx H h2 ht hint
  rw [zofNat2 (by omega)] at h64
  have hn9 : n = 1237 := by omega
  subst hn9
  obtain ⟨g1, g2, g3, g4, g5, g6⟩ := id HB
  have at_ : ∀ k, k < 1237 → (rCy S 208 206 0 0 1237).1 206 k = .int (q_i (σ.1 206 k)) := fun k hk => by
    have := rCy_at (σ := S) (s := 208) (d := 206) (os := 0) (od := 0) (n := 1237) (k := k) hk
    rw [Nat.zero_add] at this
    rw [this, g2 k hk]
    rfl
  have el : ∀ k, (rCy S 208 206 0 0 1237).1 205 k = S.1 205 k := fun k => rCy_ne (fun q => by omega)
  have w : rW (rCy S 208 206 0 0 1237) A := ⟨by rw [el]; exact (HB.q K).1, fun k hk => by rw [at_ k (by omega), H.2.2.1.i hk]⟩
  have fr : rYF σ (rCy S 208 206 0 0 1237) := ⟨g1.1, fun c k q1 q2 q3 => by
    by_cases h9 : c = 206 ∧ 0 ≤ k ∧ k < 0 + 1237
    · obtain ⟨rfl, -, h8⟩ := h9
      rw [at_ k (by omega)]
      by_cases h7 : k < 388
      · rw [H.2.2.1.2 k h7]; rfl
      · obtain ⟨x, hx9⟩ := hint k (by omega)
        rw [hx9]; rfl
    · rw [rCy_ne h9]; exact g1.2 c k q1 q2 q3⟩
  refine ⟨fr, by rw [el]; exact g5, ?_⟩
  rcases hx with ⟨F, hD, rfl, rfl⟩ | ⟨os, hD, h12, rfl, rfl⟩
  · rw [hD]
    exact ⟨by rw [el]; exact g3, by rw [el]; exact g4, w, by rw [el]; exact g6⟩
  · rw [hD]
    exact ⟨by rw [el]; exact g4, fun _ => ⟨by rw [el]; exact g3, w, by rw [el]; exact g6⟩, fun h => absurd h12 (by omega)⟩
theorem sp_231_c51_f (a0 : Nat) (σ : zSg) (l0 : Nat) (l2 : Int32) (τ : zSg) (hI : k_231 a0 σ l0 l2 τ) (h64 : l2.toInt < (1237 : Int)) (h65 : 0 ≤ l2.toInt ∧ l2.toInt < (τ.2.1 (q_r (τ.1 l0 3)) : Int)) (h66 : 0 ≤ l2.toInt ∧ l2.toInt < (τ.2.1 (q_r (τ.1 l0 1)) : Int)) :
    k_231 a0 σ l0 (l2 + Int32.ofInt (1)) (q_w τ (q_r (τ.1 l0 1)) l2.toNatClampNeg (.int (q_i (τ.1 (q_r (τ.1 l0 3)) l2.toNatClampNeg)))) := by
  obtain ⟨rfl, hI⟩ := hI
  refine ⟨rfl, ?_⟩
  rintro rfl K b E nf nt A tx H h2 ht hint
  obtain ⟨n, S, Th, Ft, hn, rfl, rfl, HB, hx⟩ := hI rfl K b E nf nt A tx H h2 ht hint
  rw [zofNat2 (by omega)] at h64
  have q9 := ((HB.q K).cy (s := 208) (d := 206) (os := 0) (od := 0) (n := n) (by decide)).q
  have hy : (Int32.ofNat n).toNatClampNeg = 0 + n := (o32N (by omega)).trans (by omega)
  simp only [q9.1, q9.2.2.1, hy]
  exact ⟨n + 1, S, Th, Ft, by omega, o32J (by omega), rCy_s (Or.inl (by decide)), HB, hx⟩
noncomputable def qP_231 : zPp := fun as σ o σ' => match as with
  | [a0] => ∃ r, o = .inl (some (.int r)) ∧ p_231 (q_r a0) σ r σ'
  | _ => True
set_option maxRecDepth 100000 in
theorem sp_231 {sx : zX} (S230 : zEe sx 230 2 qP_230d) (S176 : zEe sx 176 3 qP_176) : zEe sx 231 1 qP_231 := by
  refine zfle zJ_231 (sps := [(230, 2, qP_230d), (176, 3, qP_176)]) (fun q hq => by
    simp only [List.mem_cons, List.not_mem_nil, or_false] at hq
    rcases hq with rfl | rfl
    · exact S230
    · exact S176) (fun as σ hl => ?_)
  match as, hl with
  | [a0], _ =>
  refine ⟨[(2, fun lo st τ => st = [] ∧ i_231 (q_r a0) σ (q_r (lo 0)) (q_i (lo 1)) τ), (51, fun lo st τ => st = [] ∧ k_231 (q_r a0) σ (q_r (lo 0)) (q_i (lo 2)) τ)], 400, ?_, ?_⟩
  · intro q hq
    simp only [List.mem_cons, List.not_mem_nil, or_false] at hq
    rcases hq with rfl | rfl
    · rintro lo st τ ⟨rfl, hI⟩
      refine ⟨400, ?_⟩
      refine And.intro (fun h1 => ?_) (fun h1 => ?_)
      · refine fun o2 τ2 g2 => ?_
        obtain ⟨r2, rfl, g2⟩ := g2
        refine And.intro (fun h3 => ?_) (fun h3 => ?_)
        · refine And.intro (fun h4 => ?_) (fun h4 => ?_)
          · refine fun o5 τ5 g5 => ?_
            obtain ⟨r5, rfl, g5⟩ := g5
            refine And.intro (fun h6 => ?_) (fun h6 => ?_)
            · exact ⟨rfl, sp_231_c2_tttt (q_r a0) σ (q_r (lo 0)) (q_i (lo 1)) τ τ2 r2 τ5 r5 hI (cm3t h1) g2 (cm3t h3) (cm3t h4) g5 (cm1t h6)⟩
            · refine fun h7 => ?_
              refine And.intro (fun h8 => ?_) (fun h8 => ?_)
              · refine fun o9 τ9 g9 => ?_
                obtain ⟨r9, rfl, g9⟩ := g9
                refine And.intro (fun h10 => ?_) (fun h10 => ?_)
                · refine fun h11 => ?_
                  refine fun h12 => ?_
                  refine fun h13 => ?_
                  exact ⟨_, rfl, sp_231_c2_tttftt (q_r a0) σ (q_r (lo 0)) (q_i (lo 1)) τ τ2 r2 τ5 r5 τ9 r9 hI (cm3t h1) g2 (cm3t h3) (cm3t h4) g5 (cm1f h6) (q_inp h7) (cm1t h8) g9 (cm0t h10) (q_inp h11) (q_inp h12) (q_inp h13)⟩
                · exact ⟨rfl, sp_231_c2_tttftf (q_r a0) σ (q_r (lo 0)) (q_i (lo 1)) τ τ2 r2 τ5 r5 τ9 r9 hI (cm3t h1) g2 (cm3t h3) (cm3t h4) g5 (cm1f h6) (q_inp h7) (cm1t h8) g9 (cm0f h10)⟩
              · refine fun o14 τ14 g14 => ?_
                obtain ⟨r14, rfl, g14⟩ := g14
                refine And.intro (fun h15 => ?_) (fun h15 => ?_)
                · refine fun h16 => ?_
                  refine fun h17 => ?_
                  refine fun h18 => ?_
                  exact ⟨_, rfl, sp_231_c2_tttfft (q_r a0) σ (q_r (lo 0)) (q_i (lo 1)) τ τ2 r2 τ5 r5 τ14 r14 hI (cm3t h1) g2 (cm3t h3) (cm3t h4) g5 (cm1f h6) (q_inp h7) (cm1f h8) g14 (cm0t h15) (q_inp h16) (q_inp h17) (q_inp h18)⟩
                · exact ⟨rfl, sp_231_c2_tttfff (q_r a0) σ (q_r (lo 0)) (q_i (lo 1)) τ τ2 r2 τ5 r5 τ14 r14 hI (cm3t h1) g2 (cm3t h3) (cm3t h4) g5 (cm1f h6) (q_inp h7) (cm1f h8) g14 (cm0f h15)⟩
          · refine fun o19 τ19 g19 => ?_
            obtain ⟨r19, rfl, g19⟩ := g19
            refine And.intro (fun h20 => ?_) (fun h20 => ?_)
            · exact ⟨rfl, sp_231_c2_ttft (q_r a0) σ (q_r (lo 0)) (q_i (lo 1)) τ τ2 r2 τ19 r19 hI (cm3t h1) g2 (cm3t h3) (cm3f h4) g19 (cm1t h20)⟩
            · refine fun h21 => ?_
              refine And.intro (fun h22 => ?_) (fun h22 => ?_)
              · refine fun o23 τ23 g23 => ?_
                obtain ⟨r23, rfl, g23⟩ := g23
                refine And.intro (fun h24 => ?_) (fun h24 => ?_)
                · refine fun h25 => ?_
                  refine fun h26 => ?_
                  refine fun h27 => ?_
                  exact ⟨_, rfl, sp_231_c2_ttfftt (q_r a0) σ (q_r (lo 0)) (q_i (lo 1)) τ τ2 r2 τ19 r19 τ23 r23 hI (cm3t h1) g2 (cm3t h3) (cm3f h4) g19 (cm1f h20) (q_inp h21) (cm1t h22) g23 (cm0t h24) (q_inp h25) (q_inp h26) (q_inp h27)⟩
                · exact ⟨rfl, sp_231_c2_ttfftf (q_r a0) σ (q_r (lo 0)) (q_i (lo 1)) τ τ2 r2 τ19 r19 τ23 r23 hI (cm3t h1) g2 (cm3t h3) (cm3f h4) g19 (cm1f h20) (q_inp h21) (cm1t h22) g23 (cm0f h24)⟩
              · refine fun o28 τ28 g28 => ?_
                obtain ⟨r28, rfl, g28⟩ := g28
                refine And.intro (fun h29 => ?_) (fun h29 => ?_)
                · refine fun h30 => ?_
                  refine fun h31 => ?_
                  refine fun h32 => ?_
                  exact ⟨_, rfl, sp_231_c2_ttffft (q_r a0) σ (q_r (lo 0)) (q_i (lo 1)) τ τ2 r2 τ19 r19 τ28 r28 hI (cm3t h1) g2 (cm3t h3) (cm3f h4) g19 (cm1f h20) (q_inp h21) (cm1f h22) g28 (cm0t h29) (q_inp h30) (q_inp h31) (q_inp h32)⟩
                · exact ⟨rfl, sp_231_c2_ttffff (q_r a0) σ (q_r (lo 0)) (q_i (lo 1)) τ τ2 r2 τ19 r19 τ28 r28 hI (cm3t h1) g2 (cm3t h3) (cm3f h4) g19 (cm1f h20) (q_inp h21) (cm1f h22) g28 (cm0f h29)⟩
        · refine And.intro (fun h33 => ?_) (fun h33 => ?_)
          · refine fun o34 τ34 g34 => ?_
            obtain ⟨r34, rfl, g34⟩ := g34
            refine And.intro (fun h35 => ?_) (fun h35 => ?_)
            · exact ⟨rfl, sp_231_c2_tftt (q_r a0) σ (q_r (lo 0)) (q_i (lo 1)) τ τ2 r2 τ34 r34 hI (cm3t h1) g2 (cm3f h3) (cm3t h33) g34 (cm1t h35)⟩
            · refine fun h36 => ?_
              refine And.intro (fun h37 => ?_) (fun h37 => ?_)
              · refine fun o38 τ38 g38 => ?_
                obtain ⟨r38, rfl, g38⟩ := g38
                refine And.intro (fun h39 => ?_) (fun h39 => ?_)
                · refine fun h40 => ?_
                  refine fun h41 => ?_
                  refine fun h42 => ?_
                  exact ⟨_, rfl, sp_231_c2_tftftt (q_r a0) σ (q_r (lo 0)) (q_i (lo 1)) τ τ2 r2 τ34 r34 τ38 r38 hI (cm3t h1) g2 (cm3f h3) (cm3t h33) g34 (cm1f h35) (q_inp h36) (cm1t h37) g38 (cm0t h39) (q_inp h40) (q_inp h41) (q_inp h42)⟩
                · exact ⟨rfl, sp_231_c2_tftftf (q_r a0) σ (q_r (lo 0)) (q_i (lo 1)) τ τ2 r2 τ34 r34 τ38 r38 hI (cm3t h1) g2 (cm3f h3) (cm3t h33) g34 (cm1f h35) (q_inp h36) (cm1t h37) g38 (cm0f h39)⟩
              · refine fun o43 τ43 g43 => ?_
                obtain ⟨r43, rfl, g43⟩ := g43
                refine And.intro (fun h44 => ?_) (fun h44 => ?_)
                · refine fun h45 => ?_
                  refine fun h46 => ?_
                  refine fun h47 => ?_
                  exact ⟨_, rfl, sp_231_c2_tftfft (q_r a0) σ (q_r (lo 0)) (q_i (lo 1)) τ τ2 r2 τ34 r34 τ43 r43 hI (cm3t h1) g2 (cm3f h3) (cm3t h33) g34 (cm1f h35) (q_inp h36) (cm1f h37) g43 (cm0t h44) (q_inp h45) (q_inp h46) (q_inp h47)⟩
                · exact ⟨rfl, sp_231_c2_tftfff (q_r a0) σ (q_r (lo 0)) (q_i (lo 1)) τ τ2 r2 τ34 r34 τ43 r43 hI (cm3t h1) g2 (cm3f h3) (cm3t h33) g34 (cm1f h35) (q_inp h36) (cm1f h37) g43 (cm0f h44)⟩
          · refine fun o48 τ48 g48 => ?_
            obtain ⟨r48, rfl, g48⟩ := g48
            refine And.intro (fun h49 => ?_) (fun h49 => ?_)
            · exact ⟨rfl, sp_231_c2_tfft (q_r a0) σ (q_r (lo 0)) (q_i (lo 1)) τ τ2 r2 τ48 r48 hI (cm3t h1) g2 (cm3f h3) (cm3f h33) g48 (cm1t h49)⟩
            · refine fun h50 => ?_
              refine And.intro (fun h51 => ?_) (fun h51 => ?_)
              · refine fun o52 τ52 g52 => ?_
                obtain ⟨r52, rfl, g52⟩ := g52
                refine And.intro (fun h53 => ?_) (fun h53 => ?_)
                · refine fun h54 => ?_
                  refine fun h55 => ?_
                  refine fun h56 => ?_
                  exact ⟨_, rfl, sp_231_c2_tffftt (q_r a0) σ (q_r (lo 0)) (q_i (lo 1)) τ τ2 r2 τ48 r48 τ52 r52 hI (cm3t h1) g2 (cm3f h3) (cm3f h33) g48 (cm1f h49) (q_inp h50) (cm1t h51) g52 (cm0t h53) (q_inp h54) (q_inp h55) (q_inp h56)⟩
                · exact ⟨rfl, sp_231_c2_tffftf (q_r a0) σ (q_r (lo 0)) (q_i (lo 1)) τ τ2 r2 τ48 r48 τ52 r52 hI (cm3t h1) g2 (cm3f h3) (cm3f h33) g48 (cm1f h49) (q_inp h50) (cm1t h51) g52 (cm0f h53)⟩
              · refine fun o57 τ57 g57 => ?_
                obtain ⟨r57, rfl, g57⟩ := g57
                refine And.intro (fun h58 => ?_) (fun h58 => ?_)
                · refine fun h59 => ?_
                  refine fun h60 => ?_
                  refine fun h61 => ?_
                  exact ⟨_, rfl, sp_231_c2_tfffft (q_r a0) σ (q_r (lo 0)) (q_i (lo 1)) τ τ2 r2 τ48 r48 τ57 r57 hI (cm3t h1) g2 (cm3f h3) (cm3f h33) g48 (cm1f h49) (q_inp h50) (cm1f h51) g57 (cm0t h58) (q_inp h59) (q_inp h60) (q_inp h61)⟩
                · exact ⟨rfl, sp_231_c2_tfffff (q_r a0) σ (q_r (lo 0)) (q_i (lo 1)) τ τ2 r2 τ48 r48 τ57 r57 hI (cm3t h1) g2 (cm3f h3) (cm3f h33) g48 (cm1f h49) (q_inp h50) (cm1f h51) g57 (cm0f h58)⟩
      · refine fun h62 => ?_
        refine fun h63 => ?_
        exact ⟨rfl, sp_231_c2_f (q_r a0) σ (q_r (lo 0)) (q_i (lo 1)) τ hI (cm3f h1) (q_inp h62) (q_inp h63)⟩
    · rintro lo st τ ⟨rfl, hI⟩
      refine ⟨400, ?_⟩
      refine And.intro (fun h64 => ?_) (fun h64 => ?_)
      · exact ⟨_, rfl, sp_231_c51_t (q_r a0) σ (q_r (lo 0)) (q_i (lo 2)) τ hI (cm3t h64)⟩
      · refine fun h65 => ?_
        refine fun h66 => ?_
        exact ⟨rfl, sp_231_c51_f (q_r a0) σ (q_r (lo 0)) (q_i (lo 2)) τ hI (cm3f h64) (q_inp h65) (q_inp h66)⟩
  · exact ⟨rfl, sp_231_e (q_r a0) σ ⟩
