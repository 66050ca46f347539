/-! the reference's reader of lines, exact; printed with wip/gen/gen_t5.py -/
theorem qsi_66 : q_si (zB + 66) = wWarm := by decide +kernel
theorem qsi_44 : q_si (zB + 44) = wDust := by decide +kernel
theorem qsi_54 : q_si (zB + 54) = wFine := by decide +kernel
theorem qsi_67 : q_si (zB + 67) = wIf := by decide +kernel
noncomputable def rF3 (σ σ' : zSg) (a W N : Nat) : Prop := σ'.2 = σ.2 ∧ ∀ c k, ¬ (c = a ∧ (k = 10 ∨ k = 12 ∨ k = 13 ∨ k = 16)) → ¬ (c = W ∧ 1286 ≤ k) → ¬ (c = W ∧ 1238 + 4 * N ≤ k ∧ k ≤ 1241 + 4 * N) → σ'.1 c k = σ.1 c k
section RLN
variable {σ τ υ : zSg} {a W P E D N : Nat} {b : Nat → Int} {l : zSs}
theorem rF3.rf : rF3 σ σ a W N := ⟨rfl, fun _ _ _ _ _ => rfl⟩
theorem rF3.tr (h1 : rF3 σ τ a W N) (h2 : rF3 τ υ a W N) : rF3 σ υ a W N := ⟨h2.1.trans h1.1, fun c k q1 q2 q3 => (h2.2 c k q1 q2 q3).trans (h1.2 c k q1 q2 q3)⟩
theorem rF3.of (h : rF σ τ a W) : rF3 σ τ a W N := ⟨h.1, fun c k q1 q2 _ => h.2 c k q1 q2⟩
theorem rF3.ww {k : Nat} {v : Value} (h : 1238 + 4 * N ≤ k ∧ k ≤ 1241 + 4 * N) : rF3 σ (q_w σ W k v) a W N := ⟨rfl, fun c i _ _ q3 => q_w_ne (fun e1 e2 => q3 ⟨e1, by omega⟩)⟩
theorem rG.ww {k : Nat} {v : Value} (H : rG σ a W b P E D l) (h : k < 1286) : rG (q_w σ W k v) a W b P E D l := by
  obtain ⟨h1, h2, h3, h4, h5, h6, h7, h8, h9, h10, h11⟩ := H
  obtain ⟨g1, g2, g3, g4, g5⟩ := h1
  have ne : a = W → False := fun q => h4 q.symm
  refine ⟨⟨?_, ?_, ?_, g4, g5⟩, ?_, ?_, h4, ?_, h6, ?_, h8, ?_, h10, fun i x hx => ?_⟩
  · rw [q_w_ne (fun q _ => ne q)]; exact g1
  · rw [q_w_ne (fun q _ => ne q)]; exact g2
  · rw [q_w_ne (fun q _ => ne q)]; exact g3
  · rw [← h2]
    funext i
    unfold rb
    rw [q_w_ne (c' := a) (k' := 8) (fun q _ => ne q), q_w_ne (fun q _ => h5 q)]
  · rw [q_w_ne (fun q _ => ne q)]; exact h3
  · rw [q_w_ne (fun q _ => ne q)]; exact h5
  · rw [q_w_ne (fun q _ => ne q)]; exact h7
  · rw [q_w_ne (fun q _ => ne q)]; exact h9
  · rw [q_w_ne (fun _ q => by omega), q_w_ne (fun _ q => by omega)]; exact h11 i x hx
theorem rF.at {k : Nat} (h : rF σ τ a W) (hW : W ≠ a) (hk : k < 1286) : τ.1 W k = σ.1 W k := h.2 W k (fun q => hW q.1) (fun q => by omega)
theorem zK4 {n : Nat} (h : n < 12) : (Int32.ofInt 1238 + Int32.ofInt 4 * Int32.ofNat n).toInt = 1238 + 4 * (n : Int) := by
  have e : (Int32.ofInt 4 * Int32.ofNat n).toInt = 4 * (n : Int) := by
    rw [Int32.toInt_mul, zI_c (by omega) (by omega), o32 (by omega)]
    exact z_bm (by omega) (by omega)
  exact zI_add (zI_c (by omega) (by omega)) e (by omega) (by omega)
theorem zK4n {n : Nat} (h : n < 12) : (Int32.ofInt 1238 + Int32.ofInt 4 * Int32.ofNat n).toNatClampNeg = 1238 + 4 * n := znat (by rw [zK4 h]; omega)
theorem zK4a {n m : Nat} (h : n < 12) (hm : m ≤ 3) : (Int32.ofInt 1238 + Int32.ofInt 4 * Int32.ofNat n + Int32.ofInt (m : Int)).toNatClampNeg = 1238 + 4 * n + m := znat (by rw [zI_add (zK4 h) (zI_c (by omega) (by omega)) (by omega) (by omega)]; omega)
end RLN
/-- what holds as a line begins -/
noncomputable def rB (σ : zSg) (a W : Nat) (b : Nat → Int) (E D : Nat) (l : zSs) (A N : Nat) (n : Int32) : Prop := rG σ a W b (zLt b E A) E D l ∧ σ.1 a 12 = .int (Int32.ofNat A) ∧ zBl b E A = A ∧ n = Int32.ofNat N ∧ N < 12
abbrev rI (σ' : zSg) (a W : Nat) (b : Nat → Int) (E : Nat) (l : zSs) (N : Nat) (r : Int32) (R : (Nat × Nat × Nat × zSs) ⊕ Nat) : Prop := match R with
  | .inl (A1, c, v, m) => r.toInt ≠ 0 ∧ (∃ P', P' ≤ E ∧ zBl b E P' = A1 ∧ rG σ' a W b P' E 0 (l ++ m)) ∧ σ'.1 W (1238 + 4 * N) = .int (Int32.ofNat c) ∧ σ'.1 W (1239 + 4 * N) = .int (Int32.ofNat v) ∧ σ'.1 W (1240 + 4 * N) = .int (Int32.ofNat l.length) ∧ σ'.1 W (1241 + 4 * N) = .int (Int32.ofNat (l ++ m).length)
  | .inr F => r.toInt = 0 ∧ σ'.1 a 12 = .int (Int32.ofNat F)
noncomputable def p_228 (a : Nat) (n : Int32) (σ : zSg) (r : Int32) (σ' : zSg) : Prop := ∀ W b E D l A N, rB σ a W b E D l A N n → rF3 σ σ' a W N ∧ ∃ R, GI b E A R ∧ rI σ' a W b E l N r R
noncomputable def i_228 (a : Nat) (n : Int32) (σ : zSg) (l0 : Nat) (l1 l2 : Int32) (s0 s1 : Int32) (s2 : Nat) (τ : zSg) : Prop := l0 = a ∧ l1 = n ∧ l2 = Int32.ofInt 1238 + Int32.ofInt 4 * n ∧ s1 = l2 ∧ s2 = q_r (σ.1 a 1) ∧ ∀ W b E D l A N, rB σ a W b E D l A N n → τ = σ ∧ ((s0.toInt = -1 ∧ tws b E A [wWarm, wDust, wFine] 0 = none) ∨ ∃ c, c ≤ 2 ∧ s0 = Int32.ofNat c ∧ tws b E A [wWarm, wDust, wFine] 0 = some (zBl b E (zLt b E A), c))
noncomputable def j_228 (a : Nat) (n : Int32) (σ : zSg) (l0 : Nat) (l1 l2 : Int32) (τ : zSg) : Prop := l0 = a ∧ l1 = n ∧ l2 = Int32.ofInt 1238 + Int32.ofInt 4 * n ∧ ∀ W b E D l A N, rB σ a W b E D l A N n → rF3 σ τ a W N ∧ ∃ c v A1 P2, tws b E A [wWarm, wDust, wFine] 0 = some (A1, c) ∧ tn b E 0 20 A1 = some (zBl b E P2, v) ∧ rG τ a W b P2 E D l ∧ τ.1 W (1238 + 4 * N) = .int (Int32.ofNat c) ∧ τ.1 W (1239 + 4 * N) = .int (Int32.ofNat v)
noncomputable def k_228 (a : Nat) (n : Int32) (σ : zSg) (l0 : Nat) (l1 l2 : Int32) (τ : zSg) : Prop := l0 = a ∧ l1 = n ∧ l2 = Int32.ofInt 1238 + Int32.ofInt 4 * n ∧ ∀ W b E D l A N, rB σ a W b E D l A N n → rF3 σ τ a W N ∧ ∃ c v m P2, GI b E A (.inl (zBl b E P2, c, v, m)) ∧ rG τ a W b P2 E 0 (l ++ m) ∧ τ.1 W (1238 + 4 * N) = .int (Int32.ofNat c) ∧ τ.1 W (1239 + 4 * N) = .int (Int32.ofNat v) ∧ τ.1 W (1240 + 4 * N) = .int (Int32.ofNat l.length)
theorem sp_228_ettt (a0 : Nat) (a1 : Int32) (σ : zSg) (τ1 : zSg) (r1 : Int32) (τ3 : zSg) (r3 : Int32) (τ5 : zSg) (r5 : Int32) (g1 : p_204 a0 (zB + 66) σ r1 τ1) (h2 : r1.toInt = (0 : Int)) (g3 : p_204 a0 (zB + 44) τ1 r3 τ3) (h4 : r3.toInt = (0 : Int)) (g5 : p_204 a0 (zB + 54) τ3 r5 τ5) (h6 : r5.toInt = (0 : Int)) :
    i_228 a0 a1 σ a0 a1 ((Int32.ofInt (1238)) + ((Int32.ofInt (4)) * a1)) (Int32.ofInt (-1)) ((Int32.ofInt (1238)) + ((Int32.ofInt (4)) * a1)) (q_r (σ.1 a0 1)) τ5 := by
  refine ⟨rfl, rfl, rfl, rfl, rfl, fun W b E D l A N H => ?_⟩
  obtain ⟨H0, t12, hA, -, -⟩ := H
  obtain ⟨rfl, u0, v0⟩ := H0.wd t12 g1 qsi_66 (by decide)
  obtain ⟨rfl, u1, v1⟩ := H0.wd t12 g3 qsi_44 (by decide)
  obtain ⟨rfl, u2, v2⟩ := H0.wd t12 g5 qsi_54 (by decide)
  have e0 := v0 h2
  have e1 := v1 h4
  have e2 := v2 h6
  exact ⟨rfl, Or.inl ⟨by decide, by simp only [tws, e0, e1, e2]⟩⟩
theorem sp_228_ettf (a0 : Nat) (a1 : Int32) (σ : zSg) (τ1 : zSg) (r1 : Int32) (τ3 : zSg) (r3 : Int32) (τ5 : zSg) (r5 : Int32) (g1 : p_204 a0 (zB + 66) σ r1 τ1) (h2 : r1.toInt = (0 : Int)) (g3 : p_204 a0 (zB + 44) τ1 r3 τ3) (h4 : r3.toInt = (0 : Int)) (g5 : p_204 a0 (zB + 54) τ3 r5 τ5) (h6 : r5.toInt ≠ (0 : Int)) :
    i_228 a0 a1 σ a0 a1 ((Int32.ofInt (1238)) + ((Int32.ofInt (4)) * a1)) (Int32.ofInt (2)) ((Int32.ofInt (1238)) + ((Int32.ofInt (4)) * a1)) (q_r (σ.1 a0 1)) τ5 := by
  refine ⟨rfl, rfl, rfl, rfl, rfl, fun W b E D l A N H => ?_⟩
  obtain ⟨H0, t12, hA, -, -⟩ := H
  obtain ⟨rfl, u0, v0⟩ := H0.wd t12 g1 qsi_66 (by decide)
  obtain ⟨rfl, u1, v1⟩ := H0.wd t12 g3 qsi_44 (by decide)
  obtain ⟨rfl, u2, v2⟩ := H0.wd t12 g5 qsi_54 (by decide)
  have e0 := v0 h2
  have e1 := v1 h4
  have e2 := (u2 h6).2
  exact ⟨rfl, Or.inr ⟨2, by omega, rfl, by simp only [tws, e0, e1, e2]⟩⟩
theorem sp_228_etf (a0 : Nat) (a1 : Int32) (σ : zSg) (τ1 : zSg) (r1 : Int32) (τ3 : zSg) (r3 : Int32) (g1 : p_204 a0 (zB + 66) σ r1 τ1) (h2 : r1.toInt = (0 : Int)) (g3 : p_204 a0 (zB + 44) τ1 r3 τ3) (h4 : r3.toInt ≠ (0 : Int)) :
    i_228 a0 a1 σ a0 a1 ((Int32.ofInt (1238)) + ((Int32.ofInt (4)) * a1)) (Int32.ofInt (1)) ((Int32.ofInt (1238)) + ((Int32.ofInt (4)) * a1)) (q_r (σ.1 a0 1)) τ3 := by
  refine ⟨rfl, rfl, rfl, rfl, rfl, fun W b E D l A N H => ?_⟩
  obtain ⟨H0, t12, hA, -, -⟩ := H
  obtain ⟨rfl, u0, v0⟩ := H0.wd t12 g1 qsi_66 (by decide)
  obtain ⟨rfl, u1, v1⟩ := H0.wd t12 g3 qsi_44 (by decide)
  have e0 := v0 h2
  have e1 := (u1 h4).2
  exact ⟨rfl, Or.inr ⟨1, by omega, rfl, by simp only [tws, e0, e1]⟩⟩
theorem sp_228_ef (a0 : Nat) (a1 : Int32) (σ : zSg) (τ1 : zSg) (r1 : Int32) (g1 : p_204 a0 (zB + 66) σ r1 τ1) (h2 : r1.toInt ≠ (0 : Int)) :
    i_228 a0 a1 σ a0 a1 ((Int32.ofInt (1238)) + ((Int32.ofInt (4)) * a1)) (Int32.ofInt (0)) ((Int32.ofInt (1238)) + ((Int32.ofInt (4)) * a1)) (q_r (σ.1 a0 1)) τ1 := by
  refine ⟨rfl, rfl, rfl, rfl, rfl, fun W b E D l A N H => ?_⟩
  obtain ⟨H0, t12, hA, -, -⟩ := H
  obtain ⟨rfl, u0, v0⟩ := H0.wd t12 g1 qsi_66 (by decide)
  have e0 := (u0 h2).2
  exact ⟨rfl, Or.inr ⟨0, by omega, rfl, by simp only [tws, e0]⟩⟩
theorem sp_228_c28_tt (a0 : Nat) (a1 : Int32) (σ : zSg) (l0 : Nat) (l1 : Int32) (l2 : Int32) (s0 : Int32) (s1 : Int32) (s2 : Nat) (τ : zSg) (τ10 : zSg) (r10 : Int32) (hI : i_228 a0 a1 σ l0 l1 l2 s0 s1 s2 τ) (h7 : 0 ≤ s1.toInt ∧ s1.toInt < (τ.2.1 s2 : Int)) (h8 : 0 ≤ l2.toInt ∧ l2.toInt < ((q_w τ s2 s1.toNatClampNeg (.int s0)).2.1 (q_r ((q_w τ s2 s1.toNatClampNeg (.int s0)).1 l0 1)) : Int)) (h9 : (q_i ((q_w τ s2 s1.toNatClampNeg (.int s0)).1 (q_r ((q_w τ s2 s1.toNatClampNeg (.int s0)).1 l0 1)) l2.toNatClampNeg)).toInt ≥ (0 : Int)) (g10 : p_207 l0 (Int32.ofInt (0)) (Int32.ofInt (20)) (q_w τ s2 s1.toNatClampNeg (.int s0)) r10 τ10) (h11 : 0 ≤ (l2 + (Int32.ofInt (1))).toInt ∧ (l2 + (Int32.ofInt (1))).toInt < (τ10.2.1 (q_r ((q_w τ s2 s1.toNatClampNeg (.int s0)).1 l0 1)) : Int)) (h12 : 0 ≤ (l2 + (Int32.ofInt (1))).toInt ∧ (l2 + (Int32.ofInt (1))).toInt < ((q_w τ10 (q_r ((q_w τ s2 s1.toNatClampNeg (.int s0)).1 l0 1)) (l2 + (Int32.ofInt (1))).toNatClampNeg (.int r10)).2.1 (q_r ((q_w τ10 (q_r ((q_w τ s2 s1.toNatClampNeg (.int s0)).1 l0 1)) (l2 + (Int32.ofInt (1))).toNatClampNeg (.int r10)).1 l0 1)) : Int)) (h13 : (q_i ((q_w τ10 (q_r ((q_w τ s2 s1.toNatClampNeg (.int s0)).1 l0 1)) (l2 + (Int32.ofInt (1))).toNatClampNeg (.int r10)).1 (q_r ((q_w τ10 (q_r ((q_w τ s2 s1.toNatClampNeg (.int s0)).1 l0 1)) (l2 + (Int32.ofInt (1))).toNatClampNeg (.int r10)).1 l0 1)) (l2 + (Int32.ofInt (1))).toNatClampNeg)).toInt ≥ (0 : Int)) :
    j_228 a0 a1 σ l0 l1 l2 (q_w τ10 (q_r ((q_w τ s2 s1.toNatClampNeg (.int s0)).1 l0 1)) (l2 + (Int32.ofInt (1))).toNatClampNeg (.int r10)) := by
  obtain ⟨rfl, rfl, rfl, rfl, rfl, G⟩ := hI
  refine ⟨rfl, rfl, rfl, fun W b E D l A N H => ?_⟩
  obtain ⟨rfl, hs⟩ := G W b E D l A N H
  obtain ⟨H0, t12, hA, rfl, hN⟩ := id H
  have hW := H0.2.2.2.1
  have q1 : q_r (τ.1 l0 1) = W := by rw [H0.2.2.1]; rfl
  have k0 := zK4n hN
  have H1 : rG (q_w τ W (1238 + 4 * N) (.int s0)) l0 W b (zLt b E A) E D l := H0.ww (by omega)
  have r1 : q_r ((q_w τ W (1238 + 4 * N) (.int s0)).1 l0 1) = W := by rw [H1.2.2.1]; rfl
  simp only [q1, k0, r1] at h9 ⊢
  rw [q_w_at] at h9
  have kd : s0.toInt ≥ 0 := h9
  have k1 : (Int32.ofInt 1238 + Int32.ofInt 4 * Int32.ofNat N + Int32.ofInt 1).toNatClampNeg = 1239 + 4 * N := (zK4a hN (m := 1) (by omega)).trans (by omega)
  simp only [q1, k0] at g10
  have g9 := g10 _ E H1.1
  rw [H1.2.1] at g9
  obtain ⟨g8, rfl⟩ := g9
  have c0 : (Int32.ofInt 0).toInt = 0 := rfl
  have c20 : (Int32.ofInt 20).toInt = 20 := rfl
  rw [c0, c20] at g8
  have H2x := H1.rs (K := zDe b E (zBl b E (zLt b E A))) (Q := zBl b E (zLt b E A)) (zRn_le H1.bl)
  have H3x := H2x.ww (k := 1239 + 4 * N) (v := .int r10) (by omega)
  have r3 : q_r ((q_w (q_rs (q_w τ W (1238 + 4 * N) (.int s0)) l0 (zDe b E (zBl b E (zLt b E A))) (zBl b E (zLt b E A))) W (1239 + 4 * N) (.int r10)).1 l0 1) = W := by rw [H3x.2.2.1]; rfl
  simp only [q1, k0, r1, k1, r3] at h13 ⊢
  rw [q_w_at] at h13
  have av : (r10).toInt ≥ 0 := h13
  have f9 : rF3 τ (q_w (q_rs (q_w τ W (1238 + 4 * N) (.int s0)) l0 (zDe b E (zBl b E (zLt b E A))) (zBl b E (zLt b E A))) W (1239 + 4 * N) (.int r10)) l0 W N := ((rF3.ww (by omega)).tr (rF3.of rF.rs)).tr (rF3.ww (by omega))
  rcases hs with ⟨h9, -⟩ | ⟨c, hc, rfl, ht⟩
  · omega
  have hn : tn b E 0 20 (zBl b E (zLt b E A)) = some (zBl b E (zDe b E (zBl b E (zLt b E A))), (zNm b E 0 20 (zBl b E (zLt b E A))).toNat) := by
    unfold tn
    rw [if_pos (by omega)]
  have hv := zNm_ge (b := b) (E := E) (lo := 0) (hi := 20) (A := zBl b E (zLt b E A)) (by omega)
  have er : r10 = Int32.ofNat (zNm b E 0 20 (zBl b E (zLt b E A))).toNat := by
    refine Int32.toInt_inj.mp ?_
    rw [g8, Int32.toInt_ofNat_of_lt (by omega)]
    omega
  refine ⟨f9, c, _, _, _, ht, hn, H3x, ?_, ?_⟩
  · rw [q_w_ne (fun _ q => by omega), (rF.rs (W := W)).at hW (by omega), q_w_at]
  · rw [q_w_at, er]
theorem sp_228_c28_tf (a0 : Nat) (a1 : Int32) (σ : zSg) (l0 : Nat) (l1 : Int32) (l2 : Int32) (s0 : Int32) (s1 : Int32) (s2 : Nat) (τ : zSg) (τ10 : zSg) (r10 : Int32) (hI : i_228 a0 a1 σ l0 l1 l2 s0 s1 s2 τ) (h7 : 0 ≤ s1.toInt ∧ s1.toInt < (τ.2.1 s2 : Int)) (h8 : 0 ≤ l2.toInt ∧ l2.toInt < ((q_w τ s2 s1.toNatClampNeg (.int s0)).2.1 (q_r ((q_w τ s2 s1.toNatClampNeg (.int s0)).1 l0 1)) : Int)) (h9 : (q_i ((q_w τ s2 s1.toNatClampNeg (.int s0)).1 (q_r ((q_w τ s2 s1.toNatClampNeg (.int s0)).1 l0 1)) l2.toNatClampNeg)).toInt ≥ (0 : Int)) (g10 : p_207 l0 (Int32.ofInt (0)) (Int32.ofInt (20)) (q_w τ s2 s1.toNatClampNeg (.int s0)) r10 τ10) (h11 : 0 ≤ (l2 + (Int32.ofInt (1))).toInt ∧ (l2 + (Int32.ofInt (1))).toInt < (τ10.2.1 (q_r ((q_w τ s2 s1.toNatClampNeg (.int s0)).1 l0 1)) : Int)) (h12 : 0 ≤ (l2 + (Int32.ofInt (1))).toInt ∧ (l2 + (Int32.ofInt (1))).toInt < ((q_w τ10 (q_r ((q_w τ s2 s1.toNatClampNeg (.int s0)).1 l0 1)) (l2 + (Int32.ofInt (1))).toNatClampNeg (.int r10)).2.1 (q_r ((q_w τ10 (q_r ((q_w τ s2 s1.toNatClampNeg (.int s0)).1 l0 1)) (l2 + (Int32.ofInt (1))).toNatClampNeg (.int r10)).1 l0 1)) : Int)) (h13 : (q_i ((q_w τ10 (q_r ((q_w τ s2 s1.toNatClampNeg (.int s0)).1 l0 1)) (l2 + (Int32.ofInt (1))).toNatClampNeg (.int r10)).1 (q_r ((q_w τ10 (q_r ((q_w τ s2 s1.toNatClampNeg (.int s0)).1 l0 1)) (l2 + (Int32.ofInt (1))).toNatClampNeg (.int r10)).1 l0 1)) (l2 + (Int32.ofInt (1))).toNatClampNeg)).toInt < (0 : Int)) :
    p_228 (a0) (a1) σ (Int32.ofInt (0)) (q_w τ10 (q_r ((q_w τ s2 s1.toNatClampNeg (.int s0)).1 l0 1)) (l2 + (Int32.ofInt (1))).toNatClampNeg (.int r10)) := by
  obtain ⟨rfl, rfl, rfl, rfl, rfl, G⟩ := hI
  intro W b E D l A N H
  obtain ⟨rfl, hs⟩ := G W b E D l A N H
  obtain ⟨H0, t12, hA, rfl, hN⟩ := id H
  have hW := H0.2.2.2.1
  have q1 : q_r (τ.1 l0 1) = W := by rw [H0.2.2.1]; rfl
  have k0 := zK4n hN
  have H1 : rG (q_w τ W (1238 + 4 * N) (.int s0)) l0 W b (zLt b E A) E D l := H0.ww (by omega)
  have r1 : q_r ((q_w τ W (1238 + 4 * N) (.int s0)).1 l0 1) = W := by rw [H1.2.2.1]; rfl
  simp only [q1, k0, r1] at h9 ⊢
  rw [q_w_at] at h9
  have kd : s0.toInt ≥ 0 := h9
  have k1 : (Int32.ofInt 1238 + Int32.ofInt 4 * Int32.ofNat N + Int32.ofInt 1).toNatClampNeg = 1239 + 4 * N := (zK4a hN (m := 1) (by omega)).trans (by omega)
  simp only [q1, k0] at g10
  have g9 := g10 _ E H1.1
  rw [H1.2.1] at g9
  obtain ⟨g8, rfl⟩ := g9
  have c0 : (Int32.ofInt 0).toInt = 0 := rfl
  have c20 : (Int32.ofInt 20).toInt = 20 := rfl
  rw [c0, c20] at g8
  have H2x := H1.rs (K := zDe b E (zBl b E (zLt b E A))) (Q := zBl b E (zLt b E A)) (zRn_le H1.bl)
  have H3x := H2x.ww (k := 1239 + 4 * N) (v := .int r10) (by omega)
  have r3 : q_r ((q_w (q_rs (q_w τ W (1238 + 4 * N) (.int s0)) l0 (zDe b E (zBl b E (zLt b E A))) (zBl b E (zLt b E A))) W (1239 + 4 * N) (.int r10)).1 l0 1) = W := by rw [H3x.2.2.1]; rfl
  simp only [q1, k0, r1, k1, r3] at h13 ⊢
  rw [q_w_at] at h13
  have av : (r10).toInt < 0 := h13
  have f9 : rF3 τ (q_w (q_rs (q_w τ W (1238 + 4 * N) (.int s0)) l0 (zDe b E (zBl b E (zLt b E A))) (zBl b E (zLt b E A))) W (1239 + 4 * N) (.int r10)) l0 W N := ((rF3.ww (by omega)).tr (rF3.of rF.rs)).tr (rF3.ww (by omega))
  rcases hs with ⟨h9, -⟩ | ⟨c, hc, rfl, ht⟩
  · omega
  have hn : tn b E 0 20 (zBl b E (zLt b E A)) = none := by
    unfold tn
    rw [if_neg (by omega)]
  refine ⟨f9, _, GI.n0 ht hn, rfl, ?_⟩
  rw [q_w_ne (fun q _ => hW q.symm)]
  exact q_rs_12
theorem sp_228_c28_f (a0 : Nat) (a1 : Int32) (σ : zSg) (l0 : Nat) (l1 : Int32) (l2 : Int32) (s0 : Int32) (s1 : Int32) (s2 : Nat) (τ : zSg) (hI : i_228 a0 a1 σ l0 l1 l2 s0 s1 s2 τ) (h7 : 0 ≤ s1.toInt ∧ s1.toInt < (τ.2.1 s2 : Int)) (h8 : 0 ≤ l2.toInt ∧ l2.toInt < ((q_w τ s2 s1.toNatClampNeg (.int s0)).2.1 (q_r ((q_w τ s2 s1.toNatClampNeg (.int s0)).1 l0 1)) : Int)) (h9 : (q_i ((q_w τ s2 s1.toNatClampNeg (.int s0)).1 (q_r ((q_w τ s2 s1.toNatClampNeg (.int s0)).1 l0 1)) l2.toNatClampNeg)).toInt < (0 : Int)) :
    p_228 (a0) (a1) σ (Int32.ofInt (0)) (q_w τ s2 s1.toNatClampNeg (.int s0)) := by
  obtain ⟨rfl, rfl, rfl, rfl, rfl, G⟩ := hI
  intro W b E D l A N H
  obtain ⟨rfl, hs⟩ := G W b E D l A N H
  obtain ⟨H0, t12, hA, rfl, hN⟩ := id H
  have hW := H0.2.2.2.1
  have q1 : q_r (τ.1 l0 1) = W := by rw [H0.2.2.1]; rfl
  have k0 := zK4n hN
  have H1 : rG (q_w τ W (1238 + 4 * N) (.int s0)) l0 W b (zLt b E A) E D l := H0.ww (by omega)
  have r1 : q_r ((q_w τ W (1238 + 4 * N) (.int s0)).1 l0 1) = W := by rw [H1.2.2.1]; rfl
  simp only [q1, k0, r1] at h9 ⊢
  rw [q_w_at] at h9
  have kd : s0.toInt < 0 := h9
  rcases hs with ⟨h9, ht⟩ | ⟨c, hc, rfl, ht⟩
  · exact ⟨rF3.ww (by omega), _, GI.k0 ht, rfl, by rw [q_w_ne (fun q _ => hW q.symm)]; exact t12⟩
  · rw [o32 (by omega)] at kd
    omega
theorem sp_228_c55_t (a0 : Nat) (a1 : Int32) (σ : zSg) (l0 : Nat) (l1 : Int32) (l2 : Int32) (τ : zSg) (τ15 : zSg) (r15 : Int32) (hI : j_228 a0 a1 σ l0 l1 l2 τ) (h14 : 0 ≤ (l2 + (Int32.ofInt (2))).toInt ∧ (l2 + (Int32.ofInt (2))).toInt < (τ.2.1 (q_r (τ.1 l0 1)) : Int)) (g15 : p_205 l0 (zB + 67) (q_w (q_w τ (q_r (τ.1 l0 1)) (l2 + (Int32.ofInt (2))).toNatClampNeg (.int (q_i (τ.1 l0 16)))) l0 13 (.int (Int32.ofInt (0)))) r15 τ15) (h16 : r15.toInt = (0 : Int)) :
    k_228 a0 a1 σ l0 l1 l2 τ15 := by
  obtain ⟨rfl, rfl, rfl, G⟩ := hI
  refine ⟨rfl, rfl, rfl, fun W b E D l A N H => ?_⟩
  obtain ⟨f1, c, v, A1, P2, ht, hn, H1, w0, w1⟩ := G W b E D l A N H
  obtain ⟨-, -, -, rfl, hN⟩ := id H
  have hW := H1.2.2.2.1
  have q1 : q_r (τ.1 l0 1) = W := by rw [H1.2.2.1]; rfl
  have q16 : q_i (τ.1 l0 16) = Int32.ofNat l.length := by rw [H1.2.2.2.2.2.2.2.2.1]; rfl
  have k2 : (Int32.ofInt 1238 + Int32.ofInt 4 * Int32.ofNat N + Int32.ofInt 2).toNatClampNeg = 1240 + 4 * N := (zK4a hN (m := 2) (by omega)).trans (by omega)
  simp only [q1, q16, k2] at g15
  have H2x := (H1.ww (k := 1240 + 4 * N) (v := .int (Int32.ofNat l.length)) (by omega)).dp (K := 0) (by omega)
  have f2 : rF3 τ (q_w (q_w τ W (1240 + 4 * N) (.int (Int32.ofNat l.length))) l0 13 (.int (Int32.ofNat 0))) l0 W N := (rF3.ww (by omega)).tr (rF3.of (rF.w (by omega)))
  have x0 : (q_w (q_w τ W (1240 + 4 * N) (.int (Int32.ofNat l.length))) l0 13 (.int (Int32.ofNat 0))).1 W (1238 + 4 * N) = .int (Int32.ofNat c) := by
    rw [q_w_ne (fun q _ => hW q), q_w_ne (fun _ q => by omega)]; exact w0
  have x1 : (q_w (q_w τ W (1240 + 4 * N) (.int (Int32.ofNat l.length))) l0 13 (.int (Int32.ofNat 0))).1 W (1239 + 4 * N) = .int (Int32.ofNat v) := by
    rw [q_w_ne (fun q _ => hW q), q_w_ne (fun _ q => by omega)]; exact w1
  have x2 : (q_w (q_w τ W (1240 + 4 * N) (.int (Int32.ofNat l.length))) l0 13 (.int (Int32.ofNat 0))).1 W (1240 + 4 * N) = .int (Int32.ofNat l.length) := by
    rw [q_w_ne (fun q _ => hW q), q_w_at]
  obtain ⟨f3, -, u, z⟩ := H2x.ps g15 qsi_67 (by decide)
  obtain ⟨e1, H3x⟩ := z h16
  refine ⟨(f1.tr f2).tr (rF3.of f3), c, v, [], zBl b E P2, ?_, ?_, ?_, ?_, ?_⟩
  · rw [zBl_bl]; exact GI.plain ht hn e1
  · rw [List.append_nil]; exact H3x
  · rw [f3.at hW (by omega)]; exact x0
  · rw [f3.at hW (by omega)]; exact x1
  · rw [f3.at hW (by omega)]; exact x2
theorem sp_228_c55_ft (a0 : Nat) (a1 : Int32) (σ : zSg) (l0 : Nat) (l1 : Int32) (l2 : Int32) (τ : zSg) (τ15 : zSg) (r15 : Int32) (τ17 : zSg) (r17 : Int32) (hI : j_228 a0 a1 σ l0 l1 l2 τ) (h14 : 0 ≤ (l2 + (Int32.ofInt (2))).toInt ∧ (l2 + (Int32.ofInt (2))).toInt < (τ.2.1 (q_r (τ.1 l0 1)) : Int)) (g15 : p_205 l0 (zB + 67) (q_w (q_w τ (q_r (τ.1 l0 1)) (l2 + (Int32.ofInt (2))).toNatClampNeg (.int (q_i (τ.1 l0 16)))) l0 13 (.int (Int32.ofInt (0)))) r15 τ15) (h16 : r15.toInt ≠ (0 : Int)) (g17 : p_227 l0 τ15 r17 τ17) (h18 : r17.toInt ≠ (0 : Int)) :
    k_228 a0 a1 σ l0 l1 l2 τ17 := by
  obtain ⟨rfl, rfl, rfl, G⟩ := hI
  refine ⟨rfl, rfl, rfl, fun W b E D l A N H => ?_⟩
  obtain ⟨f1, c, v, A1, P2, ht, hn, H1, w0, w1⟩ := G W b E D l A N H
  obtain ⟨-, -, -, rfl, hN⟩ := id H
  have hW := H1.2.2.2.1
  have q1 : q_r (τ.1 l0 1) = W := by rw [H1.2.2.1]; rfl
  have q16 : q_i (τ.1 l0 16) = Int32.ofNat l.length := by rw [H1.2.2.2.2.2.2.2.2.1]; rfl
  have k2 : (Int32.ofInt 1238 + Int32.ofInt 4 * Int32.ofNat N + Int32.ofInt 2).toNatClampNeg = 1240 + 4 * N := (zK4a hN (m := 2) (by omega)).trans (by omega)
  simp only [q1, q16, k2] at g15
  have H2x := (H1.ww (k := 1240 + 4 * N) (v := .int (Int32.ofNat l.length)) (by omega)).dp (K := 0) (by omega)
  have f2 : rF3 τ (q_w (q_w τ W (1240 + 4 * N) (.int (Int32.ofNat l.length))) l0 13 (.int (Int32.ofNat 0))) l0 W N := (rF3.ww (by omega)).tr (rF3.of (rF.w (by omega)))
  have x0 : (q_w (q_w τ W (1240 + 4 * N) (.int (Int32.ofNat l.length))) l0 13 (.int (Int32.ofNat 0))).1 W (1238 + 4 * N) = .int (Int32.ofNat c) := by
    rw [q_w_ne (fun q _ => hW q), q_w_ne (fun _ q => by omega)]; exact w0
  have x1 : (q_w (q_w τ W (1240 + 4 * N) (.int (Int32.ofNat l.length))) l0 13 (.int (Int32.ofNat 0))).1 W (1239 + 4 * N) = .int (Int32.ofNat v) := by
    rw [q_w_ne (fun q _ => hW q), q_w_ne (fun _ q => by omega)]; exact w1
  have x2 : (q_w (q_w τ W (1240 + 4 * N) (.int (Int32.ofNat l.length))) l0 13 (.int (Int32.ofNat 0))).1 W (1240 + 4 * N) = .int (Int32.ofNat l.length) := by
    rw [q_w_ne (fun q _ => hW q), q_w_at]
  obtain ⟨f3, -, u, z⟩ := H2x.ps g15 qsi_67 (by decide)
  obtain ⟨e1, H3x⟩ := u h16
  obtain ⟨f4, R, g1, g2⟩ := g17 W b _ E _ _ H3x
  cases R with
  | inr F => exact absurd g2.1 h18
  | inl q =>
    obtain ⟨A4, m⟩ := q
    obtain ⟨-, P4, p4, rfl, H4x⟩ := g2
    refine ⟨(f1.tr f2).tr (rF3.of (f3.tr f4)), c, v, m, P4, GI.if1 ht hn e1 g1, H4x, ?_, ?_, ?_⟩
    · rw [(f3.tr f4).at hW (by omega)]; exact x0
    · rw [(f3.tr f4).at hW (by omega)]; exact x1
    · rw [(f3.tr f4).at hW (by omega)]; exact x2
theorem sp_228_c55_ff (a0 : Nat) (a1 : Int32) (σ : zSg) (l0 : Nat) (l1 : Int32) (l2 : Int32) (τ : zSg) (τ15 : zSg) (r15 : Int32) (τ17 : zSg) (r17 : Int32) (hI : j_228 a0 a1 σ l0 l1 l2 τ) (h14 : 0 ≤ (l2 + (Int32.ofInt (2))).toInt ∧ (l2 + (Int32.ofInt (2))).toInt < (τ.2.1 (q_r (τ.1 l0 1)) : Int)) (g15 : p_205 l0 (zB + 67) (q_w (q_w τ (q_r (τ.1 l0 1)) (l2 + (Int32.ofInt (2))).toNatClampNeg (.int (q_i (τ.1 l0 16)))) l0 13 (.int (Int32.ofInt (0)))) r15 τ15) (h16 : r15.toInt ≠ (0 : Int)) (g17 : p_227 l0 τ15 r17 τ17) (h18 : r17.toInt = (0 : Int)) :
    p_228 (a0) (a1) σ (Int32.ofInt (0)) τ17 := by
  obtain ⟨rfl, rfl, rfl, G⟩ := hI
  intro W b E D l A N H
  obtain ⟨f1, c, v, A1, P2, ht, hn, H1, w0, w1⟩ := G W b E D l A N H
  obtain ⟨-, -, -, rfl, hN⟩ := id H
  have hW := H1.2.2.2.1
  have q1 : q_r (τ.1 l0 1) = W := by rw [H1.2.2.1]; rfl
  have q16 : q_i (τ.1 l0 16) = Int32.ofNat l.length := by rw [H1.2.2.2.2.2.2.2.2.1]; rfl
  have k2 : (Int32.ofInt 1238 + Int32.ofInt 4 * Int32.ofNat N + Int32.ofInt 2).toNatClampNeg = 1240 + 4 * N := (zK4a hN (m := 2) (by omega)).trans (by omega)
  simp only [q1, q16, k2] at g15
  have H2x := (H1.ww (k := 1240 + 4 * N) (v := .int (Int32.ofNat l.length)) (by omega)).dp (K := 0) (by omega)
  have f2 : rF3 τ (q_w (q_w τ W (1240 + 4 * N) (.int (Int32.ofNat l.length))) l0 13 (.int (Int32.ofNat 0))) l0 W N := (rF3.ww (by omega)).tr (rF3.of (rF.w (by omega)))
  have x0 : (q_w (q_w τ W (1240 + 4 * N) (.int (Int32.ofNat l.length))) l0 13 (.int (Int32.ofNat 0))).1 W (1238 + 4 * N) = .int (Int32.ofNat c) := by
    rw [q_w_ne (fun q _ => hW q), q_w_ne (fun _ q => by omega)]; exact w0
  have x1 : (q_w (q_w τ W (1240 + 4 * N) (.int (Int32.ofNat l.length))) l0 13 (.int (Int32.ofNat 0))).1 W (1239 + 4 * N) = .int (Int32.ofNat v) := by
    rw [q_w_ne (fun q _ => hW q), q_w_ne (fun _ q => by omega)]; exact w1
  have x2 : (q_w (q_w τ W (1240 + 4 * N) (.int (Int32.ofNat l.length))) l0 13 (.int (Int32.ofNat 0))).1 W (1240 + 4 * N) = .int (Int32.ofNat l.length) := by
    rw [q_w_ne (fun q _ => hW q), q_w_at]
  obtain ⟨f3, -, u, z⟩ := H2x.ps g15 qsi_67 (by decide)
  obtain ⟨e1, H3x⟩ := u h16
  obtain ⟨f4, R, g1, g2⟩ := g17 W b _ E _ _ H3x
  cases R with
  | inl q => exact absurd h18 g2.1
  | inr F => exact ⟨(f1.tr f2).tr (rF3.of (f3.tr f4)), _, GI.if0 ht hn e1 g1, rfl, g2.2⟩
theorem sp_228_c75_ (a0 : Nat) (a1 : Int32) (σ : zSg) (l0 : Nat) (l1 : Int32) (l2 : Int32) (τ : zSg) (hI : k_228 a0 a1 σ l0 l1 l2 τ) (h19 : 0 ≤ (l2 + (Int32.ofInt (3))).toInt ∧ (l2 + (Int32.ofInt (3))).toInt < (τ.2.1 (q_r (τ.1 l0 1)) : Int)) :
    p_228 (a0) (a1) σ (Int32.ofInt (1)) (q_w τ (q_r (τ.1 l0 1)) (l2 + (Int32.ofInt (3))).toNatClampNeg (.int (q_i (τ.1 l0 16)))) := by
  obtain ⟨rfl, rfl, rfl, G⟩ := hI
  intro W b E D l A N H
  obtain ⟨f1, c, v, m, P2, hg, H1, w0, w1, w2⟩ := G W b E D l A N H
  obtain ⟨-, -, -, rfl, hN⟩ := id H
  have hW := H1.2.2.2.1
  have q1 : q_r (τ.1 l0 1) = W := by rw [H1.2.2.1]; rfl
  have q16 : q_i (τ.1 l0 16) = Int32.ofNat (l ++ m).length := by rw [H1.2.2.2.2.2.2.2.2.1]; rfl
  have k3 : (Int32.ofInt 1238 + Int32.ofInt 4 * Int32.ofNat N + Int32.ofInt 3).toNatClampNeg = 1241 + 4 * N := (zK4a hN (m := 3) (by omega)).trans (by omega)
  simp only [q1, q16, k3]
  refine ⟨f1.tr (rF3.ww (by omega)), _, hg, by decide, ⟨P2, H1.le.1, rfl, H1.ww (by omega)⟩, ?_, ?_, ?_, q_w_at _ _ _ _⟩
  · rw [q_w_ne (fun _ q => by omega)]; exact w0
  · rw [q_w_ne (fun _ q => by omega)]; exact w1
  · rw [q_w_ne (fun _ q => by omega)]; exact w2
noncomputable def qP_228 : zPp := fun as σ o σ' => match as with
  | [a0, a1] => ∃ r, o = .inl (some (.int r)) ∧ p_228 (q_r a0) (q_i a1) σ r σ'
  | _ => True
set_option maxRecDepth 100000 in
theorem sp_228 {sx : zX} (S204 : zEe sx 204 2 qP_204) (S207 : zEe sx 207 3 qP_207) (S205 : zEe sx 205 2 qP_205) (S227 : zEe sx 227 1 qP_227) : zEe sx 228 2 qP_228 := by
  refine zfle zJ_228 (sps := [(204, 2, qP_204), (207, 3, qP_207), (205, 2, qP_205), (227, 1, qP_227)]) (fun q hq => by
    simp only [List.mem_cons, List.not_mem_nil, or_false] at hq
    rcases hq with rfl | rfl | rfl | rfl
    · exact S204
    · exact S207
    · exact S205
    · exact S227) (fun as σ hl => ?_)
  match as, hl with
  | [a0, a1], _ =>
  refine ⟨[(28, fun lo st τ => ∃ s0, ∃ s1, ∃ s2, st = [.int s0, .int s1, .ref s2] ∧ i_228 (q_r a0) (q_i a1) σ (q_r (lo 0)) (q_i (lo 1)) (q_i (lo 2)) s0 s1 s2 τ), (55, fun lo st τ => st = [] ∧ j_228 (q_r a0) (q_i a1) σ (q_r (lo 0)) (q_i (lo 1)) (q_i (lo 2)) τ), (75, fun lo st τ => st = [] ∧ k_228 (q_r a0) (q_i a1) σ (q_r (lo 0)) (q_i (lo 1)) (q_i (lo 2)) τ)], 400, ?_, ?_⟩
  · intro q hq
    simp only [List.mem_cons, List.not_mem_nil, or_false] at hq
    rcases hq with rfl | rfl | rfl
    · rintro lo st τ ⟨s0, s1, s2, rfl, hI⟩
      refine ⟨400, ?_⟩
      refine fun h7 => ?_
      refine fun h8 => ?_
      refine And.intro (fun h9 => ?_) (fun h9 => ?_)
      · refine fun o10 τ10 g10 => ?_
        obtain ⟨r10, rfl, g10⟩ := g10
        refine fun h11 => ?_
        refine fun h12 => ?_
        refine And.intro (fun h13 => ?_) (fun h13 => ?_)
        · exact ⟨rfl, sp_228_c28_tt (q_r a0) (q_i a1) σ (q_r (lo 0)) (q_i (lo 1)) (q_i (lo 2)) s0 s1 s2 τ τ10 r10 hI (q_inp h7) (q_inp h8) (cm3t h9) g10 (q_inp h11) (q_inp h12) (cm3t h13)⟩
        · exact ⟨_, rfl, sp_228_c28_tf (q_r a0) (q_i a1) σ (q_r (lo 0)) (q_i (lo 1)) (q_i (lo 2)) s0 s1 s2 τ τ10 r10 hI (q_inp h7) (q_inp h8) (cm3t h9) g10 (q_inp h11) (q_inp h12) (cm3f h13)⟩
      · exact ⟨_, rfl, sp_228_c28_f (q_r a0) (q_i a1) σ (q_r (lo 0)) (q_i (lo 1)) (q_i (lo 2)) s0 s1 s2 τ hI (q_inp h7) (q_inp h8) (cm3f h9)⟩
    · rintro lo st τ ⟨rfl, hI⟩
      refine ⟨400, ?_⟩
      refine fun h14 => ?_
      refine fun o15 τ15 g15 => ?_
      obtain ⟨r15, rfl, g15⟩ := g15
      refine And.intro (fun h16 => ?_) (fun h16 => ?_)
      · exact ⟨rfl, sp_228_c55_t (q_r a0) (q_i a1) σ (q_r (lo 0)) (q_i (lo 1)) (q_i (lo 2)) τ τ15 r15 hI (q_inp h14) g15 (cm0t h16)⟩
      · refine fun o17 τ17 g17 => ?_
        obtain ⟨r17, rfl, g17⟩ := g17
        refine And.intro (fun h18 => ?_) (fun h18 => ?_)
        · exact ⟨rfl, sp_228_c55_ft (q_r a0) (q_i a1) σ (q_r (lo 0)) (q_i (lo 1)) (q_i (lo 2)) τ τ15 r15 τ17 r17 hI (q_inp h14) g15 (cm0f h16) g17 (cm1t h18)⟩
        · exact ⟨_, rfl, sp_228_c55_ff (q_r a0) (q_i a1) σ (q_r (lo 0)) (q_i (lo 1)) (q_i (lo 2)) τ τ15 r15 τ17 r17 hI (q_inp h14) g15 (cm0f h16) g17 (cm1f h18)⟩
    · rintro lo st τ ⟨rfl, hI⟩
      refine ⟨400, ?_⟩
      refine fun h19 => ?_
      exact ⟨_, rfl, sp_228_c75_ (q_r a0) (q_i a1) σ (q_r (lo 0)) (q_i (lo 1)) (q_i (lo 2)) τ hI (q_inp h19)⟩
  · refine fun o1 τ1 g1 => ?_
    obtain ⟨r1, rfl, g1⟩ := g1
    refine And.intro (fun h2 => ?_) (fun h2 => ?_)
    · refine fun o3 τ3 g3 => ?_
      obtain ⟨r3, rfl, g3⟩ := g3
      refine And.intro (fun h4 => ?_) (fun h4 => ?_)
      · refine fun o5 τ5 g5 => ?_
        obtain ⟨r5, rfl, g5⟩ := g5
        refine And.intro (fun h6 => ?_) (fun h6 => ?_)
        · exact ⟨_, _, _, rfl, sp_228_ettt (q_r a0) (q_i a1) σ τ1 r1 τ3 r3 τ5 r5 g1 (cm0t h2) g3 (cm0t h4) g5 (cm0t h6)⟩
        · exact ⟨_, _, _, rfl, sp_228_ettf (q_r a0) (q_i a1) σ τ1 r1 τ3 r3 τ5 r5 g1 (cm0t h2) g3 (cm0t h4) g5 (cm0f h6)⟩
      · exact ⟨_, _, _, rfl, sp_228_etf (q_r a0) (q_i a1) σ τ1 r1 τ3 r3 g1 (cm0t h2) g3 (cm0f h4)⟩
    · exact ⟨_, _, _, rfl, sp_228_ef (q_r a0) (q_i a1) σ τ1 r1 g1 (cm0f h2)⟩
