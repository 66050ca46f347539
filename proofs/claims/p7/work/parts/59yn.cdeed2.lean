/-! the class's deed, image, back, undo, exact; printed with wip/gen/gen_db.py -/
noncomputable def xSk (σ : zSg) : Prop := σ.1 0 0 = .ref 1 ∧ σ.1 0 2 = .ref 8 ∧ σ.1 0 3 = .ref 21 ∧ σ.1 0 4 = .ref 34 ∧ σ.1 0 5 = .ref 47
theorem xSk.q {σ : zSg} (K : xSk σ) : q_r (σ.1 0 0) = 1 ∧ q_r (σ.1 0 2) = 8 ∧ q_r (σ.1 0 3) = 21 ∧ q_r (σ.1 0 4) = 34 ∧ q_r (σ.1 0 5) = 47 := by
  obtain ⟨h1, h2, h3, h4, h5⟩ := K
  rw [h1, h2, h3, h4, h5]
  exact ⟨rfl, rfl, rfl, rfl, rfl⟩
theorem xSk.of {σ τ : zSg} (K : xSk σ) (h : ∀ k, k ≤ 5 → τ.1 0 k = σ.1 0 k) : xSk τ := by
  obtain ⟨h1, h2, h3, h4, h5⟩ := K
  exact ⟨by rw [h 0 (by omega)]; exact h1, by rw [h 2 (by omega)]; exact h2, by rw [h 3 (by omega)]; exact h3, by rw [h 4 (by omega)]; exact h4, by rw [h 5 (by omega)]; exact h5⟩
theorem cS0.el {σ τ : zSg} {E : Nat} (K : cS0 σ 1 E) (h0 : σ.1 1 0 = .ref 2) (h1 : ∀ k, τ.1 1 k = σ.1 1 k) (h2 : ∀ k, τ.1 2 k = σ.1 2 k) : cS0 τ 1 E ∧ cb τ 1 = cb σ 1 := by
  have gb : cu τ 1 = cu σ 1 := by
    funext i
    unfold cu
    rw [h1 0, h0]
    show (q_i (τ.1 2 i)).toInt = (q_i (σ.1 2 i)).toInt
    rw [h2]
  refine ⟨?_, ?_⟩
  · unfold cS0 at K ⊢
    rw [h1 0, h1 1, gb]
    exact K
  · funext i
    unfold cb
    rw [gb]
/-- ahead of a deed -/
noncomputable def xD (σ : zSg) (b : Nat → Int) (E nf nt tx : Nat) (H D0 : Nat → Int32) : Prop := xSk σ ∧ cS0 σ 1 E ∧ cb σ 1 = b ∧ σ.1 1 0 = .ref 2 ∧ hH σ 8 H ∧ dC nf nt H ∧ H 2 = Int32.ofNat tx ∧ tx ≤ 12 ∧ hH σ 21 D0
noncomputable def xDF (σ σ' : zSg) : Prop := σ'.2 = σ.2 ∧ ∀ c k, ¬ (c = 0 ∧ k = 7) → ¬ (c = 1 ∧ (k = 1 ∨ k = 2 ∨ k = 3)) → ¬ (8 ≤ c ∧ c ≤ 33) → ¬ (c = 47 ∧ k = 2) → σ'.1 c k = σ.1 c k
abbrev xDo (σ σ' : zSg) (nf nt tx : Nat) (H : Nat → Int32) (e : Int32 ⊕ Nat) (R : List dOp ⊕ Nat) : Prop := match R with
  | .inl os => σ'.1 0 7 = .int (Int32.ofInt (-1)) ∧ (tx = 12 → e = .inr 1 ∧ hH σ' 8 H ∧ σ'.1 47 2 = σ.1 47 2) ∧ (tx < 12 → e = .inl (Int32.ofNat (tx + 1)) ∧ hH σ' 8 (aU (dApps os nf nt H) 2 (Int32.ofNat (tx + 1))) ∧ σ'.1 47 2 = .int (Int32.ofInt 0))
  | .inr F => e = .inr 0 ∧ σ'.1 0 7 = .int (Int32.ofNat F) ∧ hH σ' 8 H ∧ σ'.1 47 2 = σ.1 47 2
noncomputable def p_120 (a : Nat) (σ : zSg) (e : Int32 ⊕ Nat) (σ' : zSg) : Prop := a = 0 → ∀ b E nf nt tx H D0, xD σ b E nf nt tx H D0 → xDF σ σ' ∧ (∃ D', hH σ' 21 D') ∧ σ'.1 1 1 = .int (Int32.ofInt 0) ∧ σ'.1 8 5 = σ.1 8 5 ∧ xDo σ σ' nf nt tx H e (dDeed b E nf nt)
theorem sp_120_ett (a0 : Nat) (σ : zSg) (τ1 : zSg) (τ2 : zSg) (r2 : Int32) (τ5 : zSg) (τ6 : zSg) (g1 : p_23 (q_r (σ.1 a0 3)) (q_r (σ.1 a0 2)) σ τ1) (g2 : p_0 (q_r (τ1.1 a0 3)) (q_r (τ1.1 a0 0)) τ1 r2 τ2) (h3 : (q_i ((q_w (q_w τ2 a0 7 (.int r2)) (q_r ((q_w τ2 a0 7 (.int r2)).1 a0 0)) 1 (.int (Int32.ofInt (0)))).1 a0 7)).toInt = (-1 : Int)) (h4 : (q_i ((q_w (q_w τ2 a0 7 (.int r2)) (q_r ((q_w τ2 a0 7 (.int r2)).1 a0 0)) 1 (.int (Int32.ofInt (0)))).1 (q_r ((q_w (q_w τ2 a0 7 (.int r2)) (q_r ((q_w τ2 a0 7 (.int r2)).1 a0 0)) 1 (.int (Int32.ofInt (0)))).1 a0 2)) 6)).toInt < (12 : Int)) (g5 : p_23 (q_r ((q_w (q_w τ2 a0 7 (.int r2)) (q_r ((q_w τ2 a0 7 (.int r2)).1 a0 0)) 1 (.int (Int32.ofInt (0)))).1 a0 2)) (q_r ((q_w (q_w τ2 a0 7 (.int r2)) (q_r ((q_w τ2 a0 7 (.int r2)).1 a0 0)) 1 (.int (Int32.ofInt (0)))).1 a0 3)) (q_w (q_w τ2 a0 7 (.int r2)) (q_r ((q_w τ2 a0 7 (.int r2)).1 a0 0)) 1 (.int (Int32.ofInt (0)))) τ5) (g6 : p_64 (q_r ((q_w τ5 (q_r (τ5.1 a0 2)) 6 (.int ((q_i (τ5.1 (q_r (τ5.1 a0 2)) 6)) + (Int32.ofInt (1))))).1 a0 5)) (q_w τ5 (q_r (τ5.1 a0 2)) 6 (.int ((q_i (τ5.1 (q_r (τ5.1 a0 2)) 6)) + (Int32.ofInt (1))))) τ6) :
    p_120 (a0) σ (.inl (q_i (τ6.1 (q_r (τ6.1 a0 2)) 6))) τ6 := by
  rintro rfl b E nf nt tx H D0 ⟨K, s0, sb, s2, K8, hc, h2, ht, KD⟩
  have q0 := K.q
  rw [q0.2.1, q0.2.2.1] at g1
  have I1 := g1 (by unfold dsj; omega) KD.ks K8.ks K8.ii
  obtain ⟨G1, G5⟩ := I1.hH K8 KD
  have e1 : ∀ c k, ¬ (21 ≤ c ∧ c ≤ 33) → τ1.1 c k = σ.1 c k := fun c k q => I1.fr (by omega)
  have K1 : xSk τ1 := K.of (fun k _ => e1 0 k (by omega))
  have q1 := K1.q
  rw [q1.1, q1.2.2.1] at g2
  obtain ⟨t0, tb⟩ := s0.el s2 (fun k => e1 1 k (by omega)) (fun k => e1 2 k (by omega))
  obtain ⟨f2, R⟩ := g2 rfl rfl b E nf nt H ⟨t0, tb.trans sb, by rw [e1 1 0 (by omega)]; exact s2, G1, hc⟩
  have e2 : ∀ c k, ¬ (c = 1 ∧ (k = 2 ∨ k = 3)) → ¬ (21 ≤ c ∧ c ≤ 33 ∧ ¬ (c = 21 ∧ k = 5)) → τ2.1 c k = τ1.1 c k := f2.2
  have K2 : xSk τ2 := K1.of (fun k _ => e2 0 k (by omega) (by omega))
  have q2 : q_r ((q_w τ2 0 7 (.int r2)).1 0 0) = 1 := by rw [q_w_ne (fun _ q => by omega)]; exact K2.q.1
  have L8 : hH τ2 8 H := (K8.fr I1.1 (fun c j h1 h2 => e1 c j (by omega))).fr f2.1 (fun c j h1 h2 => e2 c j (by omega) (by omega))
  have M8 : hH (q_w (q_w τ2 0 7 (.int r2)) 1 1 (.int (Int32.ofInt 0))) 8 H := (L8.el (by omega)).el (by omega)
  have K3 : xSk (q_w (q_w τ2 0 7 (.int r2)) 1 1 (.int (Int32.ofInt 0))) := K2.of (fun k _ => by rw [q_w_ne (fun q _ => by omega), q_w_ne (fun _ q => by omega)])
  have q3 := K3.q
  have v7 : (q_w (q_w τ2 0 7 (.int r2)) 1 1 (.int (Int32.ofInt 0))).1 0 7 = .int r2 := by rw [q_w_ne (fun q _ => by omega), q_w_at]
  have v5 : (q_w (q_w τ2 0 7 (.int r2)) 1 1 (.int (Int32.ofInt 0))).1 8 5 = σ.1 8 5 := by rw [q_w_ne (fun q _ => by omega), q_w_ne (fun q _ => by omega), e2 8 5 (by omega) (by omega), e1 8 5 (by omega)]
  have v47 : (q_w (q_w τ2 0 7 (.int r2)) 1 1 (.int (Int32.ofInt 0))).1 47 2 = σ.1 47 2 := by rw [q_w_ne (fun q _ => by omega), q_w_ne (fun q _ => by omega), e2 47 2 (by omega) (by omega), e1 47 2 (by omega)]
  have ff : xDF σ (q_w (q_w τ2 0 7 (.int r2)) 1 1 (.int (Int32.ofInt 0))) := ⟨f2.1.trans I1.1, fun c k p1 p2 p3 p4 => by
    rw [q_w_ne (fun e8 e9 => p2 ⟨e8, by omega⟩), q_w_ne (fun e8 e9 => p1 ⟨e8, e9⟩), e2 c k (fun q => p2 ⟨q.1, by omega⟩) (by omega), e1 c k (by omega)]⟩
  simp only [q2, q3.2.1, q3.2.2.1, q3.2.2.2.2, v7, q_ii] at *
  have v7 : (q_w (q_w τ2 0 7 (.int r2)) 1 1 (.int (Int32.ofInt 0))).1 0 7 = .int r2 := by rw [q_w_ne (fun q _ => by omega), q_w_at]
  cases hD : dDeed b E nf nt with
  | inr F =>
    rw [hD] at R
    obtain ⟨eX, hF, -⟩ := R
    rw [eX, o32 (by omega)] at h3
    omega
  | inl os =>
    rw [hD] at R
    obtain ⟨eX, hD', -⟩ := R
    have p2 := (M8.p hp_2).trans h2
    rw [p2, o32 (by omega)] at h4
    have eX' : r2 = Int32.ofInt (-1) := Int32.toInt_inj.mp eX
    have M21 := (hD'.el (c := 0) (k := 7) (v := .int r2) (by omega)).el (c := 1) (k := 1) (v := .int (Int32.ofInt 0)) (by omega)
    have I3 := g5 (by unfold dsj; omega) M8.ks M21.ks M21.ii
    obtain ⟨g1, g2⟩ := I3.hH M21 M8
    have e3 : ∀ c k, ¬ (8 ≤ c ∧ c ≤ 20) → τ5.1 c k = (q_w (q_w τ2 0 7 (.int r2)) 1 1 (.int (Int32.ofInt 0))).1 c k := fun c k q => I3.fr (by omega)
    have K4 : xSk τ5 := K3.of (fun k _ => e3 0 k (by omega))
    have q4 := K4.q
    have i6 : q_i (τ5.1 8 6) = Int32.ofNat tx := by rw [g1.p hp_2, dApps_ne hD hc.2.1 hc.2.2.2.1 (by omega)]; exact h2
    have i7 : Int32.ofNat tx + Int32.ofInt 1 = Int32.ofNat (tx + 1) := o32i (by omega)
    have N8 := g1.ww (v := Int32.ofNat (tx + 1)) hp_2
    have K5 : xSk (q_w τ5 8 6 (.int (Int32.ofNat (tx + 1)))) := K4.of (fun k _ => by rw [q_w_ne (fun q _ => by omega)])
    simp only [q4.2.1, i6, i7, K5.q.2.2.2.2] at g6
    obtain rfl := g6
    have O8 := N8.el (c := 47) (k := 2) (v := .int (Int32.ofInt 0)) (by omega)
    have K6 : xSk (q_w (q_w τ5 8 6 (.int (Int32.ofNat (tx + 1)))) 47 2 (.int (Int32.ofInt 0))) := K5.of (fun k _ => by rw [q_w_ne (fun q _ => by omega)])
    have i8 := (O8.p hp_2).trans aU_at
    simp only [K6.q.2.1, i8]
    refine ⟨⟨I3.1.trans ff.1, fun c k p1 p2 p3 p4 => ?_⟩, ⟨_, ((M21.ho I3 (by unfold dsj; omega)).el (by omega)).el (by omega)⟩, ?_, ?_, ?_, fun h => absurd h (by omega), fun _ => ⟨rfl, O8, q_w_at _ _ _ _⟩⟩
    · rw [q_w_ne (fun e8 e9 => p4 ⟨e8, e9⟩), q_w_ne (fun e8 e9 => by omega), e3 c k (by omega)]; exact ff.2 c k p1 p2 p3 p4
    · rw [q_w_ne (fun q _ => by omega), q_w_ne (fun q _ => by omega), e3 1 1 (by omega), q_w_at]
    · rw [q_w_ne (fun q _ => by omega), q_w_ne (fun _ q => by omega), g2, q_w_ne (fun q _ => by omega), q_w_ne (fun q _ => by omega), e2 21 5 (by omega) (by omega)]; exact G5
    · rw [q_w_ne (fun q _ => by omega), q_w_ne (fun q _ => by omega), e3 0 7 (by omega), v7, eX']
theorem sp_120_etf (a0 : Nat) (σ : zSg) (τ1 : zSg) (τ2 : zSg) (r2 : Int32) (g1 : p_23 (q_r (σ.1 a0 3)) (q_r (σ.1 a0 2)) σ τ1) (g2 : p_0 (q_r (τ1.1 a0 3)) (q_r (τ1.1 a0 0)) τ1 r2 τ2) (h3 : (q_i ((q_w (q_w τ2 a0 7 (.int r2)) (q_r ((q_w τ2 a0 7 (.int r2)).1 a0 0)) 1 (.int (Int32.ofInt (0)))).1 a0 7)).toInt = (-1 : Int)) (h4 : (q_i ((q_w (q_w τ2 a0 7 (.int r2)) (q_r ((q_w τ2 a0 7 (.int r2)).1 a0 0)) 1 (.int (Int32.ofInt (0)))).1 (q_r ((q_w (q_w τ2 a0 7 (.int r2)) (q_r ((q_w τ2 a0 7 (.int r2)).1 a0 0)) 1 (.int (Int32.ofInt (0)))).1 a0 2)) 6)).toInt ≥ (12 : Int)) :
    p_120 (a0) σ (.inr 1) (q_w (q_w τ2 a0 7 (.int r2)) (q_r ((q_w τ2 a0 7 (.int r2)).1 a0 0)) 1 (.int (Int32.ofInt (0)))) := by
  rintro rfl b E nf nt tx H D0 ⟨K, s0, sb, s2, K8, hc, h2, ht, KD⟩
  have q0 := K.q
  rw [q0.2.1, q0.2.2.1] at g1
  have I1 := g1 (by unfold dsj; omega) KD.ks K8.ks K8.ii
  obtain ⟨G1, G5⟩ := I1.hH K8 KD
  have e1 : ∀ c k, ¬ (21 ≤ c ∧ c ≤ 33) → τ1.1 c k = σ.1 c k := fun c k q => I1.fr (by omega)
  have K1 : xSk τ1 := K.of (fun k _ => e1 0 k (by omega))
  have q1 := K1.q
  rw [q1.1, q1.2.2.1] at g2
  obtain ⟨t0, tb⟩ := s0.el s2 (fun k => e1 1 k (by omega)) (fun k => e1 2 k (by omega))
  obtain ⟨f2, R⟩ := g2 rfl rfl b E nf nt H ⟨t0, tb.trans sb, by rw [e1 1 0 (by omega)]; exact s2, G1, hc⟩
  have e2 : ∀ c k, ¬ (c = 1 ∧ (k = 2 ∨ k = 3)) → ¬ (21 ≤ c ∧ c ≤ 33 ∧ ¬ (c = 21 ∧ k = 5)) → τ2.1 c k = τ1.1 c k := f2.2
  have K2 : xSk τ2 := K1.of (fun k _ => e2 0 k (by omega) (by omega))
  have q2 : q_r ((q_w τ2 0 7 (.int r2)).1 0 0) = 1 := by rw [q_w_ne (fun _ q => by omega)]; exact K2.q.1
  have L8 : hH τ2 8 H := (K8.fr I1.1 (fun c j h1 h2 => e1 c j (by omega))).fr f2.1 (fun c j h1 h2 => e2 c j (by omega) (by omega))
  have M8 : hH (q_w (q_w τ2 0 7 (.int r2)) 1 1 (.int (Int32.ofInt 0))) 8 H := (L8.el (by omega)).el (by omega)
  have K3 : xSk (q_w (q_w τ2 0 7 (.int r2)) 1 1 (.int (Int32.ofInt 0))) := K2.of (fun k _ => by rw [q_w_ne (fun q _ => by omega), q_w_ne (fun _ q => by omega)])
  have q3 := K3.q
  have v7 : (q_w (q_w τ2 0 7 (.int r2)) 1 1 (.int (Int32.ofInt 0))).1 0 7 = .int r2 := by rw [q_w_ne (fun q _ => by omega), q_w_at]
  have v5 : (q_w (q_w τ2 0 7 (.int r2)) 1 1 (.int (Int32.ofInt 0))).1 8 5 = σ.1 8 5 := by rw [q_w_ne (fun q _ => by omega), q_w_ne (fun q _ => by omega), e2 8 5 (by omega) (by omega), e1 8 5 (by omega)]
  have v47 : (q_w (q_w τ2 0 7 (.int r2)) 1 1 (.int (Int32.ofInt 0))).1 47 2 = σ.1 47 2 := by rw [q_w_ne (fun q _ => by omega), q_w_ne (fun q _ => by omega), e2 47 2 (by omega) (by omega), e1 47 2 (by omega)]
  have ff : xDF σ (q_w (q_w τ2 0 7 (.int r2)) 1 1 (.int (Int32.ofInt 0))) := ⟨f2.1.trans I1.1, fun c k p1 p2 p3 p4 => by
    rw [q_w_ne (fun e8 e9 => p2 ⟨e8, by omega⟩), q_w_ne (fun e8 e9 => p1 ⟨e8, e9⟩), e2 c k (fun q => p2 ⟨q.1, by omega⟩) (by omega), e1 c k (by omega)]⟩
  simp only [q2, q3.2.1, q3.2.2.1, q3.2.2.2.2, v7, q_ii] at *
  have v7 : (q_w (q_w τ2 0 7 (.int r2)) 1 1 (.int (Int32.ofInt 0))).1 0 7 = .int r2 := by rw [q_w_ne (fun q _ => by omega), q_w_at]
  cases hD : dDeed b E nf nt with
  | inr F =>
    rw [hD] at R
    obtain ⟨eX, hF, -⟩ := R
    rw [eX, o32 (by omega)] at h3
    omega
  | inl os =>
    rw [hD] at R
    obtain ⟨eX, hD', -⟩ := R
    have p2 := (M8.p hp_2).trans h2
    rw [p2, o32 (by omega)] at h4
    have eX' : r2 = Int32.ofInt (-1) := Int32.toInt_inj.mp eX
    exact ⟨ff, ⟨_, (hD'.el (by omega)).el (by omega)⟩, q_w_at _ _ _ _, v5, by rw [v7, eX'], fun _ => ⟨rfl, M8, v47⟩, fun h => absurd h4 (by omega)⟩
theorem sp_120_ef (a0 : Nat) (σ : zSg) (τ1 : zSg) (τ2 : zSg) (r2 : Int32) (g1 : p_23 (q_r (σ.1 a0 3)) (q_r (σ.1 a0 2)) σ τ1) (g2 : p_0 (q_r (τ1.1 a0 3)) (q_r (τ1.1 a0 0)) τ1 r2 τ2) (h3 : (q_i ((q_w (q_w τ2 a0 7 (.int r2)) (q_r ((q_w τ2 a0 7 (.int r2)).1 a0 0)) 1 (.int (Int32.ofInt (0)))).1 a0 7)).toInt ≠ (-1 : Int)) :
    p_120 (a0) σ (.inr 0) (q_w (q_w τ2 a0 7 (.int r2)) (q_r ((q_w τ2 a0 7 (.int r2)).1 a0 0)) 1 (.int (Int32.ofInt (0)))) := by
  rintro rfl b E nf nt tx H D0 ⟨K, s0, sb, s2, K8, hc, h2, ht, KD⟩
  have q0 := K.q
  rw [q0.2.1, q0.2.2.1] at g1
  have I1 := g1 (by unfold dsj; omega) KD.ks K8.ks K8.ii
  obtain ⟨G1, G5⟩ := I1.hH K8 KD
  have e1 : ∀ c k, ¬ (21 ≤ c ∧ c ≤ 33) → τ1.1 c k = σ.1 c k := fun c k q => I1.fr (by omega)
  have K1 : xSk τ1 := K.of (fun k _ => e1 0 k (by omega))
  have q1 := K1.q
  rw [q1.1, q1.2.2.1] at g2
  obtain ⟨t0, tb⟩ := s0.el s2 (fun k => e1 1 k (by omega)) (fun k => e1 2 k (by omega))
  obtain ⟨f2, R⟩ := g2 rfl rfl b E nf nt H ⟨t0, tb.trans sb, by rw [e1 1 0 (by omega)]; exact s2, G1, hc⟩
  have e2 : ∀ c k, ¬ (c = 1 ∧ (k = 2 ∨ k = 3)) → ¬ (21 ≤ c ∧ c ≤ 33 ∧ ¬ (c = 21 ∧ k = 5)) → τ2.1 c k = τ1.1 c k := f2.2
  have K2 : xSk τ2 := K1.of (fun k _ => e2 0 k (by omega) (by omega))
  have q2 : q_r ((q_w τ2 0 7 (.int r2)).1 0 0) = 1 := by rw [q_w_ne (fun _ q => by omega)]; exact K2.q.1
  have L8 : hH τ2 8 H := (K8.fr I1.1 (fun c j h1 h2 => e1 c j (by omega))).fr f2.1 (fun c j h1 h2 => e2 c j (by omega) (by omega))
  have M8 : hH (q_w (q_w τ2 0 7 (.int r2)) 1 1 (.int (Int32.ofInt 0))) 8 H := (L8.el (by omega)).el (by omega)
  have K3 : xSk (q_w (q_w τ2 0 7 (.int r2)) 1 1 (.int (Int32.ofInt 0))) := K2.of (fun k _ => by rw [q_w_ne (fun q _ => by omega), q_w_ne (fun _ q => by omega)])
  have q3 := K3.q
  have v7 : (q_w (q_w τ2 0 7 (.int r2)) 1 1 (.int (Int32.ofInt 0))).1 0 7 = .int r2 := by rw [q_w_ne (fun q _ => by omega), q_w_at]
  have v5 : (q_w (q_w τ2 0 7 (.int r2)) 1 1 (.int (Int32.ofInt 0))).1 8 5 = σ.1 8 5 := by rw [q_w_ne (fun q _ => by omega), q_w_ne (fun q _ => by omega), e2 8 5 (by omega) (by omega), e1 8 5 (by omega)]
  have v47 : (q_w (q_w τ2 0 7 (.int r2)) 1 1 (.int (Int32.ofInt 0))).1 47 2 = σ.1 47 2 := by rw [q_w_ne (fun q _ => by omega), q_w_ne (fun q _ => by omega), e2 47 2 (by omega) (by omega), e1 47 2 (by omega)]
  have ff : xDF σ (q_w (q_w τ2 0 7 (.int r2)) 1 1 (.int (Int32.ofInt 0))) := ⟨f2.1.trans I1.1, fun c k p1 p2 p3 p4 => by
    rw [q_w_ne (fun e8 e9 => p2 ⟨e8, by omega⟩), q_w_ne (fun e8 e9 => p1 ⟨e8, e9⟩), e2 c k (fun q => p2 ⟨q.1, by omega⟩) (by omega), e1 c k (by omega)]⟩
  simp only [q2, q3.2.1, q3.2.2.1, q3.2.2.2.2, v7, q_ii] at *
  have v7 : (q_w (q_w τ2 0 7 (.int r2)) 1 1 (.int (Int32.ofInt 0))).1 0 7 = .int r2 := by rw [q_w_ne (fun q _ => by omega), q_w_at]
  cases hD : dDeed b E nf nt with
  | inl os => rw [hD] at R; exact absurd R.1 h3
  | inr F =>
    rw [hD] at R
    obtain ⟨eX, hF, D', hD'⟩ := R
    exact ⟨ff, ⟨D', (hD'.el (by omega)).el (by omega)⟩, q_w_at _ _ _ _, v5, rfl, by rw [v7, eX], M8, v47⟩
noncomputable def qP_120 : zPp := fun as σ o σ' => match as with
  | [a0] => (∃ r, o = .inl (some (.int r)) ∧ p_120 (q_r a0) σ (.inl r) σ') ∨ (o = .inr 0 ∧ p_120 (q_r a0) σ (.inr 0) σ') ∨ (o = .inr 1 ∧ p_120 (q_r a0) σ (.inr 1) σ')
  | _ => True
set_option maxRecDepth 100000 in
theorem sp_120 {sx : zX} (S23 : zEe sx 23 2 qP_23) (S0 : zEe sx 0 2 qP_0) (S64 : zEe sx 64 1 qP_64) : zEe sx 120 1 qP_120 := by
  refine zfle zJ_120 (sps := [(23, 2, qP_23), (0, 2, qP_0), (64, 1, qP_64)]) (fun q hq => by
    simp only [List.mem_cons, List.not_mem_nil, or_false] at hq
    rcases hq with rfl | rfl | rfl
    · exact S23
    · exact S0
    · exact S64) (fun as σ hl => ?_)
  match as, hl with
  | [a0], _ =>
  refine ⟨[], 400, ?_, ?_⟩
  · exact fun q hq => absurd hq List.not_mem_nil
  · refine fun o1 τ1 g1 => ?_
    obtain ⟨rfl, g1⟩ := g1
    refine fun o2 τ2 g2 => ?_
    obtain ⟨r2, rfl, g2⟩ := g2
    refine And.intro (fun h3 => ?_) (fun h3 => ?_)
    · refine And.intro (fun h4 => ?_) (fun h4 => ?_)
      · refine fun o5 τ5 g5 => ?_
        obtain ⟨rfl, g5⟩ := g5
        refine fun o6 τ6 g6 => ?_
        obtain ⟨rfl, g6⟩ := g6
        exact Or.inl ⟨_, rfl, sp_120_ett (q_r a0) σ τ1 τ2 r2 τ5 τ6 g1 g2 (cm0t h3) (cm2t h4) g5 g6⟩
      · exact Or.inr (Or.inr (⟨rfl, sp_120_etf (q_r a0) σ τ1 τ2 r2 g1 g2 (cm0t h3) (cm2f h4)⟩))
    · exact Or.inr (Or.inl (⟨rfl, sp_120_ef (q_r a0) σ τ1 τ2 r2 g1 g2 (cm0f h3)⟩))
theorem zJ_163 : zJ3 163 z_m163 z_c163 z_h163 := ⟨rfl, rfl, rfl⟩
noncomputable def p_163 (a : Nat) (σ σ' : zSg) : Prop := a = 0 → xSk σ → ∀ A B, hH σ 8 A → hH σ 34 B → (σ'.2 = σ.2 ∧ ∀ c k, ¬ (c = 0 ∧ k = 6) → ¬ (34 ≤ c ∧ c ≤ 46) → σ'.1 c k = σ.1 c k) ∧ hH σ' 34 A ∧ σ'.1 34 5 = σ.1 8 5 ∧ σ'.1 0 6 = .int (Int32.ofInt 1)
theorem sp_163_e (a0 : Nat) (σ : zSg) (τ1 : zSg) (g1 : p_23 (q_r (σ.1 a0 4)) (q_r (σ.1 a0 2)) σ τ1) :
    p_163 (a0) σ (q_w τ1 a0 6 (.int (Int32.ofInt (1)))) := by
  rintro rfl K A B K8 K34
  have q0 := K.q
  rw [q0.2.1, q0.2.2.2.1] at g1
  have I := g1 (by unfold dsj; omega) K34.ks K8.ks K8.ii
  obtain ⟨g1, g2⟩ := I.hH K8 K34
  refine ⟨⟨I.1, fun c k p1 p2 => ?_⟩, g1.el (by omega), ?_, q_w_at _ _ _ _⟩
  · rw [q_w_ne (fun e8 e9 => p1 ⟨e8, e9⟩)]; exact I.fr (by omega)
  · rw [q_w_ne (fun q _ => by omega)]; exact g2
noncomputable def qP_163 : zPp := fun as σ o σ' => match as with
  | [a0] => o = .inl none ∧ p_163 (q_r a0) σ σ'
  | _ => True
set_option maxRecDepth 100000 in
theorem sp_163 {sx : zX} (S23 : zEe sx 23 2 qP_23) : zEe sx 163 1 qP_163 := by
  refine zfle zJ_163 (sps := [(23, 2, qP_23)]) (fun q hq => by
    simp only [List.mem_cons, List.not_mem_nil, or_false] at hq
    rcases hq with rfl
    · exact S23) (fun as σ hl => ?_)
  match as, hl with
  | [a0], _ =>
  refine ⟨[], 400, ?_, ?_⟩
  · exact fun q hq => absurd hq List.not_mem_nil
  · refine fun o1 τ1 g1 => ?_
    obtain ⟨rfl, g1⟩ := g1
    exact ⟨rfl, sp_163_e (q_r a0) σ τ1 g1⟩
theorem zJ_164 : zJ3 164 z_m164 z_c164 z_h164 := ⟨rfl, rfl, rfl⟩
noncomputable def p_164 (a : Nat) (σ : zSg) (r : Int32) (σ' : zSg) : Prop := a = 0 → xSk σ → ∀ A B, hH σ 8 A → hH σ 34 B → ((q_i (σ.1 0 6)).toInt = 0 → r = Int32.ofInt 0 ∧ σ' = σ) ∧ ((q_i (σ.1 0 6)).toInt ≠ 0 → r = Int32.ofInt 1 ∧ (σ'.2 = σ.2 ∧ ∀ c k, ¬ (c = 47 ∧ k = 2) → ¬ (8 ≤ c ∧ c ≤ 20) → σ'.1 c k = σ.1 c k) ∧ hH σ' 8 B ∧ σ'.1 8 5 = σ.1 34 5 ∧ σ'.1 47 2 = .int (Int32.ofInt 0))
theorem sp_164_et (a0 : Nat) (σ : zSg) (τ2 : zSg) (τ3 : zSg) (h1 : (q_i (σ.1 a0 6)).toInt ≠ (0 : Int)) (g2 : p_23 (q_r (σ.1 a0 2)) (q_r (σ.1 a0 4)) σ τ2) (g3 : p_64 (q_r (τ2.1 a0 5)) τ2 τ3) :
    p_164 (a0) σ (Int32.ofInt (1)) τ3 := by
  rintro rfl K A B K8 K34
  refine ⟨fun h => absurd h h1, fun _ => ?_⟩
  have q0 := K.q
  rw [q0.2.1, q0.2.2.2.1] at g2
  have I := g2 (by unfold dsj; omega) K8.ks K34.ks K34.ii
  obtain ⟨g1, g2⟩ := I.hH K34 K8
  have K1 : xSk τ2 := K.of (fun k _ => I.fr (by omega))
  rw [K1.q.2.2.2.2] at g3
  obtain rfl := g3
  refine ⟨rfl, ⟨I.1, fun c k p1 p2 => ?_⟩, g1.el (by omega), ?_, q_w_at _ _ _ _⟩
  · rw [q_w_ne (fun e8 e9 => p1 ⟨e8, e9⟩)]; exact I.fr (by omega)
  · rw [q_w_ne (fun q _ => by omega)]; exact g2
theorem sp_164_ef (a0 : Nat) (σ : zSg) (h1 : (q_i (σ.1 a0 6)).toInt = (0 : Int)) :
    p_164 (a0) σ (Int32.ofInt (0)) σ := by
  rintro rfl K A B K8 K34
  exact ⟨fun _ => ⟨rfl, rfl⟩, fun h => absurd h1 h⟩
noncomputable def qP_164 : zPp := fun as σ o σ' => match as with
  | [a0] => ∃ r, o = .inl (some (.int r)) ∧ p_164 (q_r a0) σ r σ'
  | _ => True
set_option maxRecDepth 100000 in
theorem sp_164 {sx : zX} (S23 : zEe sx 23 2 qP_23) (S64 : zEe sx 64 1 qP_64) : zEe sx 164 1 qP_164 := by
  refine zfle zJ_164 (sps := [(23, 2, qP_23), (64, 1, qP_64)]) (fun q hq => by
    simp only [List.mem_cons, List.not_mem_nil, or_false] at hq
    rcases hq with rfl | rfl
    · exact S23
    · exact S64) (fun as σ hl => ?_)
  match as, hl with
  | [a0], _ =>
  refine ⟨[], 400, ?_, ?_⟩
  · exact fun q hq => absurd hq List.not_mem_nil
  · refine And.intro (fun h1 => ?_) (fun h1 => ?_)
    · refine fun o2 τ2 g2 => ?_
      obtain ⟨rfl, g2⟩ := g2
      refine fun o3 τ3 g3 => ?_
      obtain ⟨rfl, g3⟩ := g3
      exact ⟨_, rfl, sp_164_et (q_r a0) σ τ2 τ3 (cm1t h1) g2 g3⟩
    · exact ⟨_, rfl, sp_164_ef (q_r a0) σ (cm1f h1)⟩
theorem zJ_162 : zJ3 162 z_m162 z_c162 z_h162 := ⟨rfl, rfl, rfl⟩
noncomputable def p_162 (a : Nat) (σ : zSg) (r : Int32) (σ' : zSg) : Prop := a = 0 → xSk σ → p_63 47 8 σ r σ'
theorem sp_162_e (a0 : Nat) (σ : zSg) (τ1 : zSg) (r1 : Int32) (g1 : p_63 (q_r (σ.1 a0 5)) (q_r (σ.1 a0 2)) σ r1 τ1) :
    p_162 (a0) σ r1 τ1 := by
  rintro rfl K
  have q0 := K.q
  rw [q0.2.1, q0.2.2.2.2] at g1
  exact g1
noncomputable def qP_162 : zPp := fun as σ o σ' => match as with
  | [a0] => ∃ r, o = .inl (some (.int r)) ∧ p_162 (q_r a0) σ r σ'
  | _ => True
set_option maxRecDepth 100000 in
theorem sp_162 {sx : zX} (S63 : zEe sx 63 2 qP_63) : zEe sx 162 1 qP_162 := by
  refine zfle zJ_162 (sps := [(63, 2, qP_63)]) (fun q hq => by
    simp only [List.mem_cons, List.not_mem_nil, or_false] at hq
    rcases hq with rfl
    · exact S63) (fun as σ hl => ?_)
  match as, hl with
  | [a0], _ =>
  refine ⟨[], 400, ?_, ?_⟩
  · exact fun q hq => absurd hq List.not_mem_nil
  · refine fun o1 τ1 g1 => ?_
    obtain ⟨r1, rfl, g1⟩ := g1
    exact ⟨_, rfl, sp_162_e (q_r a0) σ τ1 r1 g1⟩
theorem zJ_161 : zJ3 161 z_m161 z_c161 z_h161 := ⟨rfl, rfl, rfl⟩
noncomputable def p_161 (a : Nat) (n : Int32) (σ : zSg) (r : Int32) (σ' : zSg) : Prop := a = 0 → xSk σ → r = q_i (σ.1 8 17) ∧ σ' = q_w σ 8 17 (.int n)
theorem sp_161_e (a0 : Nat) (a1 : Int32) (σ : zSg)  :
    p_161 (a0) (a1) σ (q_i (σ.1 (q_r (σ.1 a0 2)) 17)) (q_w σ (q_r (σ.1 a0 2)) 17 (.int a1)) := by
  rintro rfl K
  have q0 := K.q
  rw [q0.2.1]
  exact ⟨rfl, rfl⟩
noncomputable def qP_161 : zPp := fun as σ o σ' => match as with
  | [a0, a1] => ∃ r, o = .inl (some (.int r)) ∧ p_161 (q_r a0) (q_i a1) σ r σ'
  | _ => True
set_option maxRecDepth 100000 in
theorem sp_161 {sx : zX}  : zEe sx 161 2 qP_161 := by
  refine zfle zJ_161 (sps := []) (fun q hq => absurd hq List.not_mem_nil) (fun as σ hl => ?_)
  match as, hl with
  | [a0, a1], _ =>
  refine ⟨[], 400, ?_, ?_⟩
  · exact fun q hq => absurd hq List.not_mem_nil
  · exact ⟨_, rfl, sp_161_e (q_r a0) (q_i a1) σ ⟩
theorem zJ_166 : zJ3 166 z_m166 z_c166 z_h166 := ⟨rfl, rfl, rfl⟩
noncomputable def p_166 (a : Nat) (h : Int32) (σ : zSg) (e : Int32 ⊕ Nat) (σ' : zSg) : Prop := σ' = σ ∧ (e = .inl 0 → 0 ≤ h.toInt ∧ h.toInt < 24) ∧ (e = .inr 2 → ¬ (0 ≤ h.toInt ∧ h.toInt < 24))
theorem sp_166_et (a0 : Nat) (a1 : Int32) (σ : zSg) (h1 : a1.toInt < (0 : Int)) :
    p_166 (a0) (a1) σ (.inr 2) σ := by
  refine ⟨rfl, fun h => ?_, fun h => ?_⟩
  · first
    | (cases h; done)
    | omega
  · first
    | (cases h; done)
    | omega
theorem sp_166_eft (a0 : Nat) (a1 : Int32) (σ : zSg) (h1 : a1.toInt ≥ (0 : Int)) (h2 : a1.toInt < (24 : Int)) :
    p_166 (a0) (a1) σ (.inl 0) σ := by
  refine ⟨rfl, fun h => ?_, fun h => ?_⟩
  · first
    | (cases h; done)
    | omega
  · first
    | (cases h; done)
    | omega
theorem sp_166_eff (a0 : Nat) (a1 : Int32) (σ : zSg) (h1 : a1.toInt ≥ (0 : Int)) (h2 : a1.toInt ≥ (24 : Int)) :
    p_166 (a0) (a1) σ (.inr 2) σ := by
  refine ⟨rfl, fun h => ?_, fun h => ?_⟩
  · first
    | (cases h; done)
    | omega
  · first
    | (cases h; done)
    | omega
noncomputable def qP_166 : zPp := fun as σ o σ' => match as with
  | [a0, a1] => (o = .inl none ∧ p_166 (q_r a0) (q_i a1) σ (.inl 0) σ') ∨ (o = .inr 2 ∧ p_166 (q_r a0) (q_i a1) σ (.inr 2) σ')
  | _ => True
set_option maxRecDepth 100000 in
theorem sp_166 {sx : zX}  : zEe sx 166 2 qP_166 := by
  refine zfle zJ_166 (sps := []) (fun q hq => absurd hq List.not_mem_nil) (fun as σ hl => ?_)
  match as, hl with
  | [a0, a1], _ =>
  refine ⟨[], 400, ?_, ?_⟩
  · exact fun q hq => absurd hq List.not_mem_nil
  · refine And.intro (fun h1 => ?_) (fun h1 => ?_)
    · exact Or.inr (⟨rfl, sp_166_et (q_r a0) (q_i a1) σ (cm2t h1)⟩)
    · refine And.intro (fun h2 => ?_) (fun h2 => ?_)
      · exact Or.inl ⟨rfl, sp_166_eft (q_r a0) (q_i a1) σ (cm2f h1) (cm2t h2)⟩
      · exact Or.inr (⟨rfl, sp_166_eff (q_r a0) (q_i a1) σ (cm2f h1) (cm2f h2)⟩)
theorem zJ_169 : zJ3 169 z_m169 z_c169 z_h169 := ⟨rfl, rfl, rfl⟩
noncomputable def p_169 (a : Nat) (w t : Int32) (σ : zSg) (e : Int32 ⊕ Nat) (σ' : zSg) : Prop := σ' = σ ∧ (e = .inl 0 → 0 ≤ w.toInt ∧ w.toInt ≤ t.toInt) ∧ (e = .inr 3 → ¬ (0 ≤ w.toInt ∧ w.toInt ≤ t.toInt))
theorem sp_169_et (a0 : Nat) (a1 : Int32) (a2 : Int32) (σ : zSg) (h1 : a1.toInt < (0 : Int)) :
    p_169 (a0) (a1) (a2) σ (.inr 3) σ := by
  refine ⟨rfl, fun h => ?_, fun h => ?_⟩
  · first
    | (cases h; done)
    | omega
  · first
    | (cases h; done)
    | omega
theorem sp_169_eft (a0 : Nat) (a1 : Int32) (a2 : Int32) (σ : zSg) (h1 : a1.toInt ≥ (0 : Int)) (h2 : a1.toInt ≤ a2.toInt) :
    p_169 (a0) (a1) (a2) σ (.inl 0) σ := by
  refine ⟨rfl, fun h => ?_, fun h => ?_⟩
  · first
    | (cases h; done)
    | omega
  · first
    | (cases h; done)
    | omega
theorem sp_169_eff (a0 : Nat) (a1 : Int32) (a2 : Int32) (σ : zSg) (h1 : a1.toInt ≥ (0 : Int)) (h2 : a1.toInt > a2.toInt) :
    p_169 (a0) (a1) (a2) σ (.inr 3) σ := by
  refine ⟨rfl, fun h => ?_, fun h => ?_⟩
  · first
    | (cases h; done)
    | omega
  · first
    | (cases h; done)
    | omega
noncomputable def qP_169 : zPp := fun as σ o σ' => match as with
  | [a0, a1, a2] => (o = .inl none ∧ p_169 (q_r a0) (q_i a1) (q_i a2) σ (.inl 0) σ') ∨ (o = .inr 3 ∧ p_169 (q_r a0) (q_i a1) (q_i a2) σ (.inr 3) σ')
  | _ => True
set_option maxRecDepth 100000 in
theorem sp_169 {sx : zX}  : zEe sx 169 3 qP_169 := by
  refine zfle zJ_169 (sps := []) (fun q hq => absurd hq List.not_mem_nil) (fun as σ hl => ?_)
  match as, hl with
  | [a0, a1, a2], _ =>
  refine ⟨[], 400, ?_, ?_⟩
  · exact fun q hq => absurd hq List.not_mem_nil
  · refine And.intro (fun h1 => ?_) (fun h1 => ?_)
    · exact Or.inr (⟨rfl, sp_169_et (q_r a0) (q_i a1) (q_i a2) σ (cm2t h1)⟩)
    · refine And.intro (fun h2 => ?_) (fun h2 => ?_)
      · exact Or.inl ⟨rfl, sp_169_eft (q_r a0) (q_i a1) (q_i a2) σ (cm2f h1) (cm5t h2)⟩
      · exact Or.inr (⟨rfl, sp_169_eff (q_r a0) (q_i a1) (q_i a2) σ (cm2f h1) (cm5f h2)⟩)
theorem zJ_170 : zJ3 170 z_m170 z_c170 z_h170 := ⟨rfl, rfl, rfl⟩
noncomputable def p_170 (a : Nat) (n l t : Int32) (σ : zSg) (e : Int32 ⊕ Nat) (σ' : zSg) : Prop := σ' = σ ∧ (e = .inl 0 → l.toInt ≤ n.toInt ∧ n.toInt ≤ t.toInt) ∧ (e = .inr 0 → ¬ (l.toInt ≤ n.toInt ∧ n.toInt ≤ t.toInt))
theorem sp_170_et (a0 : Nat) (a1 : Int32) (a2 : Int32) (a3 : Int32) (σ : zSg) (h1 : a1.toInt < a2.toInt) :
    p_170 (a0) (a1) (a2) (a3) σ (.inr 0) σ := by
  refine ⟨rfl, fun h => ?_, fun h => ?_⟩
  · first
    | (cases h; done)
    | omega
  · first
    | (cases h; done)
    | omega
theorem sp_170_eft (a0 : Nat) (a1 : Int32) (a2 : Int32) (a3 : Int32) (σ : zSg) (h1 : a1.toInt ≥ a2.toInt) (h2 : a1.toInt ≤ a3.toInt) :
    p_170 (a0) (a1) (a2) (a3) σ (.inl 0) σ := by
  refine ⟨rfl, fun h => ?_, fun h => ?_⟩
  · first
    | (cases h; done)
    | omega
  · first
    | (cases h; done)
    | omega
theorem sp_170_eff (a0 : Nat) (a1 : Int32) (a2 : Int32) (a3 : Int32) (σ : zSg) (h1 : a1.toInt ≥ a2.toInt) (h2 : a1.toInt > a3.toInt) :
    p_170 (a0) (a1) (a2) (a3) σ (.inr 0) σ := by
  refine ⟨rfl, fun h => ?_, fun h => ?_⟩
  · first
    | (cases h; done)
    | omega
  · first
    | (cases h; done)
    | omega
noncomputable def qP_170 : zPp := fun as σ o σ' => match as with
  | [a0, a1, a2, a3] => (o = .inl none ∧ p_170 (q_r a0) (q_i a1) (q_i a2) (q_i a3) σ (.inl 0) σ') ∨ (o = .inr 0 ∧ p_170 (q_r a0) (q_i a1) (q_i a2) (q_i a3) σ (.inr 0) σ')
  | _ => True
set_option maxRecDepth 100000 in
theorem sp_170 {sx : zX}  : zEe sx 170 4 qP_170 := by
  refine zfle zJ_170 (sps := []) (fun q hq => absurd hq List.not_mem_nil) (fun as σ hl => ?_)
  match as, hl with
  | [a0, a1, a2, a3], _ =>
  refine ⟨[], 400, ?_, ?_⟩
  · exact fun q hq => absurd hq List.not_mem_nil
  · refine And.intro (fun h1 => ?_) (fun h1 => ?_)
    · exact Or.inr (⟨rfl, sp_170_et (q_r a0) (q_i a1) (q_i a2) (q_i a3) σ (cm2t h1)⟩)
    · refine And.intro (fun h2 => ?_) (fun h2 => ?_)
      · exact Or.inl ⟨rfl, sp_170_eft (q_r a0) (q_i a1) (q_i a2) (q_i a3) σ (cm2f h1) (cm5t h2)⟩
      · exact Or.inr (⟨rfl, sp_170_eff (q_r a0) (q_i a1) (q_i a2) (q_i a3) σ (cm2f h1) (cm5f h2)⟩)
theorem zJ_171 : zJ3 171 z_m171 z_c171 z_h171 := ⟨rfl, rfl, rfl⟩
noncomputable def p_171 (a : Nat) (x y : Int32) (σ : zSg) (e : Int32 ⊕ Nat) (σ' : zSg) : Prop := σ' = σ ∧ (e = .inl 0 → x.toInt ≠ y.toInt) ∧ (e = .inr 0 → x.toInt = y.toInt)
theorem sp_171_et (a0 : Nat) (a1 : Int32) (a2 : Int32) (σ : zSg) (h1 : a1.toInt ≠ a2.toInt) :
    p_171 (a0) (a1) (a2) σ (.inl 0) σ := by
  refine ⟨rfl, fun h => ?_, fun h => ?_⟩
  · first
    | (cases h; done)
    | omega
  · first
    | (cases h; done)
    | omega
theorem sp_171_ef (a0 : Nat) (a1 : Int32) (a2 : Int32) (σ : zSg) (h1 : a1.toInt = a2.toInt) :
    p_171 (a0) (a1) (a2) σ (.inr 0) σ := by
  refine ⟨rfl, fun h => ?_, fun h => ?_⟩
  · first
    | (cases h; done)
    | omega
  · first
    | (cases h; done)
    | omega
noncomputable def qP_171 : zPp := fun as σ o σ' => match as with
  | [a0, a1, a2] => (o = .inl none ∧ p_171 (q_r a0) (q_i a1) (q_i a2) σ (.inl 0) σ') ∨ (o = .inr 0 ∧ p_171 (q_r a0) (q_i a1) (q_i a2) σ (.inr 0) σ')
  | _ => True
set_option maxRecDepth 100000 in
theorem sp_171 {sx : zX}  : zEe sx 171 3 qP_171 := by
  refine zfle zJ_171 (sps := []) (fun q hq => absurd hq List.not_mem_nil) (fun as σ hl => ?_)
  match as, hl with
  | [a0, a1, a2], _ =>
  refine ⟨[], 400, ?_, ?_⟩
  · exact fun q hq => absurd hq List.not_mem_nil
  · refine And.intro (fun h1 => ?_) (fun h1 => ?_)
    · exact Or.inl ⟨rfl, sp_171_et (q_r a0) (q_i a1) (q_i a2) σ (cm1t h1)⟩
    · exact Or.inr (⟨rfl, sp_171_ef (q_r a0) (q_i a1) (q_i a2) σ (cm1f h1)⟩)
theorem zJ_172 : zJ3 172 z_m172 z_c172 z_h172 := ⟨rfl, rfl, rfl⟩
noncomputable def p_172 (a : Nat) (x : Int32) (σ : zSg) (e : Int32 ⊕ Nat) (σ' : zSg) : Prop := σ' = σ ∧ (e = .inl 0 → x.toInt ≠ 0) ∧ (e = .inr 4 → x.toInt = 0)
theorem sp_172_et (a0 : Nat) (a1 : Int32) (σ : zSg) (h1 : a1.toInt ≠ (0 : Int)) :
    p_172 (a0) (a1) σ (.inl 0) σ := by
  refine ⟨rfl, fun h => ?_, fun h => ?_⟩
  · first
    | (cases h; done)
    | omega
  · first
    | (cases h; done)
    | omega
theorem sp_172_ef (a0 : Nat) (a1 : Int32) (σ : zSg) (h1 : a1.toInt = (0 : Int)) :
    p_172 (a0) (a1) σ (.inr 4) σ := by
  refine ⟨rfl, fun h => ?_, fun h => ?_⟩
  · first
    | (cases h; done)
    | omega
  · first
    | (cases h; done)
    | omega
noncomputable def qP_172 : zPp := fun as σ o σ' => match as with
  | [a0, a1] => (o = .inl none ∧ p_172 (q_r a0) (q_i a1) σ (.inl 0) σ') ∨ (o = .inr 4 ∧ p_172 (q_r a0) (q_i a1) σ (.inr 4) σ')
  | _ => True
set_option maxRecDepth 100000 in
theorem sp_172 {sx : zX}  : zEe sx 172 2 qP_172 := by
  refine zfle zJ_172 (sps := []) (fun q hq => absurd hq List.not_mem_nil) (fun as σ hl => ?_)
  match as, hl with
  | [a0, a1], _ =>
  refine ⟨[], 400, ?_, ?_⟩
  · exact fun q hq => absurd hq List.not_mem_nil
  · refine And.intro (fun h1 => ?_) (fun h1 => ?_)
    · exact Or.inl ⟨rfl, sp_172_et (q_r a0) (q_i a1) σ (cm1t h1)⟩
    · exact Or.inr (⟨rfl, sp_172_ef (q_r a0) (q_i a1) σ (cm1f h1)⟩)
