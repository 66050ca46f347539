/-! does and thing: the class and the reference answer alike -/
theorem zLik_v {σ1 σ2 : zSg} {k b v : Int32} (ek : k = Int32.ofInt 0) (f : rVF (r0 σ1) σ2) (h : σ1.1 218 0 = .long v.toInt64) (e : b = v) : zLik σ2 k b := by
  subst ek e
  refine ⟨_, (f.2 205 0 (by omega)).trans (q_w_at _ _ _ _), rfl, fun _ => ?_⟩
  rw [f.2 218 0 (by omega)]
  exact (q_w_ne (fun e _ => by omega)).trans h
theorem zHld_v {σ1 σ2 : zSg} {p : zPt} (w : zPw p) (K : zC σ1 p) (R : zRv σ1 p) (f : rVF (r0 σ1) σ2) : zHld σ2 := by
  have g : ∀ c k, c ≠ 213 → ¬ (c = 205 ∧ k = 0) → σ2.1 c k = σ1.1 c k := fun c k h1 h2 => (f.2 c k h1).trans (q_w_ne (fun e1 e2 => h2 ⟨e1, e2⟩))
  exact ⟨p, w, K.ref f.1 (fun c k q => g c k (by omega) (by omega)), R.fr (fun c k q => g c k (by unfold zRc at q; omega) (by unfold zRc at q; omega))⟩
theorem zq_7 {σ σ1 σ2 : zSg} {p : zPt} {a1 a2 a3 k b : Int32} (w : zPw p) (K : zC σ p) (R : zRv σ p) (G1 : p_319 0 a1 a2 a3 218 σ k σ1) (G2 : p_250 205 a1 a2 a3 σ1 b σ2) : zHld σ2 ∧ zLik σ2 k b := by
  obtain ⟨K1, R1⟩ := zc_7 (σ2 := σ2) w K R G1
  obtain ⟨e, τ, g, alts⟩ := G1
  have g0 := g rfl p.1 p.2.1.1 p.2.1.2 p.2.2.2.1 K.1 K.2.1 w.1 K.2.2.2.2.1
  have y := G2 rfl p.1 p.2.1.1 p.2.1.2 p.2.2.2.1 (R1.Ev w) w.1
  have k6 := w.1.1.2.1
  by_cases hv : (0 ≤ a1.toInt ∧ a1.toInt < (p.2.1.1 : Int)) ∧ (0 ≤ a2.toInt ∧ a2.toInt < 24)
  case neg =>
    obtain ⟨q1, q2⟩ := g0.1 hv
    subst q1
    rcases alts with ⟨v, q, -, -⟩ | ⟨-, r1, r2⟩ | ⟨q, -, -⟩
    · cases q
    · exact zq_err w K R (r2.trans q2) (y.1 hv).2 r1 (Or.inl rfl)
    · cases q
  obtain ⟨ex, lx⟩ := i_of hv.1 (by omega)
  obtain ⟨ey, ly⟩ := i_of (n := 24) hv.2 (by omega)
  have g1 := g0.2 _ _ ex lx ey ly
  have y1 := y.2 _ _ ex lx ey ly
  by_cases hw : 0 ≤ a3.toInt ∧ a3.toInt ≤ 1
  case neg =>
    obtain ⟨q1, q2⟩ := g1.1 hw
    subst q1
    rcases alts with ⟨v, q, -, -⟩ | ⟨q, -, -⟩ | ⟨-, r1, r2⟩
    · cases q
    · cases q
    · exact zq_err w K R (r2.trans q2) (y1.1 hw).2 r1 (Or.inr (Or.inl rfl))
  obtain ⟨-, q1⟩ := g1.2 hw
  obtain ⟨f2, x2⟩ := y1.2 hw
  subst q1
  rcases alts with ⟨v, q, r1, r2⟩ | ⟨q, -, -⟩ | ⟨q, -, -⟩
  · cases q
    exact ⟨zHld_v w K1 R1 f2, zLik_v r1 f2 (by rw [r2]; exact q_w_at _ _ _ _) x2⟩
  · cases q
  · cases q
theorem zq_8 {σ σ1 σ2 : zSg} {p : zPt} {a1 a2 k b : Int32} (w : zPw p) (K : zC σ p) (R : zRv σ p) (G1 : p_320 0 a1 a2 218 σ k σ1) (G2 : p_251 205 a1 a2 σ1 b σ2) : zHld σ2 ∧ zLik σ2 k b := by
  obtain ⟨K1, R1⟩ := zc_8 (σ2 := σ2) w K R G1
  obtain ⟨e, τ, g, alts⟩ := G1
  have g0 := g rfl p.1 p.2.1.1 p.2.1.2 p.2.2.2.1 K.1 K.2.1 w.1 K.2.2.2.2.1
  have y := G2 rfl p.1 p.2.1.1 p.2.1.2 p.2.2.2.1 (R1.Ev w) w.1
  have k6 := w.1.1.2.1
  have k8 := w.1.1.2.2.2.1
  by_cases hv : 0 ≤ a1.toInt ∧ a1.toInt < (p.2.1.2 : Int)
  case neg =>
    obtain ⟨q1, q2⟩ := g0.1 hv
    subst q1
    rcases alts with ⟨v, q, -, -⟩ | ⟨-, r1, r2⟩ | ⟨q, -, -⟩
    · cases q
    · exact zq_err w K R (r2.trans q2) (y.1 hv).2 r1 (Or.inl rfl)
    · cases q
  obtain ⟨ex, lx⟩ := i_of hv (by omega)
  have g1 := g0.2 _ ex lx
  have y1 := y.2 _ ex lx
  by_cases hw : 0 ≤ a2.toInt ∧ a2.toInt ≤ 3
  case neg =>
    obtain ⟨q1, q2⟩ := g1.1 hw
    subst q1
    rcases alts with ⟨v, q, -, -⟩ | ⟨q, -, -⟩ | ⟨-, r1, r2⟩
    · cases q
    · cases q
    · exact zq_err w K R (r2.trans q2) (y1.1 hw).2 r1 (Or.inr (Or.inl rfl))
  obtain ⟨-, c0, c1, c2, c3⟩ := g1.2 hw
  obtain ⟨y3, yk⟩ := y1.2 hw
  have done : ∀ v : Int32, e = .inl v → rVF (r0 σ1) σ2 → b = v → zHld σ2 ∧ zLik σ2 k b := fun v ev f2 x2 => by
    subst ev
    rcases alts with ⟨v', q, r1, r2⟩ | ⟨q, -, -⟩ | ⟨q, -, -⟩
    · cases q
      exact ⟨zHld_v w K1 R1 f2, zLik_v r1 f2 (by rw [r2]; exact q_w_at _ _ _ _) x2⟩
    · cases q
    · cases q
  have small : ∀ j : Nat, j < 3 → a2.toInt = (j : Int) → e = .inl (p.1 (64 + j + 3 * a1.toInt.toNat)) → zHld σ2 ∧ zLik σ2 k b := fun j hj ej ev => by
    obtain ⟨f2, x2⟩ := yk j hj (Int32.toInt_inj.mp (by rw [o32 (by omega)]; exact ej))
    exact done _ ev (by rw [f2]; exact ⟨rfl, fun _ _ _ => rfl⟩) x2
  by_cases h3 : a2.toInt = 3
  · obtain ⟨n, hn, en⟩ := w.1.2.2.2.2.2.1
    obtain ⟨F, hF, eF⟩ := w.1.2.2.1 _ lx
    obtain ⟨f2, x2⟩ := y3 h3 F n eF hF en hn
    exact done _ (c3 h3 F n eF hF en hn) f2 x2
  · by_cases h0 : a2.toInt = 0
    · exact small 0 (by omega) h0 (c0 h0)
    · by_cases h1 : a2.toInt = 1
      · exact small 1 (by omega) h1 (c1 h1)
      · have h2 : a2.toInt = 2 := by omega
        exact small 2 (by omega) h2 (c2 h2)
