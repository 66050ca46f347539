/-! holds, changes, gaps: the class and the reference answer alike -/
theorem zHld_r {σ : zSg} {p : zPt} (w : zPw p) (K : zC σ p) (R : zRv σ p) : zHld (r0 σ) := ⟨p, w, K.ref rfl (fun c k q => q_w_ne (fun e _ => by omega)), R.thr (c := 0)⟩
theorem zq_18 {σ σ1 σ2 : zSg} {p : zPt} {k b : Int32} (w : zPw p) (K : zC σ p) (R : zRv σ p) (G1 : p_136 0 σ k σ1) (G2 : p_274 205 σ1 b σ2) : zHld σ2 ∧ k = b := by
  obtain ⟨rfl, g1⟩ := G1 rfl K.1
  obtain ⟨rfl, g2⟩ := G2 rfl _ R.2.2.1
  exact ⟨zHld_r w K R, (g1 _ K.2.1).trans g2.symm⟩
theorem zq_20 {σ σ1 σ2 : zSg} {p : zPt} {k b : Int32} (w : zPw p) (K : zC σ p) (R : zRv σ p) (G1 : p_138 0 σ k σ1) (G2 : p_279 205 σ1 b σ2) : zHld σ2 ∧ k = b := by
  obtain ⟨rfl, g1⟩ := G1 rfl K.1
  obtain ⟨rfl, g2⟩ := G2 rfl _ R.2.2.1
  exact ⟨zHld_r w K R, (g1 _ _ _ K.2.1 w.1).trans g2.symm⟩
theorem zq_5 {σ σ1 σ2 : zSg} {p : zPt} {a1 k b : Int32} (w : zPw p) (K : zC σ p) (R : zRv σ p) (G1 : p_317 0 a1 218 σ k σ1) (G2 : p_248 205 a1 σ1 b σ2) : zHld σ2 ∧ zLik σ2 k b := by
  obtain ⟨e, τ, g, alts⟩ := G1
  obtain ⟨rfl, g1, g2⟩ := g rfl _ K.1 K.2.1
  have R1 : ∀ v, zRv (q_w τ 218 0 v) p := fun v => R.cls (fun c k h1 h2 => q_w_ne (fun e _ => by omega))
  by_cases hv : 0 ≤ a1.toInt ∧ a1.toInt < 24
  case neg =>
    have q1 := g1 hv
    subst q1
    rcases alts with ⟨v, q, -, -⟩ | ⟨-, r1, r2⟩
    · cases q
    · subst r2
      exact zq_err w K R rfl ((G2 rfl _ R.2.2.1).1 hv).2 r1 (Or.inl rfl)
  obtain ⟨ex, lx⟩ := i_of (n := 24) hv (by omega)
  have q1 := g2 _ ex lx
  subst q1
  rcases alts with ⟨v, q, r1, r2⟩ | ⟨q, -, -⟩
  · cases q
    subst r2
    obtain ⟨f2, x2⟩ := (G2 rfl _ (R1 _).2.2.1).2 _ ex lx
    have f : rVF (r0 (q_w τ 218 0 (.long (p.1 (16 + a1.toInt.toNat)).toInt64))) σ2 := by rw [f2]; exact ⟨rfl, fun _ _ _ => rfl⟩
    exact ⟨zHld_v w K.out (R1 _) f, zLik_v r1 f (q_w_at _ _ _ _) x2⟩
  · cases q
theorem zq_38 {σ σ1 σ2 : zSg} {p : zPt} {k b : Int32} (w : zPw p) (K : zC σ p) (R : zRv σ p) (G1 : p_156 0 σ k σ1) (G2 : p_302 205 σ1 b σ2) : zHld σ2 ∧ k = b := by
  obtain ⟨rfl, g1⟩ := G1 rfl K.1 _ _ _ K.2.1 w.1
  obtain ⟨rfl, g2⟩ := G2 rfl _ _ _ R.2.2.1 w.1
  obtain ⟨n, hn, en⟩ := w.1.2.2.2.2.2.1
  exact ⟨zHld_r w K R, (g1 n en hn).trans (g2 n en hn).symm⟩
theorem zq_32 {σ σ1 σ2 : zSg} {p : zPt} {k b : Int32} (w : zPw p) (K : zC σ p) (R : zRv σ p) (G1 : p_150 0 σ k σ1) (G2 : p_280 205 σ1 b σ2) : zHld σ2 ∧ k = b := by
  obtain ⟨rfl, g1⟩ := G1 rfl K.1
  obtain ⟨rfl, g2⟩ := G2 rfl _ _ _ R.2.2.1 w.1
  exact ⟨zHld_r w K R, (g1 _ _ _ K.2.1 w.1).trans g2.symm⟩
theorem zq_37 {σ σ1 σ2 : zSg} {p : zPt} {k b : Int32} (w : zPw p) (K : zC σ p) (R : zRv σ p) (G1 : p_155 0 σ k σ1) (G2 : p_301 205 σ1 b σ2) : zHld σ2 ∧ k = b := by
  obtain ⟨rfl, g1⟩ := G1 rfl K.1
  obtain ⟨rfl, g2⟩ := G2 rfl _ _ _ R.2.2.1 w.1
  exact ⟨zHld_r w K R, (g1 _ _ _ K.2.1 w.1).trans g2.symm⟩
