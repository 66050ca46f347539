/-! seed, undo, image, back, deed, law: pairs of calls keep the whole relation -/
section ZPC
variable {σ σ1 σ2 τ υ : zSg} {p : zPt} {A B : Nat → Int32} {k b v : Int32}
theorem zCi.of {im : Option ((Nat → Int32) × zLaw)} (K : zCi σ im) (h2 : τ.2 = σ.2) (h6 : τ.1 0 6 = σ.1 0 6) (h : ∀ c k, 34 ≤ c → c ≤ 46 → τ.1 c k = σ.1 c k) (hl : ∀ c k, 219 ≤ c → c % 6 ≠ 5 → τ.1 c k = σ.1 c k) : zCi τ im := by
  unfold zCi at K ⊢
  split at K
  · obtain ⟨q1, B, q2⟩ := K
    exact ⟨h6.trans q1, B, q2.fr h2 (fun c j q1 q2 => h c j (by omega) (by omega))⟩
  · obtain ⟨q1, q2, q3, q4⟩ := K
    exact ⟨h6.trans q1, q2.fr h2 (fun c j q1 q2 => h c j (by omega) (by omega)), q3.of h2 (h _ _ (by omega) (by omega)) hl, q4.of (by rw [h2]; exact Nat.le_refl _)⟩
theorem zCi.e34 {im : Option ((Nat → Int32) × zLaw)} (K : zCi σ im) : ∃ B, hH σ 34 B := by
  unfold zCi at K
  split at K
  · exact K.2
  · exact ⟨_, K.2.1⟩
theorem zRim.of {im : Option ((Nat → Int32) × zLaw)} (K : zRim σ im) (h6 : τ.1 205 6 = σ.1 205 6) (h7 : ∀ k, k < 1237 → τ.1 207 k = σ.1 207 k) : zRim τ im := by
  unfold zRim at K ⊢
  split at K
  · exact h6.trans K
  · obtain ⟨q1, q2, q3⟩ := K
    exact ⟨h6.trans q1, fun k hk => (h7 k (by omega)).trans (q2 k hk), q3.of (fun k _ q => h7 k q) rfl⟩
theorem hW.e5 {Lo : zLaw} {x y : Nat} (K : hW σ x Lo) (h2 : τ.2 = σ.2) (h5 : τ.1 y 5 = σ.1 x 5) (hl : ∀ c k, 219 ≤ c → c % 6 ≠ 5 → τ.1 c k = σ.1 c k) : hW τ y Lo := by
  unfold hW at K ⊢
  match Lo, K with
  | none, K => exact h5.trans K
  | some (L, ls, l), ⟨k1, k2, k3, k4, k5, k6⟩ => exact ⟨h5.trans k1, k2, k3, k4.fr h2 (fun c k q1 q2 q3 => hl c k (by omega) (by omega)), by rw [h2]; exact k5, k6⟩
/-- the house that is now changes, no more -/
theorem zq_43 {a1 : Int32} (w : zPw p) (K : zC σ p) (R : zRv σ p) (G1 : p_161 0 a1 σ k σ1) (G2 : p_309 205 a1 σ1 b σ2) : zHld σ2 ∧ k = b := by
  obtain ⟨ek, e1⟩ := G1 rfl K.1
  have w15 : q_i (σ.1 8 17) = p.1 15 := K.2.1.p hp_15
  subst e1
  have R1 : zRv (q_w σ 8 17 (.int a1)) p := R.cls (fun c k h1 h2 => q_w_ne (fun e _ => by omega))
  obtain ⟨eb, e2⟩ := G2 rfl p.1 R1.2.2.1
  subst e2
  refine ⟨⟨(aU p.1 15 a1, p.2), ?_, ?_, ?_⟩, by rw [ek, eb, w15]⟩
  · obtain ⟨w1, w2, w3, w4, w5⟩ := w
    exact ⟨w1.pl (by omega) (by omega) (by omega) (by omega), by show 0 ≤ (aU p.1 15 a1 6).toInt; rw [aU_ne (by omega)]; exact w2, w3, fun i hi => ⟨(w4 i hi).1, (w4 i hi).2.1, (w4 i hi).2.2.trans (aU_ne (v := a1) (i := 3) (k := 15) (by omega)).symm⟩, w5⟩
  · have K1 : zC (q_w σ 8 17 (.int a1)) (aU p.1 15 a1, p.2) := by
      obtain ⟨k1, k2, ⟨D, k3⟩, ⟨nx, Ms, m, k4⟩, k5, k6, k7, k8, k9, k10⟩ := K
      have f : ∀ c q, ¬ (c = 8 ∧ q = 17) → (q_w σ 8 17 (.int a1)).1 c q = σ.1 c q := fun c q h => q_w_ne (fun e1 e2 => h ⟨e1, e2⟩)
      refine ⟨k1.of (fun k _ => f _ _ (by omega)), k2.ww hp_15, ⟨D, k3.fr rfl (fun c j q1 q2 => f c j (by omega))⟩, ⟨nx, Ms, m.fe rfl (fun c j q1 q2 => f c j (by omega)), fun i hi => ⟨(k4 i hi).1, ?_⟩⟩, k5.of rfl (f _ _ (by omega)) (fun c k q1 q2 => f c k (by omega)), k6, k7.of rfl (f _ _ (by omega)) (fun c k q1 q2 => f c k (by omega)) (fun c k q1 q2 => f c k (by omega)), (f _ _ (by omega)).trans k8, k9, k10⟩
      rw [f _ _ (by omega), f _ _ (by omega)]
      exact (k4 i hi).2
    refine K1.ref rfl (fun c k q => ?_)
    rw [q_w_ne (fun e _ => by omega)]
    exact q_w_ne (fun e _ => by omega)
  · have f : ∀ c q, ¬ (c = 206 ∧ q = 15) → ¬ (c = 205 ∧ q = 0) → (q_w (r0 (q_w σ 8 17 (.int a1))) 206 15 (.int a1)).1 c q = (q_w σ 8 17 (.int a1)).1 c q := fun c q h1 h2 => (q_w_ne (fun e1 e2 => h1 ⟨e1, e2⟩)).trans (q_w_ne (fun e1 e2 => h2 ⟨e1, e2⟩))
    obtain ⟨⟨s1, s2, s3, s4, s5⟩, r2, r3, r4, r5, r6, r7, r8⟩ := R1
    have w0 : rW (r0 (q_w σ 8 17 (.int a1))) p.1 := r3.el (by omega)
    refine ⟨⟨(f _ _ (by omega) (by omega)).trans s1, (f _ _ (by omega) (by omega)).trans s2, (f _ _ (by omega) (by omega)).trans s3, (f _ _ (by omega) (by omega)).trans s4, (f _ _ (by omega) (by omega)).trans s5⟩, (f _ _ (by omega) (by omega)).trans r2, w0.ww, r4.of (fun k _ _ => f _ _ (by omega) (by omega)) (aU_ne (v := a1) (i := 3) (k := 15) (by omega)), (f _ _ (by omega) (by omega)).trans r5, fun i hi k hk => (f _ _ (by omega) (by omega)).trans (r6 i hi k hk), r7.of (f _ _ (by omega) (by omega)) (fun k _ => f _ _ (by omega) (by omega)), (f _ _ (by omega) (by omega)).trans r8⟩
theorem zq_44 (w : zPw p) (K : zC σ p) (R : zRv σ p) (G1 : p_162 0 σ k σ1) (G2 : p_183 205 σ1 b σ2) : zHld σ2 ∧ k = b := by
  obtain ⟨k1, k2, ⟨D, k3⟩, ⟨nx, Ms, m, k4⟩, k5, k6, k7, k8, k9, k10⟩ := id K
  have g := G1 rfl k1 rfl rfl nx p.2.2.1.1 Ms p.1 m k2
  have w3 := w.2.2.1
  by_cases hn : p.2.2.1.1 = 0
  · obtain ⟨rfl, rfl⟩ := g.1 hn
    obtain ⟨rfl, rfl⟩ := (G2 rfl R.1 p.2.2.1.1 R.2.2.2.2.1 w3).1 hn
    exact ⟨⟨p, w, K.ref rfl (fun c k q => q_w_ne (fun e _ => by omega)), R.thr (c := 0)⟩, rfl⟩
  · obtain ⟨rfl, f, m', h', e85⟩ := g.2 hn
    have R1 : zRv σ1 p := R.cls (fun c k h1 h2 => f.2 c k (by omega) (by omega))
    obtain ⟨rfl, e2⟩ := (G2 rfl R1.1 p.2.2.1.1 R1.2.2.2.2.1 w3).2 hn
    have hx := m.2.2.2.1
    have j1 : mJ nx p.2.2.1.1 (p.2.2.1.1 - 1) = (nx + 11) % 12 := by unfold mJ; omega
    have l1 := (k4 (p.2.2.1.1 - 1) (by omega))
    rw [j1] at l1
    have e85' : σ1.1 8 5 = σ.1 8 5 := e85.trans l1.2
    have hl : ∀ c k, 219 ≤ c → c % 6 ≠ 5 → σ1.1 c k = σ.1 c k := fun c k q1 q2 => f.2 c k (by omega) (by omega)
    have wl := w.2.2.2.1 (p.2.2.1.1 - 1) (by omega)
    refine ⟨⟨(p.2.2.1.2 (p.2.2.1.1 - 1), p.2.1, (p.2.2.1.1 - 1, p.2.2.1.2), p.2.2.2), ⟨wl.1, wl.2.1, (by show p.2.2.1.1 - 1 ≤ 12; omega), fun i hi => ?_, w.2.2.2.2⟩, ?_, ?_⟩, rfl⟩
    · have hi : i < p.2.2.1.1 - 1 := hi
      have q := w.2.2.2.1 i (by omega)
      exact ⟨q.1, q.2.1, q.2.2.trans wl.2.2.symm⟩
    · have K1 : zC σ1 (p.2.2.1.2 (p.2.2.1.1 - 1), p.2.1, (p.2.2.1.1 - 1, p.2.2.1.2), p.2.2.2) := by
        refine ⟨k1.of (fun k _ => f.2 _ _ (by omega) (by omega)), (by rw [← l1.1]; exact h'), ⟨D, k3.fr f.1 (fun c j q1 q2 => f.2 c j (by omega) (by omega))⟩, ⟨(nx + 11) % 12, Ms, m', fun i hi => ?_⟩, k5.of f.1 e85' hl, k6.of (by rw [f.1]; exact Nat.le_refl _), k7.of f.1 (f.2 _ _ (by omega) (by omega)) (fun c k q1 q2 => f.2 c k (by omega) (by omega)) hl, (f.2 _ _ (by omega) (by omega)).trans k8, by rw [f.1]; exact k9, by rw [f.1]; exact k10⟩
        have hi : i < p.2.2.1.1 - 1 := hi
        have ej : mJ ((nx + 11) % 12) (p.2.2.1.1 - 1) i = mJ nx p.2.2.1.1 i := by unfold mJ; omega
        show Ms (mJ ((nx + 11) % 12) (p.2.2.1.1 - 1) i) = p.2.2.1.2 i ∧ σ1.1 (49 + 13 * mJ ((nx + 11) % 12) (p.2.2.1.1 - 1) i) 5 = σ1.1 8 5
        rw [ej, e85', f.2 _ _ (by omega) (by omega)]
        exact k4 i (by omega)
      refine K1.ref (by rw [e2]; rfl) (fun c k q => ?_)
      rw [e2, rCy_ne (fun e => by omega), q_w_ne (fun e _ => by omega)]
      exact q_w_ne (fun e _ => by omega)
    · obtain ⟨⟨s1, s2, s3, s4, s5⟩, r2, r3, r4, r5, r6, r7, r8⟩ := R1
      have fr : ∀ c q, ¬ (c = 206 ∧ q < 388) → ¬ (c = 205 ∧ (q = 0 ∨ q = 7)) → σ2.1 c q = σ1.1 c q := fun c q h1 h2 => by
        rw [e2, rCy_ne (fun e => h1 ⟨e.1, by omega⟩), q_w_ne (fun e1 e2 => h2 ⟨e1, Or.inr e2⟩)]
        exact q_w_ne (fun e1 e2 => h2 ⟨e1, Or.inl e2⟩)
      refine ⟨⟨(fr _ _ (by omega) (by omega)).trans s1, (fr _ _ (by omega) (by omega)).trans s2, (fr _ _ (by omega) (by omega)).trans s3, (fr _ _ (by omega) (by omega)).trans s4, (fr _ _ (by omega) (by omega)).trans s5⟩, (fr _ _ (by omega) (by omega)).trans r2, ⟨(fr _ _ (by omega) (by omega)).trans s1, fun k hk => ?_⟩, r4.of (fun k _ _ => fr _ _ (by omega) (by omega)) wl.2.2, ?_, fun i hi k hk => ?_, r7.of (fr _ _ (by omega) (by omega)) (fun k _ => fr _ _ (by omega) (by omega)), (fr _ _ (by omega) (by omega)).trans r8⟩
      · rw [e2]
        show (if 206 = 206 ∧ 0 ≤ k ∧ k < 0 + 388 then Value.int (q_i ((q_w (q_w σ1 205 0 (.int (Int32.ofInt 0))) 205 7 (.int (Int32.ofNat (p.2.2.1.1 - 1)))).1 210 (388 * (p.2.2.1.1 - 1) + (k - 0)))) else _) = _
        rw [if_pos ⟨rfl, by omega, by omega⟩, q_w_ne (fun e _ => by omega), q_w_ne (fun e _ => by omega), Nat.sub_zero, r6 _ (by omega) k hk]
        rfl
      · rw [e2, rCy_ne (fun e => by omega)]
        exact q_w_at _ _ _ _
      · have hi : i < p.2.2.1.1 - 1 := hi
        exact (fr _ _ (by omega) (by omega)).trans (r6 i (by omega) k hk)
theorem rTx.cp {W V : Nat} {Lo : zLaw} (K : rTx σ W A Lo) (h : ∀ k, 388 ≤ k → k < 1237 → τ.1 V k = .int (q_i (σ.1 W k))) : rTx τ V A Lo := by
  unfold rTx at K ⊢
  match Lo, K with
  | none, K => exact K
  | some (L, ls, l), ⟨k1, ⟨a, b, c⟩, k3⟩ =>
    have hv : ∀ k x, 388 ≤ k → k < 1237 → σ.1 W k = .int x → τ.1 V k = .int x := fun k x h1 h2 e => by rw [h k h1 h2, e]; rfl
    refine ⟨k1, ⟨hv _ _ (by omega) (by omega) a, fun i x hx => ?_, fun i x hx => ?_⟩, k3⟩
    · have hi := (List.getElem?_eq_some_iff.mp hx).1
      have g1 := k3.1
      obtain ⟨b1, b2, b3, b4⟩ := b i x hx
      exact ⟨hv _ _ (by omega) (by omega) b1, hv _ _ (by omega) (by omega) b2, hv _ _ (by omega) (by omega) b3, hv _ _ (by omega) (by omega) b4⟩
    · have hi := (List.getElem?_eq_some_iff.mp hx).1
      have g1 := k3.2.1
      obtain ⟨c1, c2⟩ := c i x hx
      exact ⟨hv _ _ (by omega) (by omega) c1, hv _ _ (by omega) (by omega) c2⟩
theorem zq_45 (w : zPw p) (K : zC σ p) (R : zRv σ p) (G1 : p_163 0 σ σ1) (G2 : p_180 205 σ1 σ2) : zHld σ2 := by
  obtain ⟨k1, k2, ⟨D, k3⟩, ⟨nx, Ms, m, k4⟩, k5, k6, k7, k8, k9, k10⟩ := id K
  obtain ⟨B, hB⟩ := k7.e34
  obtain ⟨f, g2, g3, g4⟩ := G1 rfl k1 p.1 B k2 hB
  have R1 : zRv σ1 p := R.cls (fun c k h1 h2 => f.2 c k (by omega) (by omega))
  have e2 := G2 rfl R1.1
  have hl : ∀ c k, 219 ≤ c → c % 6 ≠ 5 → σ1.1 c k = σ.1 c k := fun c k q1 q2 => f.2 c k (by omega) (by omega)
  refine ⟨(p.1, p.2.1, p.2.2.1, p.2.2.2.1, some (p.1, p.2.2.2.1), p.2.2.2.2.2), ⟨w.1, w.2.1, w.2.2.1, w.2.2.2.1, ⟨⟨_, _, w.1⟩, w.2.1⟩⟩, ?_, ?_⟩
  · have K1 : zC σ1 (p.1, p.2.1, p.2.2.1, p.2.2.2.1, some (p.1, p.2.2.2.1), p.2.2.2.2.2) := by
      refine ⟨k1.of (fun k _ => f.2 _ _ (by omega) (by omega)), k2.fr f.1 (fun c j q1 q2 => f.2 c j (by omega) (by omega)), ⟨D, k3.fr f.1 (fun c j q1 q2 => f.2 c j (by omega) (by omega))⟩, ⟨nx, Ms, m.fe f.1 (fun c j q1 q2 => f.2 c j (by omega) (by omega)), fun i hi => ⟨(k4 i hi).1, ?_⟩⟩, k5.of f.1 (f.2 _ _ (by omega) (by omega)) hl, k6.of (by rw [f.1]; exact Nat.le_refl _), ⟨g4, g2, k5.e5 f.1 g3 hl, k6.of (by rw [f.1]; exact Nat.le_refl _)⟩, (f.2 _ _ (by omega) (by omega)).trans k8, by rw [f.1]; exact k9, by rw [f.1]; exact k10⟩
      rw [f.2 _ _ (by omega) (by omega), f.2 _ _ (by omega) (by omega)]
      exact (k4 i hi).2
    refine K1.ref (by rw [e2]; rfl) (fun c k q => ?_)
    rw [e2, q_w_ne (fun e _ => by omega), rCy_ne (fun e => by omega)]
    exact q_w_ne (fun e _ => by omega)
  · obtain ⟨⟨s1, s2, s3, s4, s5⟩, r2, r3, r4, r5, r6, r7, r8⟩ := R1
    have fr : ∀ c q, ¬ (c = 207 ∧ q < 1237) → ¬ (c = 205 ∧ (q = 0 ∨ q = 6)) → σ2.1 c q = σ1.1 c q := fun c q h1 h2 => by
      rw [e2, q_w_ne (fun e1 e2 => h2 ⟨e1, Or.inr e2⟩), rCy_ne (fun e => h1 ⟨e.1, by omega⟩)]
      exact q_w_ne (fun e1 e2 => h2 ⟨e1, Or.inl e2⟩)
    have c7 : ∀ k, k < 1237 → σ2.1 207 k = .int (q_i (σ1.1 206 k)) := fun k hk => by
      rw [e2, q_w_ne (fun e _ => by omega)]
      show (if 207 = 207 ∧ 0 ≤ k ∧ k < 0 + 1237 then Value.int (q_i ((q_w σ1 205 0 (.int (Int32.ofInt 0))).1 206 (0 + (k - 0)))) else _) = _
      rw [if_pos ⟨rfl, by omega, by omega⟩, q_w_ne (fun e _ => by omega), Nat.sub_zero, Nat.zero_add]
    refine ⟨⟨(fr _ _ (by omega) (by omega)).trans s1, (fr _ _ (by omega) (by omega)).trans s2, (fr _ _ (by omega) (by omega)).trans s3, (fr _ _ (by omega) (by omega)).trans s4, (fr _ _ (by omega) (by omega)).trans s5⟩, (fr _ _ (by omega) (by omega)).trans r2, ⟨(fr _ _ (by omega) (by omega)).trans s1, fun k hk => (fr _ _ (by omega) (by omega)).trans (r3.2 k hk)⟩, r4.of (fun k _ _ => fr _ _ (by omega) (by omega)) rfl, (fr _ _ (by omega) (by omega)).trans r5, fun i hi k hk => (fr _ _ (by omega) (by omega)).trans (r6 i hi k hk), ⟨?_, fun k hk => ?_, r4.cp (fun k _ hk => c7 k hk)⟩, (fr _ _ (by omega) (by omega)).trans r8⟩
    · rw [e2]; exact q_w_at _ _ _ _
    · rw [c7 k (by omega), r3.2 k hk]; rfl
theorem zq_46 (w : zPw p) (K : zC σ p) (R : zRv σ p) (G1 : p_164 0 σ k σ1) (G2 : p_181 205 σ1 b σ2) : zHld σ2 ∧ k = b := by
  obtain ⟨k1, k2, ⟨D, k3⟩, ⟨nx, Ms, m, k4⟩, k5, k6, k7, k8, k9, k10⟩ := id K
  obtain ⟨B, hB⟩ := k7.e34
  have g := G1 rfl k1 p.1 B k2 hB
  obtain ⟨⟨s1, s2, s3, s4, s5⟩, r2, r3, r4, r5, r6, r7, r8⟩ := id R
  match him : p.2.2.2.2.1, k7, r7 with
  | none, k7, r7 =>
    have e0 : (q_i (σ.1 0 6)).toInt = 0 := by rw [k7.1]; rfl
    obtain ⟨rfl, rfl⟩ := g.1 e0
    have r7 : σ1.1 205 6 = .int (Int32.ofInt 0) := r7
    obtain ⟨rfl, rfl⟩ := (G2 rfl R.1).1 (by rw [r7]; rfl)
    exact ⟨⟨p, w, K.ref rfl (fun c k q => q_w_ne (fun e _ => by omega)), R.thr (c := 0)⟩, rfl⟩
  | some (I, Li), ⟨i1, i2, i3, i4⟩, ⟨j1, j2, j3⟩ =>
    have w5 := w.2.2.2.2
    rw [him] at w5
    obtain ⟨⟨nf', nt', w5⟩, w6⟩ := w5
    obtain ⟨g1, f, -, g3, g4⟩ := (G1 rfl k1 p.1 I k2 i2).2 (by rw [i1]; decide)
    have g2 := ((G1 rfl k1 p.1 I k2 i2).2 (by rw [i1]; decide)).2.2.1
    subst g1
    have R1 : zRv σ1 p := R.cls (fun c k h1 h2 => f.2 c k (by omega) (by omega))
    have e6 : (q_i (σ1.1 205 6)).toInt ≠ 0 := by rw [f.2 _ _ (by omega) (by omega), j1]; decide
    obtain ⟨rfl, e2⟩ := (G2 rfl R1.1).2 e6
    have hl : ∀ c k, 219 ≤ c → c % 6 ≠ 5 → σ1.1 c k = σ.1 c k := fun c k q1 q2 => f.2 c k (by omega) (by omega)
    refine ⟨⟨(I, (nf', nt'), (0, p.2.2.1.2), Li, some (I, Li), p.2.2.2.2.2), ⟨w5, w6, Nat.zero_le _, fun i hi => absurd hi (Nat.not_lt_zero i), ⟨⟨_, _, w5⟩, w6⟩⟩, ?_, ?_⟩, rfl⟩
    · have K1 : zC σ1 (I, (nf', nt'), (0, p.2.2.1.2), Li, some (I, Li), p.2.2.2.2.2) := by
        obtain ⟨m1, m2, m3, m4, m5, m6, m7⟩ := m
        refine ⟨k1.of (fun k _ => f.2 _ _ (by omega) (by omega)), g2, ⟨D, k3.fr f.1 (fun c j q1 q2 => f.2 c j (by omega) (by omega))⟩, ⟨nx, Ms, ⟨(f.2 _ _ (by omega) (by omega)).trans m1, fun i hi => (f.2 _ _ (by omega) (by omega)).trans (m2 i hi), (f.2 _ _ (by omega) (by omega)).trans m3, m4, g4, Nat.zero_le _, fun i hi => (m7 i hi).fr f.1 (fun c j q1 q2 => f.2 c j (by omega) (by omega))⟩, fun i hi => absurd hi (Nat.not_lt_zero i)⟩, i3.e5 f.1 g3 hl, i4.of (by rw [f.1]; exact Nat.le_refl _), ⟨(f.2 _ _ (by omega) (by omega)).trans i1, i2.fr f.1 (fun c j q1 q2 => f.2 c j (by omega) (by omega)), i3.of f.1 (f.2 _ _ (by omega) (by omega)) hl, i4.of (by rw [f.1]; exact Nat.le_refl _)⟩, (f.2 _ _ (by omega) (by omega)).trans k8, by rw [f.1]; exact k9, by rw [f.1]; exact k10⟩
      refine K1.ref (by rw [e2]; rfl) (fun c k q => ?_)
      rw [e2, q_w_ne (fun e _ => by omega), rCy_ne (fun e => by omega)]
      exact q_w_ne (fun e _ => by omega)
    · have fr : ∀ c q, ¬ (c = 206 ∧ q < 1237) → ¬ (c = 205 ∧ (q = 0 ∨ q = 7)) → σ2.1 c q = σ1.1 c q := fun c q h1 h2 => by
        rw [e2, q_w_ne (fun e1 e2 => h2 ⟨e1, Or.inr e2⟩), rCy_ne (fun e => h1 ⟨e.1, by omega⟩)]
        exact q_w_ne (fun e1 e2 => h2 ⟨e1, Or.inl e2⟩)
      have u : ∀ c k, 205 ≤ c → c ≤ 217 → σ1.1 c k = σ.1 c k := fun c k h1 h2 => f.2 c k (by omega) (by omega)
      have c6 : ∀ k, k < 1237 → σ2.1 206 k = .int (q_i (σ1.1 207 k)) := fun k hk => by
        rw [e2, q_w_ne (fun e _ => by omega)]
        show (if 206 = 206 ∧ 0 ≤ k ∧ k < 0 + 1237 then Value.int (q_i ((q_w σ1 205 0 (.int (Int32.ofInt 0))).1 207 (0 + (k - 0)))) else _) = _
        rw [if_pos ⟨rfl, by omega, by omega⟩, q_w_ne (fun e _ => by omega), Nat.sub_zero, Nat.zero_add]
      refine ⟨⟨?_, ?_, ?_, ?_, ?_⟩, ?_, ⟨?_, fun k hk => ?_⟩, j3.cp (fun k _ hk => by rw [c6 k hk, u _ _ (by omega) (by omega)]), ?_, fun i hi => absurd hi (Nat.not_lt_zero i), ⟨?_, fun k hk => ?_, j3.of (fun k _ hk => by rw [fr _ _ (by omega) (by omega), u _ _ (by omega) (by omega)]) rfl⟩, ?_⟩
      · rw [fr _ _ (by omega) (by omega), u _ _ (by omega) (by omega)]; exact s1
      · rw [fr _ _ (by omega) (by omega), u _ _ (by omega) (by omega)]; exact s2
      · rw [fr _ _ (by omega) (by omega), u _ _ (by omega) (by omega)]; exact s3
      · rw [fr _ _ (by omega) (by omega), u _ _ (by omega) (by omega)]; exact s4
      · rw [fr _ _ (by omega) (by omega), u _ _ (by omega) (by omega)]; exact s5
      · rw [fr _ _ (by omega) (by omega), u _ _ (by omega) (by omega)]; exact r2
      · rw [fr _ _ (by omega) (by omega), u _ _ (by omega) (by omega)]; exact s1
      · rw [c6 k (by omega), u _ _ (by omega) (by omega), j2 k hk]; rfl
      · rw [e2]; exact q_w_at _ _ _ _
      · rw [fr _ _ (by omega) (by omega), u _ _ (by omega) (by omega)]; exact j1
      · rw [fr _ _ (by omega) (by omega), u _ _ (by omega) (by omega)]; exact j2 k hk
      · rw [fr _ _ (by omega) (by omega), u _ _ (by omega) (by omega)]; exact r8
end ZPC
