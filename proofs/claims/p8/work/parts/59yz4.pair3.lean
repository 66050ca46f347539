section
/-! deed and law: pairs of calls keep the whole relation -/
section ZPD
variable {σ σ1 σ2 τ υ : zSg} {p : zPt} {A B : Nat → Int32} {nf nt : Nat} {k b v : Int32}
/-- a line of a deed keeps what holds of a house -/
theorem aI.dApp {o : dOp} (K : aI nf nt A) (h : dOK nf nt o) : aI (nf + dF1 o) (nt + dT1 o) (dApp nf nt A o) := by
  obtain ⟨⟨a0, a1, a2, a3, a4⟩, a5, a6, a7, a8, a9, a10, a11⟩ := K
  rcases h.cs with ⟨p, d, s, q, w, rfl, h9, -⟩ | ⟨f, x, y, q, w, rfl, h9⟩ | ⟨x, q, w, rfl⟩ | ⟨f, v, l, q, w, rfl, h9, h8, h7⟩ | ⟨f, x, y, q, w, rfl, h9⟩ | ⟨k, v, x, q, w, rfl, h9⟩
  · show aI (nf + 1) nt (aU (dG (aU (aU (aU (aU A (40 + 4 * nf) (Int32.ofNat p)) (41 + 4 * nf) (Int32.ofNat d)) (42 + 4 * nf) (Int32.ofNat s)) (43 + 4 * nf) w) q (Int32.ofNat nf)) 0 (Int32.ofNat (nf + 1)))
    have g : ∀ i, i ≠ 0 → ¬ (40 ≤ i ∧ i < 64) → (¬ (16 ≤ i ∧ i < 40)) → (aU (dG (aU (aU (aU (aU A (40 + 4 * nf) (Int32.ofNat p)) (41 + 4 * nf) (Int32.ofNat d)) (42 + 4 * nf) (Int32.ofNat s)) (43 + 4 * nf) w) q (Int32.ofNat nf)) 0 (Int32.ofNat (nf + 1))) i = A i := fun i h0 h1 h2 => by
      rw [aU_ne h0, dG_ne h2, aU_ne (by omega), aU_ne (by omega), aU_ne (by omega), aU_ne (by omega)]
    refine ⟨⟨aU_at, by omega, (g 1 (by omega) (by omega) (by omega)).trans a2, a3, fun t h1 h2 => (g _ (by omega) (by omega) (by omega)).trans (a4 t h1 h2)⟩, fun h hh => ?_, fun t ht => ?_, by rw [g 12 (by omega) (by omega) (by omega)]; exact a7, by rw [g 8 (by omega) (by omega) (by omega)]; exact a8, by rw [g 4 (by omega) (by omega) (by omega)]; exact a9, by rw [g 14 (by omega) (by omega) (by omega)]; exact a10, by rw [g 2 (by omega) (by omega) (by omega)]; exact a11⟩
    · rw [aU_ne (by omega)]
      unfold dG
      by_cases c : 16 ≤ 16 + h ∧ 16 + h < 40 ∧ btb q (Int32.ofNat (16 + h - 16)) = true
      · rw [if_pos c]; exact Or.inr ⟨nf, by omega, rfl⟩
      · rw [if_neg c, aU_ne (by omega), aU_ne (by omega), aU_ne (by omega), aU_ne (by omega)]
        rcases a5 h hh with e | ⟨F, hF, e⟩
        · exact Or.inl e
        · exact Or.inr ⟨F, by omega, e⟩
    · rw [g _ (by omega) (by omega) (by omega)]
      obtain ⟨F, hF, e⟩ := a6 t ht
      exact ⟨F, by omega, e⟩
  · show aI nf nt (dG A q (Int32.ofNat f))
    have g : ∀ i, ¬ (16 ≤ i ∧ i < 40) → dG A q (Int32.ofNat f) i = A i := fun i h => dG_ne h
    refine ⟨⟨(g _ (by omega)).trans a0, a1, (g _ (by omega)).trans a2, a3, fun t h1 h2 => (g _ (by omega)).trans (a4 t h1 h2)⟩, fun h hh => ?_, fun t ht => by rw [g _ (by omega)]; exact a6 t ht, by rw [g _ (by omega)]; exact a7, by rw [g _ (by omega)]; exact a8, by rw [g _ (by omega)]; exact a9, by rw [g _ (by omega)]; exact a10, by rw [g _ (by omega)]; exact a11⟩
    unfold dG
    by_cases c : 16 ≤ 16 + h ∧ 16 + h < 40 ∧ btb q (Int32.ofNat (16 + h - 16)) = true
    · rw [if_pos c]; exact Or.inr ⟨f, h9, rfl⟩
    · rw [if_neg c]; exact a5 h hh
  · show aI nf nt (dG A q (Int32.ofInt (-1)))
    have g : ∀ i, ¬ (16 ≤ i ∧ i < 40) → dG A q (Int32.ofInt (-1)) i = A i := fun i h => dG_ne h
    refine ⟨⟨(g _ (by omega)).trans a0, a1, (g _ (by omega)).trans a2, a3, fun t h1 h2 => (g _ (by omega)).trans (a4 t h1 h2)⟩, fun h hh => ?_, fun t ht => by rw [g _ (by omega)]; exact a6 t ht, by rw [g _ (by omega)]; exact a7, by rw [g _ (by omega)]; exact a8, by rw [g _ (by omega)]; exact a9, by rw [g _ (by omega)]; exact a10, by rw [g _ (by omega)]; exact a11⟩
    unfold dG
    by_cases c : 16 ≤ 16 + h ∧ 16 + h < 40 ∧ btb q (Int32.ofNat (16 + h - 16)) = true
    · rw [if_pos c]; exact Or.inl rfl
    · rw [if_neg c]; exact a5 h hh
  · show aI nf (nt + 1) (aU (aU (aU (aU A (64 + 3 * nt) (Int32.ofNat f)) (65 + 3 * nt) (Int32.ofNat v)) (66 + 3 * nt) (Int32.ofNat l)) 1 (Int32.ofNat (nt + 1)))
    have g : ∀ i, i ≠ 1 → i ≠ 64 + 3 * nt → i ≠ 65 + 3 * nt → i ≠ 66 + 3 * nt → (aU (aU (aU (aU A (64 + 3 * nt) (Int32.ofNat f)) (65 + 3 * nt) (Int32.ofNat v)) (66 + 3 * nt) (Int32.ofNat l)) 1 (Int32.ofNat (nt + 1))) i = A i := fun i h1 h2 h3 h4 => by rw [aU_ne h1, aU_ne h4, aU_ne h3, aU_ne h2]
    refine ⟨⟨(g 0 (by omega) (by omega) (by omega) (by omega)).trans a0, a1, aU_at, by omega, fun t h1 h2 => (g _ (by omega) (by omega) (by omega) (by omega)).trans (a4 t (by omega) h2)⟩, fun h hh => by rw [g _ (by omega) (by omega) (by omega) (by omega)]; exact a5 h hh, fun t ht => ?_, by rw [g 12 (by omega) (by omega) (by omega) (by omega)]; exact a7, by rw [g 8 (by omega) (by omega) (by omega) (by omega)]; exact a8, by rw [g 4 (by omega) (by omega) (by omega) (by omega)]; exact a9, by rw [g 14 (by omega) (by omega) (by omega) (by omega)]; exact a10, by rw [g 2 (by omega) (by omega) (by omega) (by omega)]; exact a11⟩
    by_cases c : t = nt
    · subst c
      refine ⟨f, h8, ?_⟩
      rw [aU_ne (by omega), aU_ne (by omega), aU_ne (by omega), aU_at]
    · rw [g _ (by omega) (by omega) (by omega) (by omega)]
      exact a6 t (by omega)
  · show aI nf nt (aU A (43 + 4 * f) (A (43 + 4 * f) ||| w))
    have K : aI nf nt A := ⟨⟨a0, a1, a2, a3, a4⟩, a5, a6, a7, a8, a9, a10, a11⟩
    exact K.pl (by omega) (by omega) (by omega) (by omega)
  · show aI nf nt (aU A k (Int32.ofNat v))
    have g : ∀ i, i ≠ k → aU A k (Int32.ofNat v) i = A i := fun i h => aU_ne h
    refine ⟨⟨(g _ (by omega)).trans a0, a1, (g _ (by omega)).trans a2, a3, fun t h1 h2 => (g _ (by omega)).trans (a4 t h1 h2)⟩, fun h hh => by rw [g _ (by omega)]; exact a5 h hh, fun t ht => by rw [g _ (by omega)]; exact a6 t ht, ?_, by rw [g _ (by omega)]; exact a8, ?_, by rw [g _ (by omega)]; exact a10, by rw [g _ (by omega)]; exact a11⟩
    · by_cases c : k = 12
      · subst c
        rw [aU_at]
        rw [o32 (show v ≤ 1000 by omega)]; omega
      · rw [g _ (by omega)]; exact a7
    · by_cases c : k = 4
      · subst c
        rw [aU_at]
        exact ⟨v, by omega, rfl⟩
      · rw [g _ (by omega)]; exact a9
theorem aI.dApps : ∀ (os : List dOp) {nf nt : Nat} {A : Nat → Int32}, aI nf nt A → dOKs os nf nt → aI (nf + dFs os) (nt + dTs os) (dApps os nf nt A)
  | [], _, _, _, K, _ => K
  | o :: r, nf, nt, A, K, h => by
    have := aI.dApps r (K.dApp h.1) h.2
    rw [Nat.add_assoc, Nat.add_assoc] at this
    exact this
/-- the tape of both sides -/
noncomputable def zTpe (σ : zSg) (b : Nat → Int) (E : Nat) : Prop := cS0 σ 1 E ∧ cb σ 1 = b ∧ σ.1 1 0 = .ref 2 ∧ σ.1 205 8 = .ref 211 ∧ rb σ 205 = b ∧ σ.1 205 9 = .int (Int32.ofNat E) ∧ E ≤ 400 ∧ rIt σ
theorem rb_of {c : Nat} (h8 : σ.1 205 8 = .ref 211) (h : ∀ q, τ.1 205 8 = σ.1 205 8 → τ.1 211 q = σ.1 211 q) (h8' : τ.1 205 8 = σ.1 205 8) : rb τ 205 = rb σ 205 := by
  funext i
  unfold rb
  rw [h8', h8]
  show (q_i (τ.1 211 i)).toInt = (q_i (σ.1 211 i)).toInt
  rw [h i h8']
theorem zq_2 {bt : Nat → Int} {E : Nat} (w : zPw p) (K : zC σ p) (R : zRv σ p) (Q : zTpe σ bt E) (G1 : p_315 0 218 σ k σ1) (G2 : p_231 205 σ1 b σ2) : zHld σ2 ∧ zLik σ2 k b := by
  obtain ⟨e, τ, g, alts⟩ := G1
  obtain ⟨t1, t2, t3, t4, t5, t6, t7, t8⟩ := Q
  obtain ⟨k1, k2, ⟨D, k3⟩, ⟨nx, Ms, m, k4⟩, k5, k6, k7, k8, k9, k10⟩ := id K
  obtain ⟨tx, htx, etx⟩ := w.1.2.2.2.2.2.2.2
  have n6 := w.1.1.2.1
  have n8 := w.1.1.2.2.2.1
  obtain ⟨f, hD, -, e85, xo⟩ := g rfl bt E p.2.1.1 p.2.1.2 tx p.1 D ⟨k1, t1, t2, t3, k2, w.1.1, etx, htx, k3⟩
  have s1e : σ1.2 = τ.2 ∧ ∀ c q, c ≠ 218 → σ1.1 c q = τ.1 c q := by
    rcases alts with ⟨v, -, -, r⟩ | ⟨-, -, r⟩ | ⟨-, -, r⟩
    · rw [r]; exact ⟨rfl, fun c q h => q_w_ne (fun e _ => h e)⟩
    · rw [r]; exact ⟨rfl, fun _ _ _ => rfl⟩
    · rw [r]; exact ⟨rfl, fun _ _ _ => rfl⟩
  have lo : ∀ c q, 205 ≤ c → c ≤ 217 → σ1.1 c q = σ.1 c q := fun c q h1 h2 => (s1e.2 c q (by omega)).trans (f.2 c q (by omega) (by omega) (by omega) (by omega))
  have R1 : zRv σ1 p := R.cls lo
  have rb1 : rb σ1 205 = bt := (rb_of (c := 0) t4 (fun q _ => lo _ _ (by omega) (by omega)) (lo _ _ (by omega) (by omega))).trans t5
  have y := G2 rfl R1.1 bt E p.2.1.1 p.2.1.2 p.1 tx ⟨(lo _ _ (by omega) (by omega)).trans t4, rb1, R1.2.2.1, (lo _ _ (by omega) (by omega)).trans t6, t7, w.1.1.1, n6, w.1.1.2.2.1, n8⟩ etx htx (fun q hq => by rw [lo _ _ (by omega) (by omega)]; exact t8 q hq)
  obtain ⟨fy, -, yo⟩ := y
  have hl : ∀ c q, 219 ≤ c → c % 6 ≠ 5 → τ.1 c q = σ.1 c q := fun c q q1 q2 => f.2 c q (by omega) (by omega) (by omega) (by omega)
  -- both sides, for any outcome: what the house, the counts, the acts, the fault are then
  have cls : ∀ (B : Nat → Int32) (cf : Nat × Nat) (n' : Nat) (y' : Int32), hH τ 8 B → τ.1 0 7 = .int y' → τ.1 47 2 = .int (Int32.ofNat n') → (n' = p.2.2.1.1 ∨ n' = 0) → zC σ1 (B, cf, (n', p.2.2.1.2), p.2.2.2.1, p.2.2.2.2.1, y') := fun B cf n' y' hB h7 h47 hn => by
    have K0 : zC τ (B, cf, (n', p.2.2.1.2), p.2.2.2.1, p.2.2.2.2.1, y') := by
      obtain ⟨m1, m2, m3, m4, m5, m6, m7⟩ := m
      refine ⟨k1.of (fun k _ => f.2 _ _ (by omega) (by omega) (by omega) (by omega)), hB, hD, ⟨nx, Ms, ⟨(f.2 _ _ (by omega) (by omega) (by omega) (by omega)).trans m1, fun i hi => (f.2 _ _ (by omega) (by omega) (by omega) (by omega)).trans (m2 i hi), (f.2 _ _ (by omega) (by omega) (by omega) (by omega)).trans m3, m4, h47, (by show n' ≤ 12; omega), fun i hi => (m7 i hi).fr f.1 (fun c j q1 q2 => f.2 c j (by omega) (by omega) (by omega) (by omega))⟩, fun i hi => ?_⟩, k5.of f.1 e85 hl, k6.of (by rw [f.1]; exact Nat.le_refl _), k7.of f.1 (f.2 _ _ (by omega) (by omega) (by omega) (by omega)) (fun c k q1 q2 => f.2 c k (by omega) (by omega) (by omega) (by omega)) hl, h7, by rw [f.1]; exact k9, by rw [f.1]; exact k10⟩
      have hi : i < n' := hi
      have en : n' = p.2.2.1.1 := by omega
      show Ms (mJ nx n' i) = p.2.2.1.2 i ∧ τ.1 (49 + 13 * mJ nx n' i) 5 = τ.1 8 5
      rw [en, e85, f.2 _ _ (by omega) (by omega) (by omega) (by omega)]
      exact k4 i (by omega)
    exact K0.fr s1e.1 (fun c q h => s1e.2 c q (by unfold zCc at h; omega))
  have ref : ∀ (B : Nat → Int32) (cf : Nat × Nat) (n' : Nat) (y' : Int32), rW σ2 B → B 3 = p.1 3 → σ2.1 205 14 = .int y' → σ2.1 205 7 = .int (Int32.ofNat n') → (n' = p.2.2.1.1 ∨ n' = 0) → zRv σ2 (B, cf, (n', p.2.2.1.2), p.2.2.2.1, p.2.2.2.2.1, y') := fun B cf n' y' hB h3 h14 h7 hn => by
    obtain ⟨⟨s1, s2, s3, s4, s5⟩, r2, r3, r4, r5, r6, r7, r8⟩ := R1
    refine ⟨⟨(fy.2 _ _ (by omega) (by omega) (by omega)).trans s1, (fy.2 _ _ (by omega) (by omega) (by omega)).trans s2, (fy.2 _ _ (by omega) (by omega) (by omega)).trans s3, (fy.2 _ _ (by omega) (by omega) (by omega)).trans s4, (fy.2 _ _ (by omega) (by omega) (by omega)).trans s5⟩, (fy.2 _ _ (by omega) (by omega) (by omega)).trans r2, hB, r4.of (fun k _ _ => fy.2 _ _ (by omega) (by omega) (by omega)) h3, h7, fun i hi k hk => ?_, r7.of (fy.2 _ _ (by omega) (by omega) (by omega)) (fun k _ => fy.2 _ _ (by omega) (by omega) (by omega)), h14⟩
    have hi : i < n' := hi
    exact (fy.2 _ _ (by omega) (by omega) (by omega)).trans (r6 i (by omega) k hk)
  have e7 : σ1.1 205 7 = .int (Int32.ofNat p.2.2.1.1) := R1.2.2.2.2.1
  have z : ∀ (q : zPt), zC σ1 q → zC σ2 q := fun q h => h.ref fy.1 (fun c k hc => fy.2 c k (by omega) (by omega) (by omega))
  have out : ∀ v : Int32, σ1 = q_w τ 218 0 (.long v.toInt64) → σ2.1 218 0 = .long v.toInt64 := fun v hv => by
    rw [fy.2 _ _ (by omega) (by omega) (by omega), hv]
    exact q_w_at _ _ _ _
  cases hd : dDeed bt E p.2.1.1 p.2.1.2 with
  | inr F =>
    rw [hd] at xo yo
    obtain ⟨rfl, x2, x3, x4⟩ := xo
    obtain ⟨y1, y2, y3, y4⟩ := yo
    rcases alts with ⟨v, q, r1, r2⟩ | ⟨q, r1, r2⟩ | ⟨q, r1, r2⟩
    · cases q
    · refine ⟨⟨(p.1, p.2.1, (p.2.2.1.1, p.2.2.1.2), p.2.2.2.1, p.2.2.2.2.1, Int32.ofNat F), w, z _ (cls p.1 p.2.1 p.2.2.1.1 _ x3 x2 (x4.trans m.2.2.2.2.1) (Or.inl rfl)), ref p.1 p.2.1 p.2.2.1.1 _ y3 rfl y2 (y4.trans e7) (Or.inl rfl)⟩, _, y1, by rw [r1], fun h => ?_⟩
      rw [r1] at h
      exact absurd h (by decide)
    · cases q
  | inl os =>
    rw [hd] at xo yo
    obtain ⟨x1, x2, x3⟩ := xo
    obtain ⟨y1, y2, y3⟩ := yo
    by_cases h12 : tx = 12
    · obtain ⟨rfl, x4, x5⟩ := x2 h12
      obtain ⟨y4, y5, y6⟩ := y2 h12
      rcases alts with ⟨v, q, r1, r2⟩ | ⟨q, r1, r2⟩ | ⟨q, r1, r2⟩
      · cases q
      · cases q
      · refine ⟨⟨(p.1, p.2.1, (p.2.2.1.1, p.2.2.1.2), p.2.2.2.1, p.2.2.2.2.1, Int32.ofInt (-1)), w, z _ (cls p.1 p.2.1 p.2.2.1.1 _ x4 x1 (x5.trans m.2.2.2.2.1) (Or.inl rfl)), ref p.1 p.2.1 p.2.2.1.1 _ y5 rfl y1 (y6.trans e7) (Or.inl rfl)⟩, _, y4, by rw [r1], fun h => ?_⟩
        rw [r1] at h
        exact absurd h (by decide)
    · obtain ⟨rfl, x4, x5⟩ := x3 (by omega)
      obtain ⟨y4, y5, y6, y7⟩ := y3 (by omega)
      have oks := dDeed_ok hd n6 n8
      have ne := fun (i : Nat) hi => dApps_ne (k := i) (A := p.1) hd n6 n8 hi
      have IB := w.1.dApps os oks
      have IC : aI (p.2.1.1 + dFs os) (p.2.1.2 + dTs os) (aU (dApps os p.2.1.1 p.2.1.2 p.1) 2 (Int32.ofNat (tx + 1))) := by
        obtain ⟨⟨a0, a1, a2, a3, a4⟩, a5, a6, a7, a8, a9, a10, a11⟩ := IB
        have g : ∀ i, i ≠ 2 → aU (dApps os p.2.1.1 p.2.1.2 p.1) 2 (Int32.ofNat (tx + 1)) i = dApps os p.2.1.1 p.2.1.2 p.1 i := fun i h => aU_ne h
        exact ⟨⟨(g _ (by omega)).trans a0, a1, (g _ (by omega)).trans a2, a3, fun t h1 h2 => (g _ (by omega)).trans (a4 t h1 h2)⟩, fun h hh => by rw [g _ (by omega)]; exact a5 h hh, fun t ht => by rw [g _ (by omega)]; exact a6 t ht, by rw [g _ (by omega)]; exact a7, by rw [g _ (by omega)]; exact a8, by rw [g _ (by omega)]; exact a9, by rw [g _ (by omega)]; exact a10, tx + 1, by omega, aU_at⟩
      rcases alts with ⟨v, q, r1, r2⟩ | ⟨q, r1, r2⟩ | ⟨q, r1, r2⟩
      · cases q
        refine ⟨⟨(aU (dApps os p.2.1.1 p.2.1.2 p.1) 2 (Int32.ofNat (tx + 1)), (p.2.1.1 + dFs os, p.2.1.2 + dTs os), (0, p.2.2.1.2), p.2.2.2.1, p.2.2.2.2.1, Int32.ofInt (-1)), ⟨IC, ?_, Nat.zero_le _, fun i hi => absurd hi (Nat.not_lt_zero i), w.2.2.2.2⟩, z _ (cls _ _ 0 _ x4 x1 x5 (Or.inr rfl)), ref _ _ 0 _ y6 ?_ y1 y7 (Or.inr rfl)⟩, _, y4, by rw [r1], fun _ => ?_⟩
        · show 0 ≤ (aU (dApps os p.2.1.1 p.2.1.2 p.1) 2 (Int32.ofNat (tx + 1)) 6).toInt
          rw [aU_ne (by omega), ne 6 (by omega)]
          exact w.2.1
        · rw [aU_ne (by omega)]; exact ne 3 (by omega)
        · rw [y5]; exact out _ r2
      · cases q
      · cases q
/-! the law -/
theorem aI.law (K : aI nf nt A) : aI nf nt (aU A 3 (Int32.ofInt 1)) := by
  have hs3 : ∀ i, i ≠ 3 → aU A 3 (Int32.ofInt 1) i = A i := fun i h => aU_ne h
  obtain ⟨⟨a0, a1, a2, a3, a4⟩, a5, a6, a7, a8, a9, a10, a11⟩ := K
  exact ⟨⟨(hs3 _ (by omega)).trans a0, a1, (hs3 _ (by omega)).trans a2, a3, fun t h1 h2 => (hs3 _ (by omega)).trans (a4 t h1 h2)⟩, fun h hh => by rw [hs3 _ (by omega)]; exact a5 h hh, fun t ht => by rw [hs3 _ (by omega)]; exact a6 t ht, by rw [hs3 _ (by omega)]; exact a7, by rw [hs3 _ (by omega)]; exact a8, by rw [hs3 _ (by omega)]; exact a9, by rw [hs3 _ (by omega)]; exact a10, by rw [hs3 _ (by omega)]; exact a11⟩
theorem hH.frl {b9 : Nat} (K : hH σ b9 A) (hl1 : τ.2.1 (b9 + 11) = σ.2.1 (b9 + 11)) (hl2 : τ.2.1 (b9 + 12) = σ.2.1 (b9 + 12)) (h : ∀ c j, b9 ≤ c → c ≤ b9 + 12 → τ.1 c j = σ.1 c j) : hH τ b9 A := by
  obtain ⟨h1, h2, ⟨l, h3, h3'⟩, ⟨nx, h4, h4', h4''⟩, h5, h6, h7⟩ := K
  refine ⟨fun c j d hk => ?_, fun k c j hp => ?_, ⟨l, ?_, h3'⟩, ⟨nx, h4, ?_, fun i j hi hj => ?_⟩, ?_, by rw [hl1]; exact h6, by rw [hl2]; exact h7⟩
  · rw [h c j (by unfold hKr at hk; omega) (by unfold hKr at hk; omega)]; exact h1 c j d hk
  · have hn := hp.no
    rw [h c j hn.2.2.2.2.2.2.2.1 hn.2.2.2.2.2.2.2.2]; exact h2 k c j hp
  · rw [h _ _ (by omega) (by omega)]; exact h3
  · rw [h _ _ (by omega) (by omega)]; exact h4'
  · rw [h _ _ (by omega) (by omega)]; exact h4'' i j hi hj
  · unfold hWe
    rw [h b9 5 (by omega) (by omega)]
    exact h5
/-- the law of a house is another one now -/
theorem hH.w5 {b9 L : Nat} (K : hH σ b9 A) (hl1 : τ.2.1 (b9 + 11) = σ.2.1 (b9 + 11)) (hl2 : τ.2.1 (b9 + 12) = σ.2.1 (b9 + 12)) (h : ∀ c j, b9 ≤ c → c ≤ b9 + 12 → ¬ (c = b9 ∧ j = 5) → τ.1 c j = σ.1 c j) (h5 : τ.1 b9 5 = .ref L) : hH τ b9 (aU A 3 (Int32.ofInt 1)) := by
  obtain ⟨h1, h2, ⟨l, h3, h3'⟩, ⟨nx, h4, h4', h4''⟩, -, h6, h7⟩ := K
  refine ⟨fun c j d hk => ?_, fun k c j hp => ?_, ⟨l, ?_, fun t ht => ?_⟩, ⟨nx, h4, ?_, fun i j hi hj => ?_⟩, Or.inr ⟨L, h5, aU_at⟩, by rw [hl1]; exact h6, by rw [hl2]; exact h7⟩
  · rw [h c j (by unfold hKr at hk; omega) (by unfold hKr at hk; omega) (by unfold hKr at hk; omega)]; exact h1 c j d hk
  · have hn := hp.no
    rw [aU_ne hn.2.1, h c j hn.2.2.2.2.2.2.2.1 hn.2.2.2.2.2.2.2.2 hn.2.2.2.2.2.2.1]; exact h2 k c j hp
  · rw [h _ _ (by omega) (by omega) (by omega)]; exact h3
  · rw [aU_ne (by omega)]; exact h3' t ht
  · rw [h _ _ (by omega) (by omega) (by omega)]; exact h4'
  · rw [h _ _ (by omega) (by omega) (by omega), aU_ne (by omega)]; exact h4'' i j hi hj
theorem cLaw.frl {L : Nat} {ls : List gLn4} {l : zSs} (K : cLaw σ L ls l) (h1 : τ.2.1 (L + 1) = σ.2.1 (L + 1)) (h2 : ∀ c k, L ≤ c → c ≤ L + 5 → τ.1 c k = σ.1 c k) : cLaw τ L ls l := by
  obtain ⟨a0, a1, a2, a3, a4, a5, a6, a7, a8⟩ := K
  refine ⟨?_, ?_, ?_, ?_, ?_, ?_, fun i x hx => ?_, by rw [h1]; exact a7, fun i x hx => ?_⟩
  · rw [h2 _ _ (by omega) (by omega)]; exact a0
  · rw [h2 _ _ (by omega) (by omega)]; exact a1
  · rw [h2 _ _ (by omega) (by omega)]; exact a2
  · rw [h2 _ _ (by omega) (by omega)]; exact a3
  · rw [h2 _ _ (by omega) (by omega)]; exact a4
  · rw [h2 _ _ (by omega) (by omega)]; exact a5
  · rw [h2 _ _ (by omega) (by omega), h2 _ _ (by omega) (by omega), h2 _ _ (by omega) (by omega)]; exact a6 i x hx
  · rw [h2 _ _ (by omega) (by omega)]; exact a8 i x hx
theorem hW.frl {b9 : Nat} {Lo : zLaw} (K : hW σ b9 Lo) (B : wB σ Lo) (hl : ∀ c, c < σ.2.2 → τ.2.1 c = σ.2.1 c) (h5 : τ.1 b9 5 = σ.1 b9 5) (h : ∀ c k, 219 ≤ c → c < σ.2.2 → τ.1 c k = σ.1 c k) : hW τ b9 Lo := by
  unfold hW at K ⊢
  unfold wB at B
  match Lo, K, B with
  | none, K, _ => exact h5.trans K
  | some (L, ls, l), ⟨k1, k2, k3, k4, k5, k6⟩, B => exact ⟨h5.trans k1, k2, k3, k4.frl (hl _ (by omega)) (fun c k q1 q2 => h c k (by omega) (by omega)), (hl _ (by omega)).trans k5, k6⟩
theorem zCi.frl {im : Option ((Nat → Int32) × zLaw)} (K : zCi σ im) (h22 : σ.2.2 ≤ τ.2.2) (h219 : 219 ≤ σ.2.2) (hl : ∀ c, c < σ.2.2 → τ.2.1 c = σ.2.1 c) (h6 : τ.1 0 6 = σ.1 0 6) (h : ∀ c k, 34 ≤ c → c ≤ 46 → τ.1 c k = σ.1 c k) (hc : ∀ c k, 219 ≤ c → c < σ.2.2 → τ.1 c k = σ.1 c k) : zCi τ im := by
  unfold zCi at K ⊢
  split at K
  · obtain ⟨q1, B, q2⟩ := K
    exact ⟨h6.trans q1, B, q2.frl (hl _ (by omega)) (hl _ (by omega)) (fun c j q1 q2 => h c j (by omega) (by omega))⟩
  · obtain ⟨q1, q2, q3, q4⟩ := K
    exact ⟨h6.trans q1, q2.frl (hl _ (by omega)) (hl _ (by omega)) (fun c j q1 q2 => h c j (by omega) (by omega)), q3.frl q4 hl (h _ _ (by omega) (by omega)) hc, q4.of h22⟩
theorem zq_3 {bt : Nat → Int} {E : Nat} (w : zPw p) (K : zC σ p) (R : zRv σ p) (Q : cLw σ 0 1 3 8 47 7 4 5 6 2 bt E) (Q2 : rA σ 205 206 bt E) (h8 : σ.1 205 8 = .ref 211) (hs : k.toInt = 0 → σ1.2.2 = σ.2.2 + 6 ∧ σ1.2.1 (σ.2.2 + 2) = 32) (G1 : p_316w 0 218 σ k σ1) (G2 : p_232 205 σ1 b σ2) : zHld σ2 ∧ zLik σ2 k b := by
  obtain ⟨e, τ, g, alts⟩ := G1
  obtain ⟨g, gw'⟩ := g
  obtain ⟨f, -, Rs, hR, xo⟩ := g 1 3 8 47 7 4 5 6 2 bt E Q
  obtain ⟨k1, k2, ⟨D, k3⟩, ⟨nx, Ms, m, k4⟩, k5, k6, k7, k8, k9, k10⟩ := id K
  have s1e : σ1.2 = τ.2 ∧ ∀ c q, c ≠ 218 → σ1.1 c q = τ.1 c q := by
    rcases alts with ⟨v, -, -, r⟩ | ⟨-, -, r⟩
    · rw [r]; exact ⟨rfl, fun c q h => q_w_ne (fun e _ => h e)⟩
    · rw [r]; exact ⟨rfl, fun _ _ _ => rfl⟩
  have fr : ∀ c q, c < σ.2.2 → c ≠ 218 → ¬ (c = 0 ∧ q = 7) → ¬ (1 ≤ c ∧ c ≤ 7) → ¬ (c = 8 ∧ q = 5) → ¬ (c = 47 ∧ q = 2) → σ1.1 c q = σ.1 c q := fun c q h0 h1 h2 h3 h4 h5 => (s1e.2 c q h1).trans (f.2.2 c q h0 h2 (by omega) (by omega) (by omega) (by omega) (by omega) (by omega) h4 h5)
  have ln : ∀ c, c < σ.2.2 → σ1.2.1 c = σ.2.1 c := fun c h => by rw [s1e.1]; exact f.2.1 c h
  have lo : ∀ c q, 205 ≤ c → c ≤ 217 → σ1.1 c q = σ.1 c q := fun c q h1 h2 => fr c q (by omega) (by omega) (by omega) (by omega) (by omega) (by omega)
  have R1 : zRv σ1 p := R.cls lo
  have Q1 : rA σ1 205 206 bt E := by
    obtain ⟨a1, a2, a3, a4, a5, a6, a7, a8, D9, a9, a10⟩ := Q2
    have l8 := lo 205 8 (by omega) (by omega)
    exact ⟨by rw [l8]; exact a1, (rb_of (c := 0) h8 (fun q _ => lo _ _ (by omega) (by omega)) l8).trans a2, (lo _ _ (by omega) (by omega)).trans a3, a4, by rw [l8]; exact a5, (ln _ (by omega)).trans a6, (lo _ _ (by omega) (by omega)).trans a7, a8, D9, a9, (lo _ _ (by omega) (by omega)).trans a10⟩
  obtain ⟨fy, -, Rs', hR', yo⟩ := G2 206 bt E Q1
  cases hR.det hR'
  have fr2 : ∀ c q, ¬ (c = 205 ∧ (q = 0 ∨ q = 7 ∨ (9 ≤ q ∧ q ≤ 14) ∨ q = 16)) → ¬ (c = 206 ∧ (q = 3 ∨ 388 ≤ q)) → σ2.1 c q = σ1.1 c q := fun c q h1 h2 => fy.2 c q h1 h2
  have h0 : ∀ q, q ≠ 7 → σ1.1 0 q = σ.1 0 q := fun q h => fr 0 q (by omega) (by omega) (by omega) (by omega) (by omega) (by omega)
  have hc : ∀ c q, 219 ≤ c → c < σ.2.2 → σ1.1 c q = σ.1 c q := fun c q h1 h2 => fr c q h2 (by omega) (by omega) (by omega) (by omega) (by omega)
  have h3 : ∀ c q, 9 ≤ c → c ≤ 204 → c ≠ 47 → σ1.1 c q = σ.1 c q := fun c q h1 h2 h4 => fr c q (by omega) (by omega) (by omega) (by omega) (by omega) (by omega)
  have z : ∀ (q : zPt), zC σ1 q → zC σ2 q := fun q h => h.ref fy.1 (fun c k hc => fr2 c k (by omega) (by omega))
  have m47 : ∀ n', σ1.1 47 2 = .int (Int32.ofNat n') → n' ≤ 12 → mM σ1 nx n' Ms := fun n' e hn => by
    obtain ⟨m1, m2, m3, m4, m5, m6, m7⟩ := m
    exact ⟨(fr _ _ (by omega) (by omega) (by omega) (by omega) (by omega) (by omega)).trans m1, fun i hi => (h3 _ _ (by omega) (by omega) (by omega)).trans (m2 i hi), (fr _ _ (by omega) (by omega) (by omega) (by omega) (by omega) (by omega)).trans m3, m4, e, hn, fun i hi => (m7 i hi).frl (ln _ (by omega)) (ln _ (by omega)) (fun c j q1 q2 => h3 c j (by omega) (by omega) (by omega))⟩
  have h22 : σ.2.2 ≤ σ1.2.2 := by rw [s1e.1]; exact f.1
  have ci : zCi σ1 p.2.2.2.2.1 := k7.frl h22 k9 ln (h0 6 (by omega)) (fun c k h1 h2 => h3 c k (by omega) (by omega) (by omega)) hc
  have dD : ∃ D, hH σ1 21 D := ⟨D, k3.frl (ln _ (by omega)) (ln _ (by omega)) (fun c j q1 q2 => h3 c j (by omega) (by omega) (by omega))⟩
  have sk : xSk σ1 := k1.of (fun q _ => h0 q (by omega))
  obtain ⟨⟨s1, s2, s3, s4, s5⟩, r2, r3, r4, r5, r6, r7, r8⟩ := R1
  have skr : rSk σ2 := ⟨(fr2 _ _ (by omega) (by omega)).trans s1, (fr2 _ _ (by omega) (by omega)).trans s2, (fr2 _ _ (by omega) (by omega)).trans s3, (fr2 _ _ (by omega) (by omega)).trans s4, (fr2 _ _ (by omega) (by omega)).trans s5⟩
  have im2 : zRim σ2 p.2.2.2.2.1 := r7.of (fr2 _ _ (by omega) (by omega)) (fun k _ => fr2 _ _ (by omega) (by omega))
  have ac2 : ∀ i, i < p.2.2.1.1 → ∀ k, k < 388 → σ2.1 210 (388 * i + k) = .int (p.2.2.1.2 i k) := fun i hi k hk => (fr2 _ _ (by omega) (by omega)).trans (r6 i hi k hk)
  cases Rs with
  | inr F =>
    obtain ⟨rfl, x1, x2, x3⟩ := xo
    obtain ⟨y1, y2, y3, y4, y5⟩ := yo
    obtain ⟨z1, z2, z3⟩ := gw' 1 3 8 47 7 4 5 6 2 bt E Q rfl
    rcases alts with ⟨v, q, -, -⟩ | ⟨-, r1, r2'⟩
    · cases q
    subst r2'
    refine ⟨⟨(p.1, p.2.1, (p.2.2.1.1, p.2.2.1.2), p.2.2.2.1, p.2.2.2.2.1, Int32.ofNat F), w, z _ ⟨sk, k2.fr z1 (fun c j q1 q2 => ?_), dD, ⟨nx, Ms, m47 _ (z3.trans m.2.2.2.2.1) w.2.2.1, fun i hi => ⟨(k4 i hi).1, ?_⟩⟩, k5.frl k6 ln z2 hc, k6.of (by rw [z1]; exact Nat.le_refl _), ci, x2, by rw [z1]; exact k9, by rw [z1]; exact k10⟩, ⟨skr, (fr2 _ _ (by omega) (by omega)).trans r2, ⟨skr.1, fun k hk => (y5 k (by omega)).trans (r3.2 k hk)⟩, r4.of (fun k _ hk => y5 k hk) rfl, y4.trans r5, ac2, im2, y3⟩⟩, _, y2, by rw [r1], fun h => ?_⟩
    · by_cases q5 : c = 8 ∧ j = 5
      · rw [q5.1, q5.2]; exact z2
      · exact fr c j (by omega) (by omega) (by omega) (by omega) q5 (by omega)
    · have l12 : mJ nx p.2.2.1.1 i < 12 := Nat.mod_lt _ (by omega)
      show σ1.1 (49 + 13 * mJ nx p.2.2.1.1 i) 5 = σ1.1 8 5
      rw [h3 _ _ (by omega) (by omega) (by omega), z2]
      exact (k4 i hi).2
    · rw [r1] at h
      exact absurd h (by decide)
  | inl q =>
    obtain ⟨ls, l⟩ := q
    obtain ⟨rfl, x1, x2, x3, x4, x5, x6⟩ := xo
    obtain ⟨y1, y2, y3, y4, y5, y6, y7, y8⟩ := yo
    rcases alts with ⟨v, q, r1, r2'⟩ | ⟨q, -, -⟩
    case inr => cases q
    cases q
    obtain ⟨hs1, hs2⟩ := hs (by rw [r1]; rfl)
    have gw := hR.wf x1 x2
    have e85 : σ1.1 8 5 = .ref σ.2.2 := (s1e.2 8 5 (by omega)).trans x4
    have cl : cLaw σ1 σ.2.2 ls l := x6.frl (by rw [s1e.1]) (fun c k q1 q2 => s1e.2 c k (by omega))
    have hB : hH σ1 8 (aU p.1 3 (Int32.ofInt 1)) := k2.w5 (ln _ (by omega)) (ln _ (by omega)) (fun c j q1 q2 q3 => fr c j (by omega) (by omega) (by omega) (by omega) (by omega) (by omega)) e85
    have hs3 : ∀ i, i ≠ 3 → aU p.1 3 (Int32.ofInt 1) i = p.1 i := fun i h => aU_ne h
    refine ⟨⟨(aU p.1 3 (Int32.ofInt 1), p.2.1, (0, p.2.2.1.2), some (σ.2.2, ls, l), p.2.2.2.2.1, Int32.ofInt (-1)), ⟨?_, ?_, Nat.zero_le _, fun i hi => absurd hi (Nat.not_lt_zero i), w.2.2.2.2⟩, z _ ⟨sk, hB, dD, ⟨nx, Ms, m47 0 ((s1e.2 _ _ (by omega)).trans x5) (by omega), fun i hi => absurd hi (Nat.not_lt_zero i)⟩, ⟨e85, k9, k10, cl, hs2, gw⟩, (by show σ.2.2 + 6 ≤ σ1.2.2; omega), ci, (s1e.2 _ _ (by omega)).trans x3, by omega, by omega⟩, ⟨skr, (fr2 _ _ (by omega) (by omega)).trans r2, ⟨skr.1, fun k hk => ?_⟩, ⟨(show aU p.1 3 (Int32.ofInt 1) 3 = _ from aU_at), y8, gw⟩, y5, fun i hi => absurd hi (Nat.not_lt_zero i), im2, y4⟩⟩, _, y3, by rw [r1], fun _ => ?_⟩
    · exact w.1.law
    · show 0 ≤ (aU p.1 3 (Int32.ofInt 1) 6).toInt
      rw [hs3 _ (by omega)]; exact w.2.1
    · by_cases q3 : k = 3
      · subst q3
        show σ2.1 206 3 = .int (aU p.1 3 (Int32.ofInt 1) 3)
        rw [aU_at]; exact y6
      · show σ2.1 206 k = .int (aU p.1 3 (Int32.ofInt 1) k)
        rw [hs3 _ q3, fr2 _ _ (by omega) (by omega)]; exact r3.2 k hk
    · rw [fr2 _ _ (by omega) (by omega), r2', y1]
      exact q_w_at _ _ _ _
end ZPD
end
section
/-! does and thing: the class and the reference answer alike -/
theorem zLik_v {σ1 σ2 : zSg} {k b v : Int32} (ek : k = Int32.ofInt 0) (f : rVF (r0 σ1) σ2) (h : σ1.1 218 0 = .long v.toInt64) (e : b = v) : zLik σ2 k b := by
  subst ek e
  refine ⟨_, (f.2 205 0 (by omega)).trans (q_w_at _ _ _ _), rfl, fun _ => ?_⟩
  rw [f.2 218 0 (by omega)]
  exact (q_w_ne (fun e _ => by omega)).trans h
theorem zHld_v {σ1 σ2 : zSg} {p : zPt} (w : zPw p) (K : zC σ1 p) (R : zRv σ1 p) (f : rVF (r0 σ1) σ2) : zHld σ2 := by
  have g : ∀ c k, c ≠ 213 → ¬ (c = 205 ∧ k = 0) → σ2.1 c k = σ1.1 c k := fun c k h1 h2 => (f.2 c k h1).trans (q_w_ne (fun e1 e2 => h2 ⟨e1, e2⟩))
  exact ⟨p, w, K.ref f.1 (fun c k q => g c k (by omega) (by omega)), R.fr (fun c k q => g c k (by unfold zRc at q; omega) (by unfold zRc at q; omega))⟩
theorem zq_7 {σ σ1 σ2 : zSg} {p : zPt} {a1 a2 a3 k b : Int32} (w : zPw p) (K : zC σ p) (R : zRv σ p) (G1 : p_319 0 a1 a2 a3 218 σ k σ1) (G2 : p_250 205 a1 a2 a3 σ1 b σ2) : zHld σ2 ∧ zLik σ2 k b := by
  obtain ⟨K1, R1⟩ := zc_7 (σ2 := σ2) w K R G1
  obtain ⟨e, τ, g, alts⟩ := G1
  have g0 := g rfl p.1 p.2.1.1 p.2.1.2 p.2.2.2.1 K.1 K.2.1 w.1 K.2.2.2.2.1
  have y := G2 rfl p.1 p.2.1.1 p.2.1.2 p.2.2.2.1 (R1.Ev w) w.1
  have k6 := w.1.1.2.1
  by_cases hv : (0 ≤ a1.toInt ∧ a1.toInt < (p.2.1.1 : Int)) ∧ (0 ≤ a2.toInt ∧ a2.toInt < 24)
  case neg =>
    obtain ⟨q1, q2⟩ := g0.1 hv
    subst q1
    rcases alts with ⟨v, q, -, -⟩ | ⟨-, r1, r2⟩ | ⟨q, -, -⟩
    · cases q
    · exact zq_err w K R (r2.trans q2) (y.1 hv).2 r1 (Or.inl rfl)
    · cases q
  obtain ⟨ex, lx⟩ := i_of hv.1 (by omega)
  obtain ⟨ey, ly⟩ := i_of (n := 24) hv.2 (by omega)
  have g1 := g0.2 _ _ ex lx ey ly
  have y1 := y.2 _ _ ex lx ey ly
  by_cases hw : 0 ≤ a3.toInt ∧ a3.toInt ≤ 1
  case neg =>
    obtain ⟨q1, q2⟩ := g1.1 hw
    subst q1
    rcases alts with ⟨v, q, -, -⟩ | ⟨q, -, -⟩ | ⟨-, r1, r2⟩
    · cases q
    · cases q
    · exact zq_err w K R (r2.trans q2) (y1.1 hw).2 r1 (Or.inr (Or.inl rfl))
  obtain ⟨-, q1⟩ := g1.2 hw
  obtain ⟨f2, x2⟩ := y1.2 hw
  subst q1
  rcases alts with ⟨v, q, r1, r2⟩ | ⟨q, -, -⟩ | ⟨q, -, -⟩
  · cases q
    exact ⟨zHld_v w K1 R1 f2, zLik_v r1 f2 (by rw [r2]; exact q_w_at _ _ _ _) x2⟩
  · cases q
  · cases q
theorem zq_8 {σ σ1 σ2 : zSg} {p : zPt} {a1 a2 k b : Int32} (w : zPw p) (K : zC σ p) (R : zRv σ p) (G1 : p_320 0 a1 a2 218 σ k σ1) (G2 : p_251 205 a1 a2 σ1 b σ2) : zHld σ2 ∧ zLik σ2 k b := by
  obtain ⟨K1, R1⟩ := zc_8 (σ2 := σ2) w K R G1
  obtain ⟨e, τ, g, alts⟩ := G1
  have g0 := g rfl p.1 p.2.1.1 p.2.1.2 p.2.2.2.1 K.1 K.2.1 w.1 K.2.2.2.2.1
  have y := G2 rfl p.1 p.2.1.1 p.2.1.2 p.2.2.2.1 (R1.Ev w) w.1
  have k6 := w.1.1.2.1
  have k8 := w.1.1.2.2.2.1
  by_cases hv : 0 ≤ a1.toInt ∧ a1.toInt < (p.2.1.2 : Int)
  case neg =>
    obtain ⟨q1, q2⟩ := g0.1 hv
    subst q1
    rcases alts with ⟨v, q, -, -⟩ | ⟨-, r1, r2⟩ | ⟨q, -, -⟩
    · cases q
    · exact zq_err w K R (r2.trans q2) (y.1 hv).2 r1 (Or.inl rfl)
    · cases q
  obtain ⟨ex, lx⟩ := i_of hv (by omega)
  have g1 := g0.2 _ ex lx
  have y1 := y.2 _ ex lx
  by_cases hw : 0 ≤ a2.toInt ∧ a2.toInt ≤ 3
  case neg =>
    obtain ⟨q1, q2⟩ := g1.1 hw
    subst q1
    rcases alts with ⟨v, q, -, -⟩ | ⟨q, -, -⟩ | ⟨-, r1, r2⟩
    · cases q
    · cases q
    · exact zq_err w K R (r2.trans q2) (y1.1 hw).2 r1 (Or.inr (Or.inl rfl))
  obtain ⟨-, c0, c1, c2, c3⟩ := g1.2 hw
  obtain ⟨y3, yk⟩ := y1.2 hw
  have done : ∀ v : Int32, e = .inl v → rVF (r0 σ1) σ2 → b = v → zHld σ2 ∧ zLik σ2 k b := fun v ev f2 x2 => by
    subst ev
    rcases alts with ⟨v', q, r1, r2⟩ | ⟨q, -, -⟩ | ⟨q, -, -⟩
    · cases q
      exact ⟨zHld_v w K1 R1 f2, zLik_v r1 f2 (by rw [r2]; exact q_w_at _ _ _ _) x2⟩
    · cases q
    · cases q
  have small : ∀ j : Nat, j < 3 → a2.toInt = (j : Int) → e = .inl (p.1 (64 + j + 3 * a1.toInt.toNat)) → zHld σ2 ∧ zLik σ2 k b := fun j hj ej ev => by
    obtain ⟨f2, x2⟩ := yk j hj (Int32.toInt_inj.mp (by rw [o32 (by omega)]; exact ej))
    exact done _ ev (by rw [f2]; exact ⟨rfl, fun _ _ _ => rfl⟩) x2
  by_cases h3 : a2.toInt = 3
  · obtain ⟨n, hn, en⟩ := w.1.2.2.2.2.2.1
    obtain ⟨F, hF, eF⟩ := w.1.2.2.1 _ lx
    obtain ⟨f2, x2⟩ := y3 h3 F n eF hF en hn
    exact done _ (c3 h3 F n eF hF en hn) f2 x2
  · by_cases h0 : a2.toInt = 0
    · exact small 0 (by omega) h0 (c0 h0)
    · by_cases h1 : a2.toInt = 1
      · exact small 1 (by omega) h1 (c1 h1)
      · have h2 : a2.toInt = 2 := by omega
        exact small 2 (by omega) h2 (c2 h2)
end
section
/-! holds, changes, gaps: the class and the reference answer alike -/
theorem zHld_r {σ : zSg} {p : zPt} (w : zPw p) (K : zC σ p) (R : zRv σ p) : zHld (r0 σ) := ⟨p, w, K.ref rfl (fun c k q => q_w_ne (fun e _ => by omega)), R.thr (c := 0)⟩
theorem zq_18 {σ σ1 σ2 : zSg} {p : zPt} {k b : Int32} (w : zPw p) (K : zC σ p) (R : zRv σ p) (G1 : p_136 0 σ k σ1) (G2 : p_274 205 σ1 b σ2) : zHld σ2 ∧ k = b := by
  obtain ⟨rfl, g1⟩ := G1 rfl K.1
  obtain ⟨rfl, g2⟩ := G2 rfl _ R.2.2.1
  exact ⟨zHld_r w K R, (g1 _ K.2.1).trans g2.symm⟩
theorem zq_20 {σ σ1 σ2 : zSg} {p : zPt} {k b : Int32} (w : zPw p) (K : zC σ p) (R : zRv σ p) (G1 : p_138 0 σ k σ1) (G2 : p_279 205 σ1 b σ2) : zHld σ2 ∧ k = b := by
  obtain ⟨rfl, g1⟩ := G1 rfl K.1
  obtain ⟨rfl, g2⟩ := G2 rfl _ R.2.2.1
  exact ⟨zHld_r w K R, (g1 _ _ _ K.2.1 w.1).trans g2.symm⟩
theorem zq_5 {σ σ1 σ2 : zSg} {p : zPt} {a1 k b : Int32} (w : zPw p) (K : zC σ p) (R : zRv σ p) (G1 : p_317 0 a1 218 σ k σ1) (G2 : p_248 205 a1 σ1 b σ2) : zHld σ2 ∧ zLik σ2 k b := by
  obtain ⟨e, τ, g, alts⟩ := G1
  obtain ⟨rfl, g1, g2⟩ := g rfl _ K.1 K.2.1
  have R1 : ∀ v, zRv (q_w τ 218 0 v) p := fun v => R.cls (fun c k h1 h2 => q_w_ne (fun e _ => by omega))
  by_cases hv : 0 ≤ a1.toInt ∧ a1.toInt < 24
  case neg =>
    have q1 := g1 hv
    subst q1
    rcases alts with ⟨v, q, -, -⟩ | ⟨-, r1, r2⟩
    · cases q
    · subst r2
      exact zq_err w K R rfl ((G2 rfl _ R.2.2.1).1 hv).2 r1 (Or.inl rfl)
  obtain ⟨ex, lx⟩ := i_of (n := 24) hv (by omega)
  have q1 := g2 _ ex lx
  subst q1
  rcases alts with ⟨v, q, r1, r2⟩ | ⟨q, -, -⟩
  · cases q
    subst r2
    obtain ⟨f2, x2⟩ := (G2 rfl _ (R1 _).2.2.1).2 _ ex lx
    have f : rVF (r0 (q_w τ 218 0 (.long (p.1 (16 + a1.toInt.toNat)).toInt64))) σ2 := by rw [f2]; exact ⟨rfl, fun _ _ _ => rfl⟩
    exact ⟨zHld_v w K.out (R1 _) f, zLik_v r1 f (q_w_at _ _ _ _) x2⟩
  · cases q
theorem zq_38 {σ σ1 σ2 : zSg} {p : zPt} {k b : Int32} (w : zPw p) (K : zC σ p) (R : zRv σ p) (G1 : p_156 0 σ k σ1) (G2 : p_302 205 σ1 b σ2) : zHld σ2 ∧ k = b := by
  obtain ⟨rfl, g1⟩ := G1 rfl K.1 _ _ _ K.2.1 w.1
  obtain ⟨rfl, g2⟩ := G2 rfl _ _ _ R.2.2.1 w.1
  obtain ⟨n, hn, en⟩ := w.1.2.2.2.2.2.1
  exact ⟨zHld_r w K R, (g1 n en hn).trans (g2 n en hn).symm⟩
theorem zq_32 {σ σ1 σ2 : zSg} {p : zPt} {k b : Int32} (w : zPw p) (K : zC σ p) (R : zRv σ p) (G1 : p_150 0 σ k σ1) (G2 : p_280 205 σ1 b σ2) : zHld σ2 ∧ k = b := by
  obtain ⟨rfl, g1⟩ := G1 rfl K.1
  obtain ⟨rfl, g2⟩ := G2 rfl _ _ _ R.2.2.1 w.1
  exact ⟨zHld_r w K R, (g1 _ _ _ K.2.1 w.1).trans g2.symm⟩
theorem zq_37 {σ σ1 σ2 : zSg} {p : zPt} {k b : Int32} (w : zPw p) (K : zC σ p) (R : zRv σ p) (G1 : p_155 0 σ k σ1) (G2 : p_301 205 σ1 b σ2) : zHld σ2 ∧ k = b := by
  obtain ⟨rfl, g1⟩ := G1 rfl K.1
  obtain ⟨rfl, g2⟩ := G2 rfl _ _ _ R.2.2.1 w.1
  exact ⟨zHld_r w K R, (g1 _ _ _ K.2.1 w.1).trans g2.symm⟩
end
section
/-! log, led: the class and the reference answer alike -/
theorem zq_fin {σ σ1 σ2 τ : zSg} {p : zPt} {k b v : Int32} (w : zPw p) (K : zC σ p) (R : zRv σ p) (q1 : τ = σ) (r1 : k = Int32.ofInt 0) (r2 : σ1 = q_w τ 218 0 (.long v.toInt64)) (F : zC σ1 p → zRv σ1 p → rVF (r0 σ1) σ2 ∧ b = v) : zHld σ2 ∧ zLik σ2 k b := by
  have K1 : zC σ1 p := by rw [r2, q1]; exact K.out
  have R1 : zRv σ1 p := by rw [r2, q1]; exact R.cls (fun c k h1 h2 => q_w_ne (fun e _ => by omega))
  obtain ⟨f, e⟩ := F K1 R1
  exact ⟨zHld_v w K1 R1 f, zLik_v r1 f (by rw [r2]; exact q_w_at _ _ _ _) e⟩
theorem zq_bad {c : Int} {σ σ1 σ2 τ : zSg} {p : zPt} {k b : Int32} (w : zPw p) (K : zC σ p) (R : zRv σ p) (q1 : τ = σ) (r2 : σ1 = τ) (r1 : k = Int32.ofInt c) (hc : c = 1 ∨ c = 2 ∨ c = 3) (F : zRv σ1 p → σ2 = rTh σ1 c) : zHld σ2 ∧ zLik σ2 k b := by
  have e : σ1 = σ := r2.trans q1
  exact zq_err w K R e (F (by rw [e]; exact R)) r1 hc
theorem rVF_0 {σ τ : zSg} (h : τ = r0 σ) : rVF (r0 σ) τ := by rw [h]; exact ⟨rfl, fun _ _ _ => rfl⟩
theorem zq_42 {σ σ1 σ2 : zSg} {p : zPt} {a1 a2 k b : Int32} (w : zPw p) (K : zC σ p) (R : zRv σ p) (G1 : p_342 0 a1 a2 218 σ k σ1) (G2 : p_308 205 a1 a2 σ1 b σ2) : zHld σ2 ∧ zLik σ2 k b := by
  obtain ⟨e, τ, g, alts⟩ := G1
  obtain ⟨s, hs, es⟩ := w.1.2.2.2.2.2.2.1
  have g0 := g rfl p.1 s K.1 K.2.1 es hs
  by_cases hv : 0 ≤ a2.toInt ∧ a2.toInt < 5
  case neg =>
    obtain ⟨q1, q2⟩ := g0.1 hv
    subst q1
    rcases alts with ⟨v, q, -, -⟩ | ⟨-, r1, r2⟩
    · cases q
    · exact zq_bad w K R q2 r2 r1 (Or.inl rfl) (fun R1 => ((G2 rfl _ s R1.2.2.1 es hs).1 hv).2)
  obtain ⟨q1, v, q2, q3⟩ := g0.2 hv
  subst q2
  rcases alts with ⟨v', q, r1, r2⟩ | ⟨q, -, -⟩
  · cases q
    refine zq_fin w K R q1 r1 r2 (fun _ R1 => ?_)
    obtain ⟨f2, x2⟩ := (G2 rfl _ s R1.2.2.1 es hs).2 hv
    exact ⟨rVF_0 f2, x2.eq q3 hs hv⟩
  · cases q
theorem zq_41 {σ σ1 σ2 : zSg} {p : zPt} {a1 a2 k b : Int32} (w : zPw p) (K : zC σ p) (R : zRv σ p) (G1 : p_341 0 a1 a2 218 σ k σ1) (G2 : p_307 205 a1 a2 σ1 b σ2) : zHld σ2 ∧ zLik σ2 k b := by
  obtain ⟨e, τ, g, alts⟩ := G1
  obtain ⟨s, hs, es⟩ := w.1.2.2.2.2.2.2.1
  have g0 := g rfl p.1 _ s K.1 K.2.1 w.1.1.1 w.1.1.2.1 es hs
  by_cases hv : 0 ≤ a1.toInt ∧ a1.toInt < (p.2.1.1 : Int)
  case neg =>
    obtain ⟨q1, q2⟩ := g0.1 hv
    subst q1
    rcases alts with ⟨v, q, -, -⟩ | ⟨-, r1, r2⟩
    · cases q
    · exact zq_bad w K R q2 r2 r1 (Or.inl rfl) (fun R1 => ((G2 rfl _ _ s R1.2.2.1 w.1.1.1 w.1.1.2.1 es hs).1 hv).2)
  obtain ⟨q1, q2, q3⟩ := g0.2 hv
  by_cases hd : a2.toInt = 0
  · have q2 := q2 hd
    subst q2
    rcases alts with ⟨v', q, r1, r2⟩ | ⟨q, -, -⟩
    · cases q
      refine zq_fin w K R q1 r1 r2 (fun _ R1 => ?_)
      obtain ⟨f2, x2, -⟩ := (G2 rfl _ _ s R1.2.2.1 w.1.1.1 w.1.1.2.1 es hs).2 hv
      exact ⟨rVF_0 f2, x2 hd⟩
    · cases q
  · obtain ⟨v, q2, q4⟩ := q3 hd
    subst q2
    rcases alts with ⟨v', q, r1, r2⟩ | ⟨q, -, -⟩
    · cases q
      refine zq_fin w K R q1 r1 r2 (fun _ R1 => ?_)
      obtain ⟨f2, -, x2⟩ := (G2 rfl _ _ s R1.2.2.1 w.1.1.1 w.1.1.2.1 es hs).2 hv
      exact ⟨rVF_0 f2, (x2 hd).eq q4⟩
    · cases q
end
section
/-! common, met, lovers: the class and the reference answer alike -/
theorem zq_29 {σ σ1 σ2 : zSg} {p : zPt} {k b : Int32} (w : zPw p) (K : zC σ p) (R : zRv σ p) (G1 : p_147 0 σ k σ1) (G2 : p_300 205 σ1 b σ2) : zHld σ2 ∧ k = b := by
  obtain ⟨rfl, g1⟩ := G1 rfl K.1
  obtain ⟨rfl, g2⟩ := G2 rfl _ _ R.2.2.1 w.1.1.1 w.1.1.2.1
  exact ⟨zHld_r w K R, (g1 _ _ K.2.1 w.1.1.1 w.1.1.2.1).trans g2.symm⟩
theorem zq_30 {σ σ1 σ2 : zSg} {p : zPt} {k b : Int32} (w : zPw p) (K : zC σ p) (R : zRv σ p) (G1 : p_148 0 σ k σ1) (G2 : p_278 205 σ1 b σ2) : zHld σ2 ∧ k = b := by
  obtain ⟨rfl, g1⟩ := G1 rfl K.1
  obtain ⟨rfl, g2⟩ := G2 rfl _ _ _ R.2.2.1 w.1
  exact ⟨zHld_r w K R, (g1 _ _ _ K.2.1 w.1).trans g2.symm⟩
theorem zq_19 {σ σ1 σ2 : zSg} {p : zPt} {a1 a2 k b : Int32} (w : zPw p) (K : zC σ p) (R : zRv σ p) (G1 : p_329 0 a1 a2 218 σ k σ1) (G2 : p_277 205 a1 a2 σ1 b σ2) : zHld σ2 ∧ zLik σ2 k b := by
  obtain ⟨e, τ, g, alts⟩ := G1
  obtain ⟨q0, g1, g2⟩ := g rfl p.1 _ _ K.1 K.2.1 w.1
  have k6 := w.1.1.2.1
  have y := fun (R1 : zRv σ1 p) => G2 rfl _ _ R1.2.2.1 w.1.1.1 w.1.1.2.1
  by_cases hv : (0 ≤ a1.toInt ∧ a1.toInt < (p.2.1.1 : Int)) ∧ (0 ≤ a2.toInt ∧ a2.toInt < (p.2.1.1 : Int))
  case neg =>
    have q1 := g1 hv
    subst q1
    rcases alts with ⟨v, q, -, -⟩ | ⟨-, r1, r2⟩ | ⟨q, -, -⟩
    · cases q
    · exact zq_bad w K R q0 r2 r1 (Or.inl rfl) (fun R1 => ((y R1).1 hv).2)
    · cases q
  by_cases hd : a1.toInt = a2.toInt
  · have q1 := (g2 hv).1 hd
    subst q1
    rcases alts with ⟨v, q, -, -⟩ | ⟨q, -, -⟩ | ⟨-, r1, r2⟩
    · cases q
    · cases q
    · exact zq_bad w K R q0 r2 r1 (Or.inr (Or.inl rfl)) (fun R1 => (((y R1).2 hv).1 hd).2)
  · obtain ⟨F, hF, eF⟩ := i_ex hv.1 (by omega)
    obtain ⟨G, hG, eG⟩ := i_ex hv.2 (by omega)
    have q1 := (g2 hv).2 hd F G eF hF eG hG
    subst q1
    rcases alts with ⟨v, q, r1, r2⟩ | ⟨q, -, -⟩ | ⟨q, -, -⟩
    · cases q
      refine zq_fin w K R q0 r1 r2 (fun _ R1 => ?_)
      obtain ⟨f2, x2⟩ := ((y R1).2 hv).2 hd
      refine ⟨rVF_0 f2, ?_⟩
      rw [x2, eF, eG]
      rfl
    · cases q
    · cases q
theorem zq_23 {σ σ1 σ2 : zSg} {p : zPt} {k b : Int32} (w : zPw p) (K : zC σ p) (R : zRv σ p) (G1 : p_141 0 σ k σ1) (G2 : p_281 205 σ1 b σ2) : zHld σ2 ∧ k = b := by
  obtain ⟨rfl, g1⟩ := G1 rfl K.1
  obtain ⟨rfl, g2⟩ := G2 rfl _ _ _ R.2.2.1 w.1
  exact ⟨zHld_r w K R, (g1 _ _ _ K.2.1 w.1).trans g2.symm⟩
theorem zq_24 {σ σ1 σ2 : zSg} {p : zPt} {a1 k b : Int32} (w : zPw p) (K : zC σ p) (R : zRv σ p) (G1 : p_142 0 a1 σ k σ1) (G2 : p_293 205 a1 σ1 b σ2) : zHld σ2 ∧ k = b := by
  obtain ⟨rfl, g1⟩ := G1 rfl K.1
  obtain ⟨rfl, g2⟩ := G2 rfl _ _ _ R.2.2.1 w.1
  exact ⟨zHld_r w K R, (g1 _ _ K.2.1 w.1.1.1 w.1.1.2.1).trans g2.symm⟩
end
section
/-! trial, span: the class and the reference answer alike -/
theorem zq_sb {σ σ1 σ2 τ : zSg} {p : zPt} {k b v : Int32} (w : zPw p) (K : zC σ p) (R : zRv σ p) (q1 : τ = σ) (r1 : k = Int32.ofInt 0) (r2 : σ1 = q_w τ 218 0 (.long v.toInt64)) (F : zRv σ1 p → rKF σ1 σ2 ∧ b = v) : zHld σ2 ∧ zLik σ2 k b := by
  have K1 : zC σ1 p := by rw [r2, q1]; exact K.out
  have R1 : zRv σ1 p := by rw [r2, q1]; exact R.cls (fun c k h1 h2 => q_w_ne (fun e _ => by omega))
  obtain ⟨f, e⟩ := F R1
  refine ⟨zq_see w K1 R1 f, _, f.2.2, by rw [r1], fun _ => ?_⟩
  rw [f.2.1 218 0 (by omega) (by omega) (by omega), r2, e]
  exact q_w_at _ _ _ _
theorem zq_39w {σ σ1 σ2 : zSg} {p : zPt} {a1 a2 k b : Int32} (w : zPw p) (K : zC σ p) (R : zRv σ p) (G1 : p_339w 0 a1 a2 218 σ k σ1) (G2 : p_304w 205 a1 a2 σ1 b σ2) : zHld σ2 ∧ zLik σ2 k b := by
  obtain ⟨e, τ, g, alts⟩ := G1
  have g0 := g rfl p.1 p.2.1.1 p.2.1.2 p.2.2.2.1 (K.Dp w)
  have y := fun (R1 : zRv σ1 p) => G2 rfl p.1 p.2.1.1 p.2.1.2 p.2.2.2.1 (R1.Dp w)
  by_cases hv : 0 ≤ a1.toInt ∧ a1.toInt ≤ 200
  case neg =>
    obtain ⟨q1, q2⟩ := g0.1 hv
    subst q1
    rcases alts with ⟨v, q, -, -⟩ | ⟨-, r1, r2⟩
    · cases q
    · exact zq_bad w K R q2 r2 r1 (Or.inl rfl) (fun R1 => ((y R1).1 hv).2)
  obtain ⟨N, hN, eN⟩ := i_ex (n := 201) (a := a1) ⟨hv.1, by omega⟩ (by omega)
  by_cases hw : a2.toInt = 0
  · obtain ⟨q1, q2⟩ := (g0.2 N eN (by omega)).1 hw
    subst q2
    rcases alts with ⟨v, q, r1, r2⟩ | ⟨q, -, -⟩
    · cases q
      refine zq_sb w K R q1 r1 r2 (fun R1 => ?_)
      obtain ⟨f, z⟩ := (y R1).2 hv
      exact ⟨f, ((z N eN (by omega)).1 hw).trans (fSq_e w.1 N)⟩
    · cases q
  · obtain ⟨⟨B, D⟩, q2⟩ := (g0.2 N eN (by omega)).2 hw
    subst q2
    rcases alts with ⟨v, q, r1, r2⟩ | ⟨q, -, -⟩
    · subst r1
      cases q
      refine zq_sa w K R D r2 rfl (fun R1 => ?_)
      obtain ⟨f, z⟩ := (y R1).2 hv
      exact ⟨f, (z N eN (by omega)).2 hw⟩
    · cases q
theorem zq_40w {σ σ1 σ2 : zSg} {p : zPt} {a1 a2 k b : Int32} (w : zPw p) (K : zC σ p) (R : zRv σ p) (G1 : p_340w 0 a1 a2 218 σ k σ1) (G2 : p_305w 205 a1 a2 σ1 b σ2) : zHld σ2 ∧ zLik σ2 k b := by
  obtain ⟨e, τ, g, alts⟩ := G1
  obtain ⟨q0, g1, g2⟩ := g rfl p.1 p.2.1.1 p.2.1.2 p.2.2.2.1 (K.Dp w)
  have y := fun (R1 : zRv σ1 p) => G2 rfl p.1 p.2.1.1 p.2.1.2 p.2.2.2.1 (R1.Dp w)
  by_cases hv : 0 ≤ a1.toInt ∧ a1.toInt ≤ 200
  case neg =>
    have q1 := g1 hv
    subst q1
    rcases alts with ⟨v, q, -, -⟩ | ⟨-, r1, r2⟩
    · cases q
    · exact zq_bad w K R q0 r2 r1 (Or.inl rfl) (fun R1 => ((y R1).1 hv).2)
  obtain ⟨N, hN, eN⟩ := i_ex (n := 201) (a := a1) ⟨hv.1, by omega⟩ (by omega)
  have q2 := g2 N eN (by omega)
  subst q2
  rcases alts with ⟨v, q, r1, r2⟩ | ⟨q, -, -⟩
  · cases q
    refine zq_sb w K R q0 r1 r2 (fun R1 => ?_)
    obtain ⟨f, z⟩ := (y R1).2 hv
    refine ⟨f, z.trans ?_⟩
    rw [eN, o32 (by omega), Int.toNat_natCast]
  · cases q
end
section
/-! family: the class and the reference answer alike -/
theorem zq_6 {σ σ1 σ2 : zSg} {p : zPt} {a1 a2 k b : Int32} (w : zPw p) (K : zC σ p) (R : zRv σ p) (G1 : p_318 0 a1 a2 218 σ k σ1) (G2 : p_249 205 a1 a2 σ1 b σ2) : zHld σ2 ∧ zLik σ2 k b := by
  obtain ⟨e, τ, g, alts⟩ := G1
  obtain ⟨q0, g1, g2⟩ := g rfl p.1 _ _ K.1 K.2.1 w.1
  have k6 := w.1.1.2.1
  have y := fun (R1 : zRv σ1 p) => G2 rfl _ _ _ R1.2.2.1 w.1
  by_cases hv : 0 ≤ a1.toInt ∧ a1.toInt < (p.2.1.1 : Int)
  case neg =>
    have q1 := g1 hv
    subst q1
    rcases alts with ⟨v, q, -, -⟩ | ⟨-, r1, r2⟩ | ⟨q, -, -⟩
    · cases q
    · exact zq_bad w K R q0 r2 r1 (Or.inl rfl) (fun R1 => ((y R1).1 hv).2)
    · cases q
  obtain ⟨F, hF, eF⟩ := i_ex hv (by omega)
  by_cases hw : 0 ≤ a2.toInt ∧ a2.toInt ≤ 8
  case neg =>
    have q1 := (g2 F eF hF).1 hw
    subst q1
    rcases alts with ⟨v, q, -, -⟩ | ⟨q, -, -⟩ | ⟨-, r1, r2⟩
    · cases q
    · cases q
    · exact zq_bad w K R q0 r2 r1 (Or.inr (Or.inl rfl)) (fun R1 => (((y R1).2 F eF hF).1 hw).2)
  obtain ⟨v, q1, q2⟩ := (g2 F eF hF).2 hw
  subst q1
  rcases alts with ⟨v', q, r1, r2⟩ | ⟨q, -, -⟩ | ⟨q, -, -⟩
  · cases q
    refine zq_fin w K R q0 r1 r2 (fun _ R1 => ?_)
    obtain ⟨f2, x2⟩ := ((y R1).2 F eF hF).2 hw
    exact ⟨rVF_0 f2, x2.eq q2 hw⟩
  · cases q
  · cases q
end
section
/-! trade: the class and the reference answer alike -/
theorem zq_22 {σ σ1 σ2 : zSg} {p : zPt} {k b : Int32} (w : zPw p) (K : zC σ p) (R : zRv σ p) (G1 : p_140 0 σ k σ1) (G2 : p_290 205 σ1 b σ2) : zHld σ2 ∧ k = b := by
  obtain ⟨rfl, g1⟩ := G1 rfl K.1
  obtain ⟨rfl, g2⟩ := G2 rfl _ _ _ R.2.2.1 w.1
  exact ⟨zHld_r w K R, (g1 _ _ _ K.2.1 w.1).trans g2.symm⟩
end
section
/-! lesson: the class and the reference answer alike -/
theorem zq_31 {σ σ1 σ2 : zSg} {p : zPt} {a1 k b : Int32} (w : zPw p) (K : zC σ p) (R : zRv σ p) (G1 : p_334 0 a1 218 σ k σ1) (G2 : p_284 205 a1 σ1 b σ2) : zHld σ2 ∧ zLik σ2 k b := by
  obtain ⟨e, τ, g, alts⟩ := G1
  obtain ⟨q0, g1, g2⟩ := g rfl _ _ _ K.1 K.2.1 w.1
  have y := fun (R1 : zRv σ1 p) => G2 rfl _ _ _ R1.2.2.1 w.1
  by_cases hv : 1 ≤ a1.toInt ∧ a1.toInt ≤ 24
  case neg =>
    have q1 := g1 hv
    subst q1
    rcases alts with ⟨v, q, -, -⟩ | ⟨-, r1, r2⟩
    · cases q
    · exact zq_bad w K R q0 r2 r1 (Or.inl rfl) (fun R1 => ((y R1).1 hv).2)
  obtain ⟨N, hN, eN⟩ := i_ex (n := 25) (a := a1) ⟨by omega, by omega⟩ (by omega)
  have h1 : 1 ≤ N := by rw [eN, o32 (by omega)] at hv; omega
  obtain ⟨v, q1, q2⟩ := g2 N eN h1 (by omega)
  subst q1
  rcases alts with ⟨v', q, r1, r2⟩ | ⟨q, -, -⟩
  · cases q
    refine zq_fin w K R q0 r1 r2 (fun _ R1 => ?_)
    obtain ⟨f2, x2⟩ := (y R1).2 N eN h1 (by omega)
    exact ⟨rVF_0 f2, x2.eq q2⟩
  · cases q
end
section
/-! corner: the class and the reference answer alike -/
noncomputable def sG (c f t : Int32) : Nat → Int32
  | 0 => Int32.ofInt 0
  | n + 1 => sG c f t n + (if Int32.ofNat n = f then Int32.ofInt 0 else if Int32.ofNat n = c then t else Int32.ofInt 0)
theorem sG_0 {c f t : Int32} : ∀ n, (∀ G, G < n → Int32.ofNat G = f ∨ Int32.ofNat G ≠ c) → sG c f t n = Int32.ofInt 0
  | 0, _ => rfl
  | n + 1, h => by
    show sG c f t n + _ = _
    rw [sG_0 n (fun G hG => h G (by omega))]
    rcases h n (by omega) with q | q
    · rw [if_pos q]; rfl
    · by_cases z : Int32.ofNat n = f
      · rw [if_pos z]; rfl
      · rw [if_neg z, if_neg q]; rfl
theorem sG_1 {f t : Int32} {G : Nat} (hf : Int32.ofNat G ≠ f) (h6 : G < 900) : ∀ n, n ≤ 900 → G < n → sG (Int32.ofNat G) f t n = t
  | 0, _, q => absurd q (Nat.not_lt_zero G)
  | n + 1, hn, q => by
    show sG (Int32.ofNat G) f t n + _ = _
    by_cases e : G = n
    · subst e
      rw [sG_0 G (fun K hK => Or.inr (fun z => by
        have := congrArg Int32.toInt z
        rw [o32 (by omega), o32 (by omega)] at this
        omega)), if_neg hf, if_pos rfl]
      exact Int32.zero_add _
    · rw [sG_1 hf h6 n (by omega) (by omega)]
      have ne : Int32.ofNat n ≠ Int32.ofNat G := fun z => by
        have := congrArg Int32.toInt z
        rw [o32 (by omega), o32 (by omega)] at this
        omega
      by_cases z : Int32.ofNat n = f
      · rw [if_pos z]; exact Int32.add_zero _
      · rw [if_neg z, if_neg ne]; exact Int32.add_zero _
noncomputable def cC (A : Nat → Int32) : Nat → Nat
  | 0 => 0
  | n + 1 => cC A n + (if A (16 + n) = A (16 + (n + 1) % 24) then 0 else 1)
theorem cC_le (A : Nat → Int32) : ∀ n, cC A n ≤ n
  | 0 => Nat.le_refl _
  | n + 1 => by
    have := cC_le A n
    show cC A n + (if A (16 + n) = A (16 + (n + 1) % 24) then 0 else 1) ≤ n + 1
    split <;> omega
theorem fCh_c (A : Nat → Int32) : ∀ n, n ≤ 24 → fCh A n = Int32.ofNat (cC A n)
  | 0, _ => rfl
  | n + 1, hn => by
    have := cC_le A n
    show fCh A n + (if A (16 + n) = A (16 + (n + 1) % 24) then Int32.ofInt 0 else Int32.ofInt 1) = Int32.ofNat (cC A n + (if A (16 + n) = A (16 + (n + 1) % 24) then 0 else 1))
    rw [fCh_c A n (by omega)]
    by_cases q : A (16 + n) = A (16 + (n + 1) % 24)
    · rw [if_pos q, if_pos q]; exact Int32.add_zero _
    · rw [if_neg q, if_neg q]; exact o32i (by omega)
theorem cC_z {A : Nat → Int32} : ∀ (n : Nat), cC A n = 0 → ∀ h, h < n → A (16 + h) = A (16 + (h + 1) % 24)
  | 0, _, h, q => absurd q (Nat.not_lt_zero h)
  | n + 1, e, h, q => by
    have e : cC A n + (if A (16 + n) = A (16 + (n + 1) % 24) then 0 else 1) = 0 := e
    by_cases z : h = n
    · subst z
      by_cases y : A (16 + h) = A (16 + (h + 1) % 24)
      · exact y
      · rw [if_neg y] at e; omega
    · exact cC_z n (by omega) h (by omega)
theorem fCh_0 {A : Nat → Int32} (e : fCh A 24 = Int32.ofInt 0) : ∀ h, h < 24 → A (16 + h) = A (16 + 0)
  | 0, _ => rfl
  | h + 1, hh => by
    have c0 : cC A 24 = 0 := by
      have l := cC_le A 24
      rw [fCh_c A 24 (by omega)] at e
      have := congrArg Int32.toInt e
      rw [o32 (by omega), show (Int32.ofInt 0).toInt = 0 from rfl] at this
      omega
    have := cC_z _ c0 h (by omega)
    rw [Nat.mod_eq_of_lt hh] at this
    rw [← this]
    exact fCh_0 e h (by omega)
theorem fCh_1 {A : Nat → Int32} {c : Int32} (e : ∀ h, h < 24 → A (16 + h) = c) : ∀ n, n ≤ 24 → fCh A n = Int32.ofInt 0
  | 0, _ => rfl
  | n + 1, hn => by
    show fCh A n + (if A (16 + n) = A (16 + (n + 1) % 24) then Int32.ofInt 0 else Int32.ofInt 1) = _
    rw [fCh_1 e n (by omega), if_pos ((e n (by omega)).trans (e _ (Nat.mod_lt _ (by omega))).symm)]
    rfl
theorem fB_t : fB (fun _ => true) 24 = Int32.ofInt 16777215 := by decide +kernel
theorem fB_all {P : Nat → Bool} : fB P 24 = Int32.ofInt 16777215 ↔ ∀ h, h < 24 → P h = true := by
  constructor
  · intro e h hh
    have b := fB_bit (P := P) (i := h) (by omega) 24 (by omega)
    have c := fB_bit (P := fun _ => true) (i := h) (by omega) 24 (by omega)
    rw [e, ← fB_t, c, decide_eq_true hh, Bool.true_and, Bool.true_and] at b
    exact b.symm
  · intro e
    rw [fB_cg (Q := fun _ => true) 24 e, fB_t]
theorem fPs_0 {P : Nat → Bool} : ∀ n, (∀ h, h < n → P h = false) → fPs P n = Int32.ofInt 0
  | 0, _ => rfl
  | n + 1, e => by
    show fPs P n + fPg P n = _
    unfold fPg
    rw [fPs_0 n (fun h hh => e h (by omega)), if_neg (fun q => by rw [e n (by omega)] at q; cases q.1)]
    rfl
/-- all hours are one's -/
theorem fPo_a {A : Nat → Int32} {c f : Int32} (e : ∀ h, h < 24 → A (16 + h) = c) : ∀ n, fPo A f n = sG c f (Int32.ofInt 12) n
  | 0 => rfl
  | n + 1 => by
    show fPo A f n + _ = sG c f (Int32.ofInt 12) n + _
    rw [fPo_a e n]
    by_cases z : Int32.ofNat n = f
    · rw [if_pos z, if_pos z]
    · rw [if_neg z, if_neg z]
      by_cases y : Int32.ofNat n = c
      · rw [if_pos y]
        unfold fPt
        rw [if_pos (show fB (fPh A (Int32.ofNat n)) 24 = Int32.ofInt 16777215 from fB_all.mpr (fun h hh => decide_eq_true ((e h hh).trans y.symm)))]
      · rw [if_neg y]
        unfold fPt
        have p0 : ∀ h, h < 24 → fPh A (Int32.ofNat n) h = false := fun h hh => decide_eq_false (fun q => y (q.symm.trans (e h hh)))
        rw [if_neg (show ¬ fB (fPh A (Int32.ofNat n)) 24 = Int32.ofInt 16777215 from fun q => by
          have := fB_all.mp q 0 (by omega)
          rw [p0 0 (by omega)] at this
          cases this), fPs_0 24 p0]
/-- several have hours: the sums the other way round -/
noncomputable def fDs (A : Nat → Int32) (f : Int32) (m : Nat) : Nat → Int32
  | 0 => Int32.ofInt 0
  | n + 1 => fDs A f m n + (if Int32.ofNat n = f then Int32.ofInt 0 else fPs (fPh A (Int32.ofNat n)) m)
theorem fDs_0 (A : Nat → Int32) (f : Int32) : ∀ n, fDs A f 0 n = Int32.ofInt 0
  | 0 => rfl
  | n + 1 => by
    show fDs A f 0 n + _ = _
    rw [fDs_0 A f n]
    by_cases z : Int32.ofNat n = f
    · rw [if_pos z]; rfl
    · rw [if_neg z]; rfl
theorem fDs_o {A : Nat → Int32} {f : Int32} (e : ∀ c, ¬ ∀ h, h < 24 → A (16 + h) = c) : ∀ n, fPo A f n = fDs A f 24 n
  | 0 => rfl
  | n + 1 => by
    show fPo A f n + _ = fDs A f 24 n + _
    rw [fDs_o e n]
    by_cases z : Int32.ofNat n = f
    · rw [if_pos z, if_pos z]
    · rw [if_neg z, if_neg z]
      unfold fPt
      rw [if_neg (show ¬ fB (fPh A (Int32.ofNat n)) 24 = Int32.ofInt 16777215 from fun q => e (Int32.ofNat n) (fun h hh => of_decide_eq_true (fB_all.mp q h hh)))]
noncomputable def fTt (A : Nat → Int32) (m : Nat) : Int32 := if A (16 + (m + 23) % 24) = A (16 + m) then Int32.ofInt 0 else fHf A m
theorem i_ac (a b c d : Int32) : (a + b) + (c + d) = (a + c) + (b + d) := by
  rw [Int32.add_assoc, Int32.add_assoc, ← Int32.add_assoc b c d, Int32.add_comm b c, Int32.add_assoc c b d]
theorem fDs_s (A : Nat → Int32) (f : Int32) (m : Nat) : ∀ n, fDs A f (m + 1) n = fDs A f m n + sG (A (16 + m)) f (fTt A m) n
  | 0 => rfl
  | n + 1 => by
    show fDs A f (m + 1) n + _ = (fDs A f m n + _) + (sG (A (16 + m)) f (fTt A m) n + _)
    rw [fDs_s A f m n, i_ac]
    congr 1
    by_cases z : Int32.ofNat n = f
    · rw [if_pos z, if_pos z, if_pos z]; rfl
    · rw [if_neg z, if_neg z, if_neg z]
      show fPs (fPh A (Int32.ofNat n)) m + fPg (fPh A (Int32.ofNat n)) m = fPs (fPh A (Int32.ofNat n)) m + _
      congr 1
      unfold fPg fTt
      by_cases y : Int32.ofNat n = A (16 + m)
      · rw [if_pos y]
        by_cases x : A (16 + (m + 23) % 24) = A (16 + m)
        · rw [if_pos x, if_neg (fun q => by
            have := of_decide_eq_false q.2
            exact this (x.trans y.symm))]
        · rw [if_neg x, if_pos ⟨decide_eq_true y.symm, decide_eq_false (fun q => x (q.trans y))⟩, y]
          rfl
      · rw [if_neg y, if_neg (fun q => y (of_decide_eq_true q.1).symm)]
theorem fDs_c {A : Nat → Int32} {f : Int32} {nf nt : Nat} (I : aI nf nt A) : ∀ m, m ≤ 24 → fDs A f m nf = fCs A f m
  | 0, _ => fDs_0 A f nf
  | m + 1, hm => by
    have k6 := I.1.2.1
    rw [fDs_s, fDs_c I m (by omega)]
    show fCs A f m + _ = fCs A f m + fCg A f m
    congr 1
    unfold fCg
    rcases I.2.1 m (by omega) with w | ⟨G, hG, w⟩
    · rw [if_pos (Or.inl w), sG_0 nf (fun K hK => Or.inr (fun q => by
        have := congrArg Int32.toInt (q.trans w)
        rw [o32 (by omega), show (Int32.ofInt (-1)).toInt = -1 from rfl] at this
        omega))]
    · have n1 : A (16 + m) ≠ Int32.ofInt (-1) := fun q => by
        have := congrArg Int32.toInt (w.symm.trans q)
        rw [o32 (by omega), show (Int32.ofInt (-1)).toInt = -1 from rfl] at this
        omega
      by_cases z : A (16 + m) = f
      · rw [if_pos (Or.inr (Or.inl z)), sG_0 nf (fun K hK => by
          by_cases y : Int32.ofNat K = A (16 + m)
          · exact Or.inl (y.trans z)
          · exact Or.inr y)]
      · rw [w, sG_1 (by rw [← w]; exact z) (by omega) nf (by omega) hG, ← w]
        unfold fTt
        by_cases x : A (16 + (m + 23) % 24) = A (16 + m)
        · rw [if_pos x, if_pos (Or.inr (Or.inr x))]
        · rw [if_neg x, if_neg (fun q => by
            rcases q with q | q | q
            · exact n1 q
            · exact z q
            · exact x q)]
theorem fCz_e {A : Nat → Int32} {f : Int32} {nf nt : Nat} (I : aI nf nt A) : fCz A f = fPo A f nf := by
  have k6 := I.1.2.1
  unfold fCz
  by_cases e : fCh A 24 = Int32.ofInt 0
  · rw [if_pos e, fPo_a (fCh_0 e) nf]
    rcases I.2.1 0 (by omega) with w | ⟨G, hG, w⟩
    · rw [if_pos (Or.inl w), sG_0 nf (fun K hK => Or.inr (fun q => by
        have := congrArg Int32.toInt (q.trans w)
        rw [o32 (by omega), show (Int32.ofInt (-1)).toInt = -1 from rfl] at this
        omega))]
    · have n1 : A (16 + 0) ≠ Int32.ofInt (-1) := fun q => by
        have := congrArg Int32.toInt (w.symm.trans q)
        rw [o32 (by omega), show (Int32.ofInt (-1)).toInt = -1 from rfl] at this
        omega
      by_cases z : A (16 + 0) = f
      · rw [if_pos (Or.inr z), sG_0 nf (fun K hK => by
          by_cases y : Int32.ofNat K = A (16 + 0)
          · exact Or.inl (y.trans z)
          · exact Or.inr y)]
      · rw [if_neg (fun q => q.elim n1 z), w, sG_1 (by rw [← w]; exact z) (by omega) nf (by omega) hG]
  · rw [if_neg e, fDs_o (fun c q => e (fCh_1 q 24 (by omega))) nf, fDs_c I 24 (by omega)]
theorem zq_26 {σ σ1 σ2 : zSg} {p : zPt} {a1 k b : Int32} (w : zPw p) (K : zC σ p) (R : zRv σ p) (G1 : p_331 0 a1 218 σ k σ1) (G2 : p_283 205 a1 σ1 b σ2) : zHld σ2 ∧ zLik σ2 k b := by
  obtain ⟨e, τ, g, alts⟩ := G1
  obtain ⟨q0, g1, g2⟩ := g rfl _ _ _ K.1 K.2.1 w.1
  have y := fun (R1 : zRv σ1 p) => G2 rfl _ _ _ R1.2.2.1 w.1
  by_cases hv : 0 ≤ a1.toInt ∧ a1.toInt < (p.2.1.1 : Int)
  case neg =>
    have q1 := g1 hv
    subst q1
    rcases alts with ⟨v, q, -, -⟩ | ⟨-, r1, r2⟩
    · cases q
    · exact zq_bad w K R q0 r2 r1 (Or.inl rfl) (fun R1 => ((y R1).1 hv).2)
  have q1 := g2 hv
  subst q1
  rcases alts with ⟨v', q, r1, r2⟩ | ⟨q, -, -⟩
  · cases q
    refine zq_fin w K R q0 r1 r2 (fun _ R1 => ?_)
    obtain ⟨f2, x2⟩ := (y R1).2 hv
    exact ⟨rVF_0 f2, by rw [x2]; exact (fCz_e w.1).symm⟩
  · cases q
end
section
/-! part: the class and the reference answer alike -/
theorem zq_25 {σ σ1 σ2 : zSg} {p : zPt} {a1 a2 k b : Int32} (w : zPw p) (K : zC σ p) (R : zRv σ p) (G1 : p_330 0 a1 a2 218 σ k σ1) (G2 : p_295 205 a1 a2 σ1 b σ2) : zHld σ2 ∧ zLik σ2 k b := by
  obtain ⟨e, τ, g, alts⟩ := G1
  obtain ⟨q0, g1, g2⟩ := g rfl _ _ _ K.1 K.2.1 w.1
  have k6 := w.1.1.2.1
  have y := fun (R1 : zRv σ1 p) => G2 rfl _ _ _ R1.2.2.1 w.1
  by_cases hv : 0 ≤ a1.toInt ∧ a1.toInt < (p.2.1.1 : Int)
  case neg =>
    have q1 := g1 hv
    subst q1
    rcases alts with ⟨v, q, -, -⟩ | ⟨-, r1, r2⟩ | ⟨q, -, -⟩
    · cases q
    · exact zq_bad w K R q0 r2 r1 (Or.inl rfl) (fun R1 => ((y R1).1 hv).2)
    · cases q
  obtain ⟨F, hF, eF⟩ := i_ex hv (by omega)
  by_cases hw : 0 ≤ a2.toInt ∧ a2.toInt ≤ 999
  case neg =>
    have q1 := (g2 F eF hF).1 hw
    subst q1
    rcases alts with ⟨v, q, -, -⟩ | ⟨q, -, -⟩ | ⟨-, r1, r2⟩
    · cases q
    · cases q
    · exact zq_bad w K R q0 r2 r1 (Or.inr (Or.inl rfl)) (fun R1 => (((y R1).2 F eF hF).1 hw).2)
  have q1 := (g2 F eF hF).2 hw
  subst q1
  rcases alts with ⟨v', q, r1, r2⟩ | ⟨q, -, -⟩ | ⟨q, -, -⟩
  · cases q
    refine zq_fin w K R q0 r1 r2 (fun _ R1 => ?_)
    obtain ⟨f2, x2⟩ := ((y R1).2 F eF hF).2 hw
    exact ⟨rVF_0 f2, x2⟩
  · cases q
  · cases q
end
section
/-! who: the class and the reference answer alike -/
theorem zq_28 {σ σ1 σ2 : zSg} {p : zPt} {bt : Nat → Int} {E : Nat} {a1 k b : Int32} (w : zPw p) (K : zC σ p) (R : zRv σ p) (Q : zTpe σ bt E) (G1 : p_333 0 a1 218 σ k σ1) (G2 : p_299 205 a1 σ1 b σ2) : zHld σ2 ∧ zLik σ2 k b := by
  obtain ⟨e, τ, g, alts⟩ := G1
  obtain ⟨t1, t2, t3, t4, t5, t6, t7, t8⟩ := Q
  obtain ⟨eτ, x1, x2⟩ := g rfl K.1 p.1 p.2.1.1 E K.2.1 w.1.1.1 w.1.1.2.1 ⟨t3, t1⟩
  have s1e : σ1.2 = σ.2 ∧ ∀ c q, c ≠ 218 → ¬ (c = 1 ∧ q = 1) → σ1.1 c q = σ.1 c q := by
    rcases alts with ⟨v, -, -, r⟩ | ⟨-, -, r⟩
    · rw [r, eτ]; exact ⟨rfl, fun c q h h2 => (q_w_ne (fun e _ => h e)).trans (q_w_ne (fun e1 e2 => h2 ⟨e1, e2⟩))⟩
    · rw [r, eτ]; exact ⟨rfl, fun c q h h2 => q_w_ne (fun e1 e2 => h2 ⟨e1, e2⟩)⟩
  have K1 : zC σ1 p := K.fr s1e.1 (fun c q h => s1e.2 c q (by unfold zCc at h; omega) (by unfold zCc at h; omega))
  have R1 : zRv σ1 p := R.cls (fun c q h1 h2 => s1e.2 c q (by omega) (by omega))
  have tk : ∀ k, tR σ1 k = tR σ k := fun k => by unfold tR; rw [s1e.2 211 k (by omega) (by omega)]
  have tb : ∀ k, (tR σ k).toInt = bt k := fun k => by
    have h := congrFun t5 k
    unfold rb at h
    rw [t4] at h
    exact h
  have tc : ∀ k, 0 ≤ (tT σ k).toInt ∧ (tT σ k).toInt ≤ 255 ∧ bt k = if 128 ≤ (tT σ k).toInt then (tT σ k).toInt - 256 else (tT σ k).toInt := fun k => by
    have h1 := t1.2.2.2 k
    have h2 := congrFun t2 k
    unfold cb at h2
    unfold cu at h1 h2
    rw [t3] at h1 h2
    exact ⟨h1.1, h1.2, h2.symm⟩
  have req : rtC σ E ↔ rtR σ1 E := by
    constructor
    · rintro ⟨q1, q2⟩
      refine ⟨q1, fun k hk => ?_⟩
      have q3 := q2 k hk
      obtain ⟨c1, c2, c3⟩ := tc k
      rw [if_neg (by omega)] at c3
      rw [tk, tb, c3]
      omega
    · rintro ⟨q1, q2⟩
      refine ⟨q1, fun k hk => ?_⟩
      have q3 := q2 k hk
      rw [tk, tb] at q3
      obtain ⟨c1, c2, c3⟩ := tc k
      split at c3 <;> omega
  have teq : rtC σ E → ∀ k, k < E → tT σ k = tR σ1 k := fun q k hk => by
    apply Int32.toInt_inj.mp
    have q3 := q.2 k hk
    obtain ⟨c1, c2, c3⟩ := tc k
    rw [if_neg (by omega)] at c3
    rw [tk, tb, c3]
  obtain ⟨y1, y2⟩ := G2 rfl p.1 p.2.1.1 E R1.2.2.1 w.1.1.1 w.1.1.2.1 ((s1e.2 205 8 (by omega) (by omega)).trans t4) ((s1e.2 205 9 (by omega) (by omega)).trans t6) t7
  have zr : ∀ υ : zSg, (υ = q_us σ1 205 ∨ υ = q_w (q_us σ1 205) 205 0 (.int (Int32.ofInt 1))) → zHld υ := fun υ hυ => by
    have f0 : ∀ c q, ¬ (c = 205 ∧ (q = 0 ∨ q = 9 ∨ q = 10 ∨ q = 11)) → (q_us σ1 205).1 c q = σ1.1 c q := fun c q h => by
      by_cases hc : c = 205
      · subst hc; exact us_8 (by omega)
      · exact us_c hc
    have f : υ.2 = σ1.2 ∧ ∀ c q, ¬ (c = 205 ∧ (q = 0 ∨ q = 9 ∨ q = 10 ∨ q = 11)) → υ.1 c q = σ1.1 c q := by
      rcases hυ with rfl | rfl
      · exact ⟨rfl, f0⟩
      · exact ⟨rfl, fun c q h => (q_w_ne (fun e1 e2 => h ⟨e1, Or.inl e2⟩)).trans (f0 c q h)⟩
    exact ⟨p, w, K1.ref f.1 (fun c k h => f.2 c k (by omega)), R1.fr (fun c k h => f.2 c k (by unfold zRc at h; omega))⟩
  by_cases hr : rtC σ E
  · obtain ⟨z1, z2, z3⟩ := y2 (req.mp hr)
    obtain ⟨v, ev, v1, v2⟩ := x1 hr
    subst ev
    rcases alts with ⟨v', q, r1, r2⟩ | ⟨q, -, -⟩
    · cases q
      refine ⟨zr _ (Or.inl z1), _, by rw [z1]; exact us_0, by rw [r1], fun _ => ?_⟩
      have eb : b = v := by
        by_cases h0 : a1.toInt = 0
        · rw [z2 h0, v1 h0]
          exact (fWh_cg E (fun k hk => teq hr k hk)).symm
        · apply Int32.toInt_inj.mp
          rw [z3 h0, v2 h0, ← fMn_cg (T := tT σ) E (fun k hk => teq hr k hk)]
          have := fMP (A := p.1) (T := tT σ) w.1.1.2.1 E
          omega
      rw [eb, z1, us_c (by decide), r2]
      exact q_w_at _ _ _ _
    · cases q
  · have z1 := y1 (fun q => hr (req.mpr q))
    have ev := x2 hr
    subst ev
    rcases alts with ⟨v', q, -, -⟩ | ⟨-, r1, r2⟩
    · cases q
    · refine ⟨zr _ (Or.inr z1), _, by rw [z1]; exact q_w_at _ _ _ _, by rw [r1], fun h => ?_⟩
      rw [r1] at h
      exact absurd h (by decide)
end
section
/-! every further specification, closed; printed with wip/gen/gen_do.py -/
theorem sq_229d {sx : zX} : zEe sx 229 3 qP_229d := sd_229 sq_203 sq_228 sq_220
theorem sq_230d {sx : zX} : zEe sx 230 2 qP_230d := sd_230 sq_210 sq_202 sq_229d sq_201
theorem sq_9 {sx : zX} : zEe sx 9 2 qP_9 := sp_9 
theorem sq_10 {sx : zX} : zEe sx 10 1 qP_10 := sp_10 
theorem sq_103 {sx : zX} : zEe sx 103 1 qP_103 := sp_103 
theorem sq_106 {sx : zX} : zEe sx 106 2 qP_106 := sp_106 
theorem sq_12 {sx : zX} : zEe sx 12 4 qP_12 := sp_12 sq_10
theorem sq_13 {sx : zX} : zEe sx 13 3 qP_13 := sp_13 sq_9
theorem sq_29 {sx : zX} : zEe sx 29 3 qP_29 := sp_29 
theorem sq_104 {sx : zX} : zEe sx 104 4 qP_104 := sp_104 sq_103 sq_106
theorem sq_312 {sx : zX} : zEe sx 312 2 qP_312 := sp_312 
theorem sq_6 {sx : zX} : zEe sx 6 1 qP_6 := sp_6 sq_96 sq_92 sq_312
theorem sq_5 {sx : zX} : zEe sx 5 2 qP_5 := sp_5 sq_96
theorem sq_4 {sx : zX} : zEe sx 4 2 qP_4 := sp_4 sq_5 sq_92 sq_96 sq_91 sq_104
theorem sq_3 {sx : zX} : zEe sx 3 2 qP_3 := sp_3 sq_92 sq_96 sq_12 sq_91 sq_6 sq_13 sq_29
theorem sq_2 {sx : zX} : zEe sx 2 2 qP_2 := sp_2 sq_91 sq_90 sq_96
theorem sq_1 {sx : zX} : zEe sx 1 2 qP_1 := sp_1 sq_10 sq_103 sq_91 sq_2 sq_5 sq_6 sq_13 sq_29 sq_4 sq_3
theorem sq_0 {sx : zX} : zEe sx 0 2 qP_0 := sp_0 sq_87 sq_89 sq_88 sq_90 sq_1 sq_94
theorem sq_8 {sx : zX} : zEe sx 8 2 qP_8 := sp_8 
theorem sq_101 {sx : zX} : zEe sx 101 2 qP_101 := sp_101 
theorem sq_56 {sx : zX} : zEe sx 56 2 qP_56 := sp_56 
theorem sq_23 {sx : zX} : zEe sx 23 2 qP_23 := sp_23 sq_8 sq_101 sq_56
theorem sq_180 {sx : zX} : zEe sx 180 1 qP_180 := sp_180 
theorem sq_181 {sx : zX} : zEe sx 181 1 qP_181 := sp_181 
theorem sq_266 {sx : zX} : zEe sx 266 1 qP_266 := sp_266 
theorem sq_267 {sx : zX} : zEe sx 267 1 qP_267 := sp_267 
theorem sq_183 {sx : zX} : zEe sx 183 1 qP_183 := sp_183 
theorem sq_182 {sx : zX} : zEe sx 182 1 qP_182 := sp_182 
theorem sq_231 {sx : zX} : zEe sx 231 1 qP_231 := sp_231 sq_230d sq_176
theorem sq_62 {sx : zX} : zEe sx 62 2 qP_62 := sp_62 sq_23
theorem sq_63 {sx : zX} : zEe sx 63 2 qP_63 := sp_63 sq_23
theorem sq_120 {sx : zX} : zEe sx 120 1 qP_120 := sp_120 sq_23 sq_0 sq_64
theorem sq_163 {sx : zX} : zEe sx 163 1 qP_163 := sp_163 sq_23
theorem sq_164 {sx : zX} : zEe sx 164 1 qP_164 := sp_164 sq_23 sq_64
theorem sq_162 {sx : zX} : zEe sx 162 1 qP_162 := sp_162 sq_63
theorem sq_161 {sx : zX} : zEe sx 161 2 qP_161 := sp_161 
theorem sq_166 {sx : zX} : zEe sx 166 2 qP_166 := sp_166 
theorem sq_169 {sx : zX} : zEe sx 169 3 qP_169 := sp_169 
theorem sq_170 {sx : zX} : zEe sx 170 4 qP_170 := sp_170 
theorem sq_171 {sx : zX} : zEe sx 171 3 qP_171 := sp_171 
theorem sq_172 {sx : zX} : zEe sx 172 2 qP_172 := sp_172 
theorem sq_14 {sx : zX} : zEe sx 14 3 qP_14 := sp_14 sq_9
theorem sq_16 {sx : zX} : zEe sx 16 2 qP_16 := sp_16 sq_9
theorem sq_17 {sx : zX} : zEe sx 17 3 qP_17 := sp_17 sq_9
theorem sq_18 {sx : zX} : zEe sx 18 3 qP_18 := sp_18 sq_9
theorem sq_26 {sx : zX} : zEe sx 26 2 qP_26 := sp_26 sq_312
theorem sq_27 {sx : zX} : zEe sx 27 1 qP_27 := sp_27 sq_26
theorem sq_102 {sx : zX} : zEe sx 102 2 qP_102 := sp_102 
theorem sq_105 {sx : zX} : zEe sx 105 2 qP_105 := sp_105 
theorem sq_107 {sx : zX} : zEe sx 107 2 qP_107 := sp_107 
theorem sq_109 {sx : zX} : zEe sx 109 2 qP_109 := sp_109 
theorem sq_108 {sx : zX} : zEe sx 108 1 qP_108 := sp_108 sq_109
theorem sq_177 {sx : zX} : zEe sx 177 3 qP_177 := sp_177 
theorem sq_188 {sx : zX} : zEe sx 188 1 qP_188 := sp_188 sq_186
theorem sq_190 {sx : zX} : zEe sx 190 3 qP_190 := sp_190 sq_189
theorem sq_193 {sx : zX} : zEe sx 193 3 qP_193 := sp_193 sq_192
theorem sq_191 {sx : zX} : zEe sx 191 3 qP_191 := sp_191 sq_190 sq_178
theorem sq_194 {sx : zX} : zEe sx 194 2 qP_194 := sp_194 sq_193
theorem sq_195 {sx : zX} : zEe sx 195 2 qP_195 := sp_195 sq_184 sq_177
theorem sq_196 {sx : zX} : zEe sx 196 2 qP_196 := sp_196 sq_185 sq_177
theorem sq_197 {sx : zX} : zEe sx 197 1 qP_197 := sp_197 sq_177
theorem sq_130 {sx : zX} : zEe sx 130 2 qP_130 := sp_130 sq_166 sq_172 sq_62
theorem sq_134 {sx : zX} : zEe sx 134 1 qP_134 := sp_134 sq_62
theorem sq_167 {sx : zX} : zEe sx 167 2 qP_167 := sp_167 sq_9
theorem sq_168 {sx : zX} : zEe sx 168 2 qP_168 := sp_168 sq_102
theorem sq_129 {sx : zX} : zEe sx 129 3 qP_129 := sp_129 sq_166 sq_171 sq_172 sq_62
theorem sq_128 {sx : zX} : zEe sx 128 3 qP_128 := sp_128 sq_166 sq_167 sq_172 sq_62 sq_17 sq_16
theorem sq_127 {sx : zX} : zEe sx 127 3 qP_127 := sp_127 sq_166 sq_167 sq_171 sq_172 sq_62 sq_17 sq_18 sq_16
theorem sq_131 {sx : zX} : zEe sx 131 2 qP_131 := sp_131 sq_168 sq_27 sq_172 sq_62 sq_106 sq_108 sq_105
theorem sq_132 {sx : zX} : zEe sx 132 2 qP_132 := sp_132 sq_168 sq_27 sq_172 sq_62 sq_107 sq_108 sq_105
theorem sq_133 {sx : zX} : zEe sx 133 1 qP_133 := sp_133 sq_27 sq_172 sq_62 sq_17 sq_16
theorem sq_261 {sx : zX} : zEe sx 261 1 qP_261 := sp_261 sq_182
theorem sq_256 {sx : zX} : zEe sx 256 2 qP_256 := sp_256 sq_197 sq_176 sq_186 sq_182
theorem sq_309 {sx : zX} : zEe sx 309 2 qP_309 := sp_309 
theorem sq_254 {sx : zX} : zEe sx 254 3 qP_254 := sp_254 sq_186
theorem sq_253 {sx : zX} : zEe sx 253 3 qP_253 := sp_253 sq_197 sq_176 sq_195 sq_186 sq_190 sq_182 sq_189
theorem sq_255 {sx : zX} : zEe sx 255 3 qP_255 := sp_255 sq_197 sq_176 sq_186 sq_182 sq_254
theorem sq_252 {sx : zX} : zEe sx 252 3 qP_252 := sp_252 sq_197 sq_176 sq_195 sq_186 sq_190 sq_182 sq_189
theorem sq_233 {sx : zX} : zEe sx 233 1 qP_233 := sp_233 sq_185 sq_194
theorem sq_234 {sx : zX} : zEe sx 234 2 qP_234 := sp_234 sq_185 sq_178 sq_193
theorem sq_257 {sx : zX} : zEe sx 257 3 qP_257 := sp_257 sq_182 sq_192 sq_233 sq_234
theorem sq_258 {sx : zX} : zEe sx 258 2 qP_258 := sp_258 sq_196 sq_176 sq_193 sq_188 sq_194 sq_257
theorem sq_259 {sx : zX} : zEe sx 259 2 qP_259 := sp_259 sq_196 sq_176 sq_193 sq_188 sq_194 sq_257
theorem sq_260 {sx : zX} : zEe sx 260 1 qP_260 := sp_260 sq_188 sq_176 sq_190 sq_182 sq_189
theorem sq_45 {sx : zX} : zEe sx 45 2 qP_45 := sp_45 
theorem sq_44 {sx : zX} : zEe sx 44 3 qP_44 := sp_44 
theorem sq_43 {sx : zX} : zEe sx 43 4 qP_43 := sp_43 sq_45 sq_44
theorem sq_42 {sx : zX} : zEe sx 42 3 qP_42 := sp_42 sq_43
theorem sq_33 {sx : zX} : zEe sx 33 3 qP_33 := sp_33 sq_108 sq_14
theorem sq_30 {sx : zX} : zEe sx 30 3 qP_30 := sp_30 sq_9 sq_33 sq_42
theorem sq_31 {sx : zX} : zEe sx 31 3 qP_31 := sp_31 sq_9 sq_33 sq_42
theorem sq_32 {sx : zX} : zEe sx 32 2 qP_32 := sp_32 sq_102 sq_33 sq_42
theorem sq_235 {sx : zX} : zEe sx 235 1 qP_235 := sp_235 
theorem sq_236 {sx : zX} : zEe sx 236 5 qP_236 := sp_236 sq_233 sq_234 sq_235 sq_191
theorem sq_237 {sx : zX} : zEe sx 237 4 qP_237 := sp_237 sq_236
theorem sq_238 {sx : zX} : zEe sx 238 4 qP_238 := sp_238 sq_237
theorem sq_239 {sx : zX} : zEe sx 239 3 qP_239 := sp_239 sq_190 sq_238
theorem sq_240 {sx : zX} : zEe sx 240 3 qP_240 := sp_240 sq_190 sq_238
theorem sq_241 {sx : zX} : zEe sx 241 2 qP_241 := sp_241 sq_193 sq_238
theorem sq_39 {sx : zX} : zEe sx 39 1 qP_39 := sp_39 
theorem sq_40 {sx : zX} : zEe sx 40 2 qP_40 := sp_40 
theorem sq_57 {sx : zX} : zEe sx 57 6 qP_57 := sp_57 
theorem sq_35 {sx : zX} : zEe sx 35 2 qP_35 := sp_35 sq_39 sq_40 sq_57
theorem sq_36 {sx : zX} : zEe sx 36 1 qP_36 := sp_36 
theorem sq_37 {sx : zX} : zEe sx 37 2 qP_37 := sp_37 sq_105 sq_32 sq_17 sq_107 sq_57
theorem sq_34 {sx : zX} : zEe sx 34 2 qP_34 := sp_34 sq_27 sq_36 sq_37 sq_35 sq_30 sq_31
theorem sq_135 {sx : zX} : zEe sx 135 2 qP_135 := sp_135 sq_170 sq_62 sq_34
theorem sq_198 {sx : zX} : zEe sx 198 2 qP_198 := sp_198 
theorem sq_262 {sx : zX} : zEe sx 262 4 qP_262 := sp_262 
theorem sq_263 {sx : zX} : zEe sx 263 2 qP_263 := sp_263 sq_198 sq_262
theorem sq_264 {sx : zX} : zEe sx 264 2 qP_264 := sp_264 sq_185 sq_193 sq_194 sq_241 sq_189 sq_190 sq_192 sq_262
theorem sq_265 {sx : zX} : zEe sx 265 2 qP_265 := sp_265 sq_188 sq_187 sq_264 sq_263 sq_239 sq_240
theorem sq_268 {sx : zX} : zEe sx 268 3 qP_268 := sp_268 sq_265
theorem sq_269 {sx : zX} : zEe sx 269 2 qP_269 := sp_269 sq_177 sq_176 sq_182 sq_268
theorem sq_125 {sx : zX} : zEe sx 125 4 qP_125 := sp_125 sq_167 sq_166 sq_169 sq_31 sq_30
theorem sq_126 {sx : zX} : zEe sx 126 3 qP_126 := sp_126 sq_168 sq_169 sq_105 sq_32
theorem sq_151 {sx : zX} : zEe sx 151 3 qP_151 := sp_151 sq_170 sq_169 sq_23 sq_27 sq_34
theorem sq_152 {sx : zX} : zEe sx 152 2 qP_152 := sp_152 sq_170 sq_23 sq_34
theorem sq_154 {sx : zX} : zEe sx 154 2 qP_154 := sp_154 sq_167 sq_23 sq_16 sq_34
theorem sq_153 {sx : zX} : zEe sx 153 2 qP_153 := sp_153 sq_170 sq_23 sq_34
theorem sq_270 {sx : zX} : zEe sx 270 3 qP_270 := sp_270 sq_177 sq_176 sq_266 sq_268 sq_188 sq_267
theorem sq_271 {sx : zX} : zEe sx 271 2 qP_271 := sp_271 sq_177 sq_176 sq_266 sq_267 sq_265
theorem sq_273 {sx : zX} : zEe sx 273 2 qP_273 := sp_273 sq_195 sq_176 sq_266 sq_267 sq_190 sq_265
theorem sq_272 {sx : zX} : zEe sx 272 2 qP_272 := sp_272 sq_177 sq_176 sq_266 sq_267 sq_265
theorem sq_315 {sx : zX} : zEe sx 315 2 qP_315 := sp_315 sq_120
theorem sq_319 {sx : zX} : zEe sx 319 5 qP_319 := sp_319 sq_125
theorem sq_320 {sx : zX} : zEe sx 320 4 qP_320 := sp_320 sq_126
theorem sq_321 {sx : zX} : zEe sx 321 4 qP_321 := sp_321 sq_127
theorem sq_322 {sx : zX} : zEe sx 322 4 qP_322 := sp_322 sq_128
theorem sq_323 {sx : zX} : zEe sx 323 4 qP_323 := sp_323 sq_129
theorem sq_324 {sx : zX} : zEe sx 324 3 qP_324 := sp_324 sq_130
theorem sq_325 {sx : zX} : zEe sx 325 3 qP_325 := sp_325 sq_131
theorem sq_326 {sx : zX} : zEe sx 326 3 qP_326 := sp_326 sq_132
theorem sq_327 {sx : zX} : zEe sx 327 2 qP_327 := sp_327 sq_133
theorem sq_328 {sx : zX} : zEe sx 328 3 qP_328 := sp_328 sq_135
theorem sq_335 {sx : zX} : zEe sx 335 4 qP_335 := sp_335 sq_151
theorem sq_336 {sx : zX} : zEe sx 336 3 qP_336 := sp_336 sq_152
theorem sq_337 {sx : zX} : zEe sx 337 3 qP_337 := sp_337 sq_153
theorem sq_338 {sx : zX} : zEe sx 338 3 qP_338 := sp_338 sq_154
theorem sq_121w {sx : zX} : zEe sx 121 1 qP_121w := sp_121w sq_47 sq_48 sq_64
theorem sq_316w {sx : zX} : zEe sx 316 2 qP_316w := sp_316w sq_121w
theorem sq_122 {sx : zX} : zEe sx 122 1 qP_122 := sp_122 
theorem sq_209 {sx : zX} : zEe sx 209 1 qP_209 := sp_209 
theorem sq_250 {sx : zX} : zEe sx 250 4 qP_250 := sp_250 sq_195 sq_176 sq_197 sq_177 sq_240 sq_239
theorem sq_251 {sx : zX} : zEe sx 251 3 qP_251 := sp_251 sq_196 sq_176 sq_177 sq_193 sq_241
theorem sq_312w {sx : zX} : zEe sx 312 2 qP_312w := sp_312w 
theorem sq_26w {sx : zX} : zEe sx 26 2 qP_26w := sp_26w sq_312w
theorem sq_69 {sx : zX} : zEe sx 69 1 qP_69 := sp_69 sq_26w
theorem sq_136 {sx : zX} : zEe sx 136 1 qP_136 := sp_136 sq_69
theorem sq_274 {sx : zX} : zEe sx 274 1 qP_274 := sp_274 sq_186 sq_187
theorem sq_123 {sx : zX} : zEe sx 123 2 qP_123 := sp_123 sq_166
theorem sq_248 {sx : zX} : zEe sx 248 2 qP_248 := sp_248 sq_197 sq_176 sq_186
theorem sq_28 {sx : zX} : zEe sx 28 2 qP_28 := sp_28 
theorem sq_242 {sx : zX} : zEe sx 242 2 qP_242 := sp_242 sq_186
theorem sq_11 {sx : zX} : zEe sx 11 1 qP_11 := sp_11 
theorem sq_71 {sx : zX} : zEe sx 71 1 qP_71 := sp_71 sq_11 sq_28
theorem sq_138 {sx : zX} : zEe sx 138 1 qP_138 := sp_138 sq_71
theorem sq_279 {sx : zX} : zEe sx 279 1 qP_279 := sp_279 sq_242
theorem sq_156 {sx : zX} : zEe sx 156 1 qP_156 := sp_156 sq_27 sq_109
theorem sq_302 {sx : zX} : zEe sx 302 1 qP_302 := sp_302 sq_185 sq_194 sq_193 sq_188
theorem sq_317 {sx : zX} : zEe sx 317 3 qP_317 := sp_317 sq_123
theorem sq_311 {sx : zX} : zEe sx 311 1 qP_311 := sp_311 
theorem sq_243 {sx : zX} : zEe sx 243 2 qP_243 := sp_243 sq_242 sq_311
theorem sq_75 {sx : zX} : zEe sx 75 1 qP_75 := sp_75 sq_28 sq_311
theorem sq_150 {sx : zX} : zEe sx 150 1 qP_150 := sp_150 sq_75
theorem sq_280 {sx : zX} : zEe sx 280 1 qP_280 := sp_280 sq_184 sq_243
theorem sq_116 {sx : zX} : zEe sx 116 1 qP_116 := sp_116 sq_28 sq_311
theorem sq_155 {sx : zX} : zEe sx 155 1 qP_155 := sp_155 sq_116
theorem sq_301 {sx : zX} : zEe sx 301 1 qP_301 := sp_301 sq_184 sq_190 sq_243
theorem sq_312l {sx : zX} : zEe sx 312 2 qP_312l := sp_312l 
theorem sq_58 {sx : zX} : zEe sx 58 3 qP_58 := sp_58 sq_312l
theorem sq_160 {sx : zX} : zEe sx 160 3 qP_160 := sp_160 sq_169 sq_58
theorem sq_306 {sx : zX} : zEe sx 306 3 qP_306 := sp_306 
theorem sq_308 {sx : zX} : zEe sx 308 3 qP_308 := sp_308 sq_177 sq_176 sq_306
theorem sq_59 {sx : zX} : zEe sx 59 2 qP_59 := sp_59 sq_58
theorem sq_60 {sx : zX} : zEe sx 60 2 qP_60 := sp_60 sq_58
theorem sq_159 {sx : zX} : zEe sx 159 3 qP_159 := sp_159 sq_167 sq_59 sq_60
theorem sq_307 {sx : zX} : zEe sx 307 3 qP_307 := sp_307 sq_195 sq_176 sq_306
theorem sq_341 {sx : zX} : zEe sx 341 4 qP_341 := sp_341 sq_159
theorem sq_342 {sx : zX} : zEe sx 342 4 qP_342 := sp_342 sq_160
theorem sq_20 {sx : zX} : zEe sx 20 2 qP_20 := sp_20 
theorem sq_21 {sx : zX} : zEe sx 21 1 qP_21 := sp_21 sq_20 sq_311
theorem sq_147 {sx : zX} : zEe sx 147 1 qP_147 := sp_147 sq_21
theorem sq_298 {sx : zX} : zEe sx 298 2 qP_298 := sp_298 sq_184 sq_190
theorem sq_300 {sx : zX} : zEe sx 300 1 qP_300 := sp_300 sq_298 sq_311
theorem sq_67 {sx : zX} : zEe sx 67 1 qP_67 := sp_67 
theorem sq_70 {sx : zX} : zEe sx 70 3 qP_70 := sp_70 sq_28 sq_67
theorem sq_137 {sx : zX} : zEe sx 137 3 qP_137 := sp_137 sq_167 sq_171 sq_70
theorem sq_275 {sx : zX} : zEe sx 275 4 qP_275 := sp_275 sq_186 sq_187
theorem sq_276 {sx : zX} : zEe sx 276 3 qP_276 := sp_276 sq_275
theorem sq_277 {sx : zX} : zEe sx 277 3 qP_277 := sp_277 sq_195 sq_176 sq_276
theorem sq_72 {sx : zX} : zEe sx 72 1 qP_72 := sp_72 sq_70 sq_311
theorem sq_148 {sx : zX} : zEe sx 148 1 qP_148 := sp_148 sq_72
theorem sq_278 {sx : zX} : zEe sx 278 1 qP_278 := sp_278 sq_184 sq_276 sq_311
theorem sq_80 {sx : zX} : zEe sx 80 1 qP_80 := sp_80 sq_71 sq_28
theorem sq_141 {sx : zX} : zEe sx 141 1 qP_141 := sp_141 sq_80
theorem sq_329 {sx : zX} : zEe sx 329 4 qP_329 := sp_329 sq_137
theorem sq_281 {sx : zX} : zEe sx 281 1 qP_281 := sp_281 sq_242 sq_184 sq_243
theorem sq_15 {sx : zX} : zEe sx 15 2 qP_15 := sp_15 
theorem sq_110 {sx : zX} : zEe sx 110 2 qP_110 := sp_110 sq_28 sq_15 sq_311
theorem sq_142 {sx : zX} : zEe sx 142 2 qP_142 := sp_142 sq_110
theorem sq_291 {sx : zX} : zEe sx 291 2 qP_291 := sp_291 sq_186 sq_178 sq_184 sq_235 sq_191
theorem sq_292 {sx : zX} : zEe sx 292 1 qP_292 := sp_292 sq_184
theorem sq_293 {sx : zX} : zEe sx 293 2 qP_293 := sp_293 sq_292 sq_291
theorem sq_312v {sx : zX} : zEe sx 312 2 qP_312v := sp_312v 
theorem sq_26v {sx : zX} : zEe sx 26 2 qP_26v := sp_26v sq_312v
theorem sq_38w {sx : zX} : zEe sx 38 3 qP_38w := sp_38w sq_39 sq_26v sq_40
theorem sq_19w {sx : zX} : zEe sx 19 1 qP_19w := sp_19w 
theorem sq_303w {sx : zX} : zEe sx 303 1 qP_303w := sp_303w sq_184 sq_190
theorem sq_157w {sx : zX} : zEe sx 157 3 qP_157w := sp_157w sq_170 sq_23 sq_38w sq_19w sq_34
theorem sq_158 {sx : zX} : zEe sx 158 3 qP_158 := sp_158w sq_170 sq_38w
theorem sq_304w {sx : zX} : zEe sx 304 3 qP_304w := sp_304w sq_177 sq_176 sq_266 sq_268 sq_267 sq_303w
theorem sq_305w {sx : zX} : zEe sx 305 3 qP_305w := sp_305w sq_177 sq_176 sq_266 sq_268 sq_267
theorem sq_339w {sx : zX} : zEe sx 339 4 qP_339w := sp_339w sq_157w
theorem sq_340w {sx : zX} : zEe sx 340 4 qP_340w := sp_340w sq_158
theorem sq_66 {sx : zX} : zEe sx 66 1 qP_66 := sp_66 
theorem sq_65 {sx : zX} : zEe sx 65 1 qP_65 := sp_65 sq_66
theorem sq_68 {sx : zX} : zEe sx 68 2 qP_68 := sp_68 sq_26w
theorem sq_124 {sx : zX} : zEe sx 124 3 qP_124 := sp_124 sq_167 sq_169 sq_28 sq_16 sq_311 sq_65 sq_68
theorem sq_245 {sx : zX} : zEe sx 245 2 qP_245 := sp_245 sq_178
theorem sq_246 {sx : zX} : zEe sx 246 2 qP_246 := sp_246 sq_242 sq_245
theorem sq_244 {sx : zX} : zEe sx 244 2 qP_244 := sp_244 sq_242 sq_190 sq_311
theorem sq_247 {sx : zX} : zEe sx 247 2 qP_247 := sp_247 sq_186
theorem sq_249 {sx : zX} : zEe sx 249 3 qP_249 := sp_249 sq_195 sq_176 sq_177 sq_242 sq_243 sq_246 sq_244 sq_247 sq_190
theorem sq_318 {sx : zX} : zEe sx 318 4 qP_318 := sp_318 sq_124
theorem sq_79 {sx : zX} : zEe sx 79 4 qP_79 := sp_79 sq_14
theorem sq_289 {sx : zX} : zEe sx 289 4 qP_289 := sp_289 sq_191
theorem sq_78 {sx : zX} : zEe sx 78 3 qP_78 := sp_78 sq_26 sq_79
theorem sq_77 {sx : zX} : zEe sx 77 1 qP_77 := sp_77 sq_78
theorem sq_140 {sx : zX} : zEe sx 140 1 qP_140 := sp_140 sq_77
theorem sq_290 {sx : zX} : zEe sx 290 1 qP_290 := sp_290 sq_186 sq_289
theorem sq_74 {sx : zX} : zEe sx 74 2 qP_74 := sp_74 sq_67
theorem sq_73 {sx : zX} : zEe sx 73 2 qP_73 := sp_73 sq_28 sq_74
theorem sq_149 {sx : zX} : zEe sx 149 2 qP_149 := sp_149 sq_170 sq_73
theorem sq_284 {sx : zX} : zEe sx 284 2 qP_284 := sp_284 sq_177 sq_176 sq_184 sq_242 sq_190 sq_245
theorem sq_334 {sx : zX} : zEe sx 334 3 qP_334 := sp_334 sq_149
theorem sq_312x {sx : zX} : zEe sx 312 2 qP_312x := sp_312x 
theorem sq_26x {sx : zX} : zEe sx 26 2 qP_26x := sp_26x sq_312x
theorem sq_82 {sx : zX} : zEe sx 82 3 qP_82 := sp_82 sq_26x
theorem sq_83 {sx : zX} : zEe sx 83 2 qP_83 := sp_83 sq_26x
theorem sq_81 {sx : zX} : zEe sx 81 2 qP_81 := sp_81 sq_69 sq_82 sq_26x sq_83
theorem sq_144 {sx : zX} : zEe sx 144 2 qP_144 := sp_144 sq_167 sq_81
theorem sq_282 {sx : zX} : zEe sx 282 1 qP_282 := sp_282 sq_178 sq_245
theorem sq_283 {sx : zX} : zEe sx 283 2 qP_283 := sp_283 sq_195 sq_176 sq_184 sq_242 sq_282
theorem sq_331 {sx : zX} : zEe sx 331 3 qP_331 := sp_331 sq_144
theorem sq_112 {sx : zX} : zEe sx 112 1 qP_112 := sp_112 
theorem sq_294 {sx : zX} : zEe sx 294 1 qP_294 := sp_294 
theorem sq_111 {sx : zX} : zEe sx 111 3 qP_111 := sp_111 sq_11 sq_110 sq_112 sq_311
theorem sq_143 {sx : zX} : zEe sx 143 3 qP_143 := sp_143 sq_167 sq_170 sq_111
theorem sq_295 {sx : zX} : zEe sx 295 3 qP_295 := sp_295 sq_195 sq_176 sq_177 sq_292 sq_291 sq_184 sq_294 sq_178 sq_311
theorem sq_330 {sx : zX} : zEe sx 330 4 qP_330 := sp_330 sq_143
theorem sq_86w {sx : zX} : zEe sx 86 2 qP_86w := sp_86w 
theorem sq_173 {sx : zX} : zEe sx 173 1 qP_173 := sp_173 sq_86w
theorem sq_174 {sx : zX} : zEe sx 174 1 qP_174 := sp_174 sq_11 sq_86w sq_20
theorem sq_175 {sx : zX} : zEe sx 175 1 qP_175 := sp_175 sq_86w sq_20 sq_311
theorem sq_146 {sx : zX} : zEe sx 146 2 qP_146 := sp_146 sq_173 sq_174 sq_175
theorem sq_299 {sx : zX} : zEe sx 299 2 qP_299 := sp_299 sq_210 sq_176 sq_292 sq_177 sq_298 sq_311
theorem sq_333 {sx : zX} : zEe sx 333 3 qP_333 := sp_333 sq_146
end
section
/-! a call that touches nothing of the whole relation keeps it; the fault -/
theorem zq_4 {σ σ1 σ2 : zSg} {p : zPt} {k b : Int32} (w : zPw p) (K : zC σ p) (R : zRv σ p) (G1 : p_122 0 σ k σ1) (G2 : p_209 205 σ1 b σ2) : zHld σ2 ∧ k = b := by
  obtain ⟨rfl, e1⟩ := G1
  obtain ⟨rfl, e2⟩ := G2
  refine ⟨⟨p, w, K.ref rfl (fun c k q => q_w_ne (fun e _ => by omega)), R.thr (c := 0)⟩, ?_⟩
  have h1 : σ1.1 0 7 = .int p.2.2.2.2.2 := K.2.2.2.2.2.2.2.1
  have h2 : σ1.1 205 14 = .int p.2.2.2.2.2 := R.2.2.2.2.2.2.2
  rw [e1, e2, h1, h2]
theorem zsh_n {T : zTy} {e : zE} (h : z_sh T e) : q_n e = if T.1 = 0 then 0 else T.2.2.1 := by
  obtain ⟨k, c', n, rs⟩ := T
  match k, e, h with
  | 0, .inr (c, fs), _ => rfl
  | 1, .inl (0, (m, .inl _)), h => exact h
  | 2, .inl (1, (m, .inl _)), h => exact h
  | 3, .inl (2, (m, .inr (.inl _))), h => exact h
  | 4, .inl (3, (m, .inr (.inr (.inr (.inr _))))), h => exact h
theorem zvl_n {h : zH} {c : Nat} {e : zE} (he : h[c]? = some e) : zvl h c = q_n e := by
  unfold zvl
  rw [he]
  obtain ⟨t, n, x⟩ | ⟨c, fs⟩ := e <;> rfl
theorem za2 {ty ty' : List Nat} {h h' : zH} (T : zTY z_tt ty h) (T' : zTY z_tt ty' h') (X : zExt ty ty') (hl : h'.length = h.length) : (za h').2 = (za h).2 := by
  have e : zvl h' = zvl h := funext fun c => by
    by_cases hc : c < h.length
    · have hc' : c < ty.length := by rw [T.1]; exact hc
      have ht : ty[c]? = some ty[c] := List.getElem?_eq_getElem hc'
      have e1 : h[c]? = some h[c] := List.getElem?_eq_getElem hc
      have hc2 : c < h'.length := by omega
      have e2 : h'[c]? = some h'[c] := List.getElem?_eq_getElem hc2
      rw [zvl_n e1, zvl_n e2, zsh_n (T.2.2 c _ _ ht e1).1, zsh_n (T'.2.2 c _ _ (X c _ ht) e2).1]
    · unfold zvl
      rw [List.getElem?_eq_none (by omega), List.getElem?_eq_none (by omega)]
  exact Prod.ext e hl
/-- behind the first 219 cells there are laws alone -/
noncomputable def zLwt (ty : List Nat) : Prop := ∀ c t : Nat, 219 ≤ c → c % 6 ≠ 5 → ty[c]? = some t → 100 ≤ t
theorem zLwt.keep {ty ty' : List Nat} {h h' : zH} (L : zLwt ty) (T : zTY z_tt ty h) (T' : zTY z_tt ty' h') (X : zExt ty ty') (hl : h'.length = h.length) : zLwt ty' := fun c t h1 h2 ht => by
  have hc : c < ty.length := by
    have := (List.getElem?_eq_some_iff.mp ht).1
    rw [T'.1, hl, ← T.1] at this
    exact this
  have e : ty[c]? = some ty[c] := List.getElem?_eq_getElem hc
  have := X c _ e
  rw [ht] at this
  cases this
  exact L c _ h1 h2 e
noncomputable def zqOKm (m : zMod) : Bool := decide (m.1 < 100) && (!([1, 8, 9, 10, 11, 12, 13, 14, 16, 17, 18, 25].elem m.1) && ((decide (m.1 ≠ 20) || (decide (m.2.2 < 1) || ((decide (7 < m.2.1) && decide (m.2.2 < 14)) || ((decide (14 < m.2.1) && decide (m.2.2 < 17)) || decide (17 < m.2.1))))) && (decide (m.1 ≠ 21 ∧ m.1 ≠ 22) || decide (1236 < m.2.1))))
noncomputable def zqOK (ms : List zMod) : Bool := ms.all zqOKm
theorem zty1_c : (List.range 205).all (fun c => decide (c ≠ 0 ∧ c < 8) || [1, 8, 9, 10, 11, 12, 13, 14, 16, 17, 18].elem (zty1.getD c 0)) = true := by decide +kernel
theorem zv_out {h : zH} {c k : Nat} (hc : h.length ≤ c) : zv h c k = .null := by
  unfold zv
  rw [List.getElem?_eq_none hc]
theorem zHld.keep {ms : List zMod} {ty ty' : List Nat} {h h' : zH} (H : zHld (za h)) (T : zTY z_tt ty h) (T' : zTY z_tt ty' h') (X0 : zExt zty1 ty) (X : zExt ty ty') (L : zLwt ty) (F : zFm ms ty h h') (hl : h'.length = h.length) (hm : zqOK ms = true) : zHld (za h') := by
  obtain ⟨p, w, K, R⟩ := H
  have hok := fun m hm9 => List.all_eq_true.mp hm m hm9
  have no : ∀ t k, (100 ≤ t ∨ [1, 8, 9, 10, 11, 12, 13, 14, 16, 17, 18, 25].elem t = true) → ¬ zIn ms t k := by
    rintro t k ht ⟨m, hm9, m1, -⟩
    have := hok m hm9
    unfold zqOKm at this
    rw [Bool.and_eq_true, Bool.and_eq_true, decide_eq_true_eq, Bool.not_eq_true'] at this
    rw [m1] at this
    rcases ht with ht | ht
    · omega
    · rw [ht] at this
      exact absurd this.2.1 (by decide)
  have no20 : ∀ k, ((1 ≤ k ∧ k ≤ 7) ∨ k = 14 ∨ k = 17) → ¬ zIn ms 20 k := by
    rintro k hk ⟨m, hm9, m1, m2, m3⟩
    have := hok m hm9
    unfold zqOKm at this
    simp only [Bool.and_eq_true, Bool.or_eq_true, decide_eq_true_eq] at this
    omega
  have no21 : ∀ t k, t = 21 ∨ t = 22 → k < 1237 → ¬ zIn ms t k := by
    rintro t k ht hk ⟨m, hm9, m1, m2, m3⟩
    have := hok m hm9
    unfold zqOKm at this
    simp only [Bool.and_eq_true, Bool.or_eq_true, decide_eq_true_eq] at this
    omega
  refine ⟨p, w, K.fr (za2 T T' X hl) (fun c k hc => ?_), R.fr (fun c k hc => ?_)⟩
  · by_cases h205 : c < 205
    · have h1 := List.all_eq_true.mp zty1_c c (List.mem_range.mpr h205)
      rw [Bool.or_eq_true, decide_eq_true_eq] at h1
      have h2 : [1, 8, 9, 10, 11, 12, 13, 14, 16, 17, 18].elem (zty1.getD c 0) = true := h1.resolve_left (by unfold zCc at hc; omega)
      have hlen : c < zty1.length := by rw [show zty1.length = 219 from by decide +kernel]; omega
      have ht : ty[c]? = some (zty1.getD c 0) := X0 _ _ (by rw [List.getD_eq_getElem?_getD, List.getElem?_eq_getElem hlen]; rfl)
      refine zv_keep T T' F ht (no _ k (Or.inr ?_))
      have h3 := List.elem_iff.mp h2
      refine List.elem_iff.mpr ?_
      simp only [List.mem_cons, List.not_mem_nil, or_false] at h3 ⊢
      omega
    · have h3 : 219 ≤ c ∧ c % 6 ≠ 5 := by unfold zCc at hc; omega
      by_cases hb : c < h.length
      · have hc' : c < ty.length := by rw [T.1]; exact hb
        have ht : ty[c]? = some ty[c] := List.getElem?_eq_getElem hc'
        exact zv_keep T T' F ht (no _ k (Or.inl (L c _ h3.1 h3.2 ht)))
      · show zv h' c k = zv h c k
        rw [zv_out (by omega), zv_out (by omega)]
  · have t205 : ty[205]? = some 20 := X0 205 20 (by decide +kernel)
    have t206 : ty[206]? = some 21 := X0 206 21 (by decide +kernel)
    have t207 : ty[207]? = some 22 := X0 207 22 (by decide +kernel)
    have t210 : ty[210]? = some 25 := X0 210 25 (by decide +kernel)
    rcases hc with ⟨rfl, hk⟩ | ⟨rfl, hk⟩ | ⟨rfl, hk⟩ | rfl
    · exact zv_keep T T' F t205 (no20 k hk)
    · exact zv_keep T T' F t206 (no21 _ k (Or.inl rfl) hk)
    · exact zv_keep T T' F t207 (no21 _ k (Or.inr rfl) hk)
    · exact zv_keep T T' F t210 (no _ k (Or.inr (by decide)))
/-- the tape, as the readers of a deed want it -/
theorem zv_int {ty : List Nat} {h : zH} {c t n k : Nat} (T : zTY z_tt ty h) (ht : ty[c]? = some t) (hk : (z_tt t).1 = 1) (hn : (z_tt t).2.2.1 = n) (hkn : k < n) : ∃ x, zv h c k = .int x := by
  obtain ⟨f, he⟩ := zcell1 T ht hk hn
  exact ⟨f k, by rw [zv_at he, z_rd0, if_pos hkn]; rfl⟩
theorem zTpe_of {ty : List Nat} {h : zH} {E : Nat} (T : zTY z_tt ty h) (X : zExt zty1 ty) (S : zSkl h) (hE : E ≤ 400) (h1 : zv h 1 1 = .int (Int32.ofNat E)) (h9 : zv h 205 9 = .int (Int32.ofNat E)) (Y : zByq h) : zTpe (za h) (rb (za h) 205) E := by
  have p10 : zv h 1 0 = .ref 2 := S.at (1, 0, 2) (by decide +kernel)
  have q10 : q_r ((za h).1 1 0) = 2 := by show q_r (zv h 1 0) = 2; rw [p10]; rfl
  refine ⟨⟨by rw [q10]; decide, h1, hE, fun k => ⟨(Y k).1, (Y k).2.1⟩⟩, funext fun k => (Y k).2.2.symm, p10, S.at (205, 8, 211) (by decide +kernel), rfl, h9, hE, fun k hk => zv_int T (X 206 21 (by decide +kernel)) rfl (n := 2086) rfl (by omega)⟩
end
section
/-! a run of a method that makes no cells; printed with wip/gen/gen_dq.py -/
noncomputable def zBadj : List Nat := [7, 22, 41, 46, 48, 55, 61, 84, 100, 117, 121, 179, 314, 316, 343]
noncomputable def zNa (j : Nat) : Bool := !(zBadj.elem j)
noncomputable def zNai (i : zI) : Bool := decide (i.1 ≠ 47 ∧ i.1 ≠ 48 ∧ i.1 ≠ 49 ∧ i.1 ≠ 70) && (decide (i.1 ≠ 54 ∧ i.1 ≠ 55 ∧ i.1 ≠ 72 ∧ i.1 ≠ 56 ∧ i.1 ≠ 73) || zNa i.2.1)
theorem zNa_all : (List.range z_cs.length).all (fun j => zBadj.elem j || (z_cs.getD j []).all zNai) = true := by decide +kernel
noncomputable def zLnq (o : zNop) : Prop := ∀ (sx : zX) (d a b : Nat) (c : Int) (k : Nat) (l : zL) (st : List Value) (h : zH) (k' : Nat) (l' : zL) (st' : List Value) (h' : zH) (x y : Nat), o sx d a b c k l st h = some (k', l', st', h', x, y) → h'.length = h.length
theorem zlq0 {k k' : Nat} {l l' : zL} {st st' : List Value} {h h' : zH} {x y : Nat} (e : zn k l st h = some (k', l', st', h', x, y)) : h'.length = h.length := by
  obtain ⟨-, -, -, rfl, -⟩ := zn_inj e
  rfl
theorem zlq1 {k k' i : Nat} {l l' : zL} {st st' : List Value} {h h' : zH} {v : zE} {x y : Nat} (e : zn k l st (h.set i v) = some (k', l', st', h', x, y)) : h'.length = h.length := by
  obtain ⟨-, -, -, rfl, -⟩ := zn_inj e
  rw [List.length_set]
theorem zlq_no : zLnq z_no := fun _ _ _ _ _ _ _ _ _ _ _ _ _ _ _ e => by cases e
theorem zlq_const : zLnq zo_const := by
  intro sx d a b c k l st h k' l' st' h' x y e
  unfold zo_const at e
  repeat' split at e
  all_goals first
    | exact zlq0 e
    | exact zlq1 e
    | cases e
theorem zlq_iload : zLnq zo_iload := by
  intro sx d a b c k l st h k' l' st' h' x y e
  unfold zo_iload at e
  repeat' split at e
  all_goals first
    | exact zlq0 e
    | exact zlq1 e
    | cases e
theorem zlq_aload : zLnq zo_aload := by
  intro sx d a b c k l st h k' l' st' h' x y e
  unfold zo_aload at e
  repeat' split at e
  all_goals first
    | exact zlq0 e
    | exact zlq1 e
    | cases e
theorem zlq_lload : zLnq zo_lload := by
  intro sx d a b c k l st h k' l' st' h' x y e
  unfold zo_lload at e
  repeat' split at e
  all_goals first
    | exact zlq0 e
    | exact zlq1 e
    | cases e
theorem zlq_istore : zLnq zo_istore := by
  intro sx d a b c k l st h k' l' st' h' x y e
  unfold zo_istore at e
  repeat' split at e
  all_goals first
    | exact zlq0 e
    | exact zlq1 e
    | cases e
theorem zlq_astore : zLnq zo_astore := by
  intro sx d a b c k l st h k' l' st' h' x y e
  unfold zo_astore at e
  repeat' split at e
  all_goals first
    | exact zlq0 e
    | exact zlq1 e
    | cases e
theorem zlq_lstore : zLnq zo_lstore := by
  intro sx d a b c k l st h k' l' st' h' x y e
  unfold zo_lstore at e
  repeat' split at e
  all_goals first
    | exact zlq0 e
    | exact zlq1 e
    | cases e
theorem zlq_iinc : zLnq zo_iinc := by
  intro sx d a b c k l st h k' l' st' h' x y e
  unfold zo_iinc at e
  repeat' split at e
  all_goals first
    | exact zlq0 e
    | exact zlq1 e
    | cases e
theorem zlq_iadd : zLnq zo_iadd := by
  intro sx d a b c k l st h k' l' st' h' x y e
  unfold zo_iadd at e
  repeat' split at e
  all_goals first
    | exact zlq0 e
    | exact zlq1 e
    | cases e
theorem zlq_isub : zLnq zo_isub := by
  intro sx d a b c k l st h k' l' st' h' x y e
  unfold zo_isub at e
  repeat' split at e
  all_goals first
    | exact zlq0 e
    | exact zlq1 e
    | cases e
theorem zlq_imul : zLnq zo_imul := by
  intro sx d a b c k l st h k' l' st' h' x y e
  unfold zo_imul at e
  repeat' split at e
  all_goals first
    | exact zlq0 e
    | exact zlq1 e
    | cases e
theorem zlq_idiv : zLnq zo_idiv := by
  intro sx d a b c k l st h k' l' st' h' x y e
  unfold zo_idiv at e
  repeat' split at e
  all_goals first
    | exact zlq0 e
    | exact zlq1 e
    | cases e
theorem zlq_irem : zLnq zo_irem := by
  intro sx d a b c k l st h k' l' st' h' x y e
  unfold zo_irem at e
  repeat' split at e
  all_goals first
    | exact zlq0 e
    | exact zlq1 e
    | cases e
theorem zlq_ishl : zLnq zo_ishl := by
  intro sx d a b c k l st h k' l' st' h' x y e
  unfold zo_ishl at e
  repeat' split at e
  all_goals first
    | exact zlq0 e
    | exact zlq1 e
    | cases e
theorem zlq_ishr : zLnq zo_ishr := by
  intro sx d a b c k l st h k' l' st' h' x y e
  unfold zo_ishr at e
  repeat' split at e
  all_goals first
    | exact zlq0 e
    | exact zlq1 e
    | cases e
theorem zlq_iushr : zLnq zo_iushr := by
  intro sx d a b c k l st h k' l' st' h' x y e
  unfold zo_iushr at e
  repeat' split at e
  all_goals first
    | exact zlq0 e
    | exact zlq1 e
    | cases e
theorem zlq_iand : zLnq zo_iand := by
  intro sx d a b c k l st h k' l' st' h' x y e
  unfold zo_iand at e
  repeat' split at e
  all_goals first
    | exact zlq0 e
    | exact zlq1 e
    | cases e
theorem zlq_ior : zLnq zo_ior := by
  intro sx d a b c k l st h k' l' st' h' x y e
  unfold zo_ior at e
  repeat' split at e
  all_goals first
    | exact zlq0 e
    | exact zlq1 e
    | cases e
theorem zlq_ixor : zLnq zo_ixor := by
  intro sx d a b c k l st h k' l' st' h' x y e
  unfold zo_ixor at e
  repeat' split at e
  all_goals first
    | exact zlq0 e
    | exact zlq1 e
    | cases e
theorem zlq_i2l : zLnq zo_i2l := by
  intro sx d a b c k l st h k' l' st' h' x y e
  unfold zo_i2l at e
  repeat' split at e
  all_goals first
    | exact zlq0 e
    | exact zlq1 e
    | cases e
theorem zlq_l2i : zLnq zo_l2i := by
  intro sx d a b c k l st h k' l' st' h' x y e
  unfold zo_l2i at e
  repeat' split at e
  all_goals first
    | exact zlq0 e
    | exact zlq1 e
    | cases e
theorem zlq_i2b : zLnq zo_i2b := by
  intro sx d a b c k l st h k' l' st' h' x y e
  unfold zo_i2b at e
  repeat' split at e
  all_goals first
    | exact zlq0 e
    | exact zlq1 e
    | cases e
theorem zlq_ladd : zLnq zo_ladd := by
  intro sx d a b c k l st h k' l' st' h' x y e
  unfold zo_ladd at e
  repeat' split at e
  all_goals first
    | exact zlq0 e
    | exact zlq1 e
    | cases e
theorem zlq_lmul : zLnq zo_lmul := by
  intro sx d a b c k l st h k' l' st' h' x y e
  unfold zo_lmul at e
  repeat' split at e
  all_goals first
    | exact zlq0 e
    | exact zlq1 e
    | cases e
theorem zlq_ldiv : zLnq zo_ldiv := by
  intro sx d a b c k l st h k' l' st' h' x y e
  unfold zo_ldiv at e
  repeat' split at e
  all_goals first
    | exact zlq0 e
    | exact zlq1 e
    | cases e
theorem zlq_lconst : zLnq zo_lconst := by
  intro sx d a b c k l st h k' l' st' h' x y e
  unfold zo_lconst at e
  repeat' split at e
  all_goals first
    | exact zlq0 e
    | exact zlq1 e
    | cases e
theorem zlq_lcmp : zLnq zo_lcmp := by
  intro sx d a b c k l st h k' l' st' h' x y e
  unfold zo_lcmp at e
  repeat' split at e
  all_goals first
    | exact zlq0 e
    | exact zlq1 e
    | cases e
theorem zlq_dup : zLnq zo_dup := by
  intro sx d a b c k l st h k' l' st' h' x y e
  unfold zo_dup at e
  repeat' split at e
  all_goals first
    | exact zlq0 e
    | exact zlq1 e
    | cases e
theorem zlq_dup2 : zLnq zo_dup2 := by
  intro sx d a b c k l st h k' l' st' h' x y e
  unfold zo_dup2 at e
  repeat' split at e
  all_goals first
    | exact zlq0 e
    | exact zlq1 e
    | cases e
theorem zlq_pop : zLnq zo_pop := by
  intro sx d a b c k l st h k' l' st' h' x y e
  unfold zo_pop at e
  repeat' split at e
  all_goals first
    | exact zlq0 e
    | exact zlq1 e
    | cases e
theorem zlq_goto : zLnq zo_goto := by
  intro sx d a b c k l st h k' l' st' h' x y e
  unfold zo_goto at e
  repeat' split at e
  all_goals first
    | exact zlq0 e
    | exact zlq1 e
    | cases e
theorem zlq_if : zLnq zo_if := by
  intro sx d a b c k l st h k' l' st' h' x y e
  unfold zo_if at e
  repeat' split at e
  all_goals first
    | exact zlq0 e
    | exact zlq1 e
    | cases e
theorem zlq_icmp : zLnq zo_icmp := by
  intro sx d a b c k l st h k' l' st' h' x y e
  unfold zo_icmp at e
  repeat' split at e
  all_goals first
    | exact zlq0 e
    | exact zlq1 e
    | cases e
theorem zlq_ifnn : zLnq zo_ifnn := by
  intro sx d a b c k l st h k' l' st' h' x y e
  unfold zo_ifnn at e
  repeat' split at e
  all_goals first
    | exact zlq0 e
    | exact zlq1 e
    | cases e
theorem zlq_lald : zLnq zo_lald := by
  intro sx d a b c k l st h k' l' st' h' x y e
  unfold zo_lald at e
  repeat' split at e
  all_goals first
    | exact zlq0 e
    | exact zlq1 e
    | cases e
theorem zlq_tsw : zLnq zo_tsw := by
  intro sx d a b c k l st h k' l' st' h' x y e
  unfold zo_tsw at e
  repeat' split at e
  all_goals first
    | exact zlq0 e
    | exact zlq1 e
    | cases e
theorem zlq_lsw2 : zLnq zo_lsw2 := by
  intro sx d a b c k l st h k' l' st' h' x y e
  unfold zo_lsw2 at e
  repeat' split at e
  all_goals first
    | exact zlq0 e
    | exact zlq1 e
    | cases e
theorem zlq_get : zLnq zo_get := by
  intro sx d a b c k l st h k' l' st' h' x y e
  unfold zo_get at e
  repeat' split at e
  all_goals first
    | exact zlq0 e
    | exact zlq1 e
    | cases e
theorem zlq_put : zLnq zo_put := by
  intro sx d a b c k l st h k' l' st' h' x y e
  unfold zo_put at e
  repeat' split at e
  all_goals first
    | exact zlq0 e
    | exact zlq1 e
    | cases e
theorem zlq_iald : zLnq zo_iald := by
  intro sx d a b c k l st h k' l' st' h' x y e
  unfold zo_iald at e
  repeat' split at e
  all_goals first
    | exact zlq0 e
    | exact zlq1 e
    | cases e
theorem zlq_iast : zLnq zo_iast := by
  intro sx d a b c k l st h k' l' st' h' x y e
  unfold zo_iast at e
  repeat' split at e
  all_goals first
    | exact zlq0 e
    | exact zlq1 e
    | cases e
theorem zlq_bald : zLnq zo_bald := by
  intro sx d a b c k l st h k' l' st' h' x y e
  unfold zo_bald at e
  repeat' split at e
  all_goals first
    | exact zlq0 e
    | exact zlq1 e
    | cases e
theorem zlq_bast : zLnq zo_bast := by
  intro sx d a b c k l st h k' l' st' h' x y e
  unfold zo_bast at e
  repeat' split at e
  all_goals first
    | exact zlq0 e
    | exact zlq1 e
    | cases e
theorem zlq_last : zLnq zo_last := by
  intro sx d a b c k l st h k' l' st' h' x y e
  unfold zo_last at e
  repeat' split at e
  all_goals first
    | exact zlq0 e
    | exact zlq1 e
    | cases e
theorem zlq_aald : zLnq zo_aald := by
  intro sx d a b c k l st h k' l' st' h' x y e
  unfold zo_aald at e
  repeat' split at e
  all_goals first
    | exact zlq0 e
    | exact zlq1 e
    | cases e
theorem zlq_aast : zLnq zo_aast := by
  intro sx d a b c k l st h k' l' st' h' x y e
  unfold zo_aast at e
  repeat' split at e
  all_goals first
    | exact zlq0 e
    | exact zlq1 e
    | cases e
theorem zlq_alen : zLnq zo_alen := by
  intro sx d a b c k l st h k' l' st' h' x y e
  unfold zo_alen at e
  repeat' split at e
  all_goals first
    | exact zlq0 e
    | exact zlq1 e
    | cases e
theorem zlq_oinit : zLnq zo_oinit := by
  intro sx d a b c k l st h k' l' st' h' x y e
  unfold zo_oinit at e
  repeat' split at e
  all_goals first
    | exact zlq0 e
    | exact zlq1 e
    | cases e
theorem zlq_ldcs : zLnq zo_ldcs := by
  intro sx d a b c k l st h k' l' st' h' x y e
  unfold zo_ldcs at e
  repeat' split at e
  all_goals first
    | exact zlq0 e
    | exact zlq1 e
    | cases e
theorem zlq_slength : zLnq zo_slength := by
  intro sx d a b c k l st h k' l' st' h' x y e
  unfold zo_slength at e
  repeat' split at e
  all_goals first
    | exact zlq0 e
    | exact zlq1 e
    | cases e
theorem zlq_scharAt : zLnq zo_scharAt := by
  intro sx d a b c k l st h k' l' st' h' x y e
  unfold zo_scharAt at e
  repeat' split at e
  all_goals first
    | exact zlq0 e
    | exact zlq1 e
    | cases e
theorem zlq_acopy : zLnq zo_acopy := by
  intro sx d a b c k l st h k' l' st' h' x y e
  unfold zo_acopy at e
  repeat' split at e
  all_goals first
    | exact zlq0 e
    | exact zlq1 e
    | cases e
theorem zlq_null : zLnq zo_null := by
  intro sx d a b c k l st h k' l' st' h' x y e
  unfold zo_null at e
  repeat' split at e
  all_goals first
    | exact zlq0 e
    | exact zlq1 e
    | cases e
theorem zlq_sald : zLnq zo_sald := by
  intro sx d a b c k l st h k' l' st' h' x y e
  unfold zo_sald at e
  repeat' split at e
  all_goals first
    | exact zlq0 e
    | exact zlq1 e
    | cases e
theorem zlq_slen : zLnq zo_slen := by
  intro sx d a b c k l st h k' l' st' h' x y e
  unfold zo_slen at e
  repeat' split at e
  all_goals first
    | exact zlq0 e
    | exact zlq1 e
    | cases e
theorem zlq_min : zLnq zo_min := by
  intro sx d a b c k l st h k' l' st' h' x y e
  unfold zo_min at e
  repeat' split at e
  all_goals first
    | exact zlq0 e
    | exact zlq1 e
    | cases e
theorem zlq_max : zLnq zo_max := by
  intro sx d a b c k l st h k' l' st' h' x y e
  unfold zo_max at e
  repeat' split at e
  all_goals first
    | exact zlq0 e
    | exact zlq1 e
    | cases e
theorem zlq_cast : zLnq zo_cast := by
  intro sx d a b c k l st h k' l' st' h' x y e
  unfold zo_cast at e
  repeat' split at e
  all_goals first
    | exact zlq0 e
    | exact zlq1 e
    | cases e
theorem zlq_all : ∀ o, (o ≠ 47 ∧ o ≠ 48 ∧ o ≠ 49 ∧ o ≠ 70) → zLnq (z_ops.getD o z_no)
  | 0, _ => zlq_const
  | 1, _ => zlq_iload
  | 2, _ => zlq_aload
  | 3, _ => zlq_lload
  | 4, _ => zlq_istore
  | 5, _ => zlq_astore
  | 6, _ => zlq_lstore
  | 7, _ => zlq_iinc
  | 8, _ => zlq_iadd
  | 9, _ => zlq_isub
  | 10, _ => zlq_imul
  | 11, _ => zlq_idiv
  | 12, _ => zlq_irem
  | 13, _ => zlq_ishl
  | 14, _ => zlq_ishr
  | 15, _ => zlq_iushr
  | 16, _ => zlq_iand
  | 17, _ => zlq_ior
  | 18, _ => zlq_ixor
  | 19, _ => zlq_i2l
  | 20, _ => zlq_l2i
  | 21, _ => zlq_i2b
  | 22, _ => zlq_ladd
  | 23, _ => zlq_lmul
  | 24, _ => zlq_ldiv
  | 25, _ => zlq_lconst
  | 26, _ => zlq_lcmp
  | 27, _ => zlq_dup
  | 28, _ => zlq_dup2
  | 29, _ => zlq_pop
  | 30, _ => zlq_goto
  | 31, _ => zlq_if
  | 32, _ => zlq_icmp
  | 33, _ => zlq_ifnn
  | 34, _ => zlq_lald
  | 35, _ => zlq_tsw
  | 36, _ => zlq_lsw2
  | 37, _ => zlq_get
  | 38, _ => zlq_put
  | 39, _ => zlq_iald
  | 40, _ => zlq_iast
  | 41, _ => zlq_bald
  | 42, _ => zlq_bast
  | 43, _ => zlq_last
  | 44, _ => zlq_aald
  | 45, _ => zlq_aast
  | 46, _ => zlq_alen
  | 47, h => absurd rfl h.1
  | 48, h => absurd rfl h.2.1
  | 49, h => absurd rfl h.2.2.1
  | 50, _ => zlq_no
  | 51, _ => zlq_no
  | 52, _ => zlq_no
  | 53, _ => zlq_no
  | 54, _ => zlq_no
  | 55, _ => zlq_no
  | 56, _ => zlq_no
  | 57, _ => zlq_oinit
  | 58, _ => zlq_ldcs
  | 59, _ => zlq_slength
  | 60, _ => zlq_scharAt
  | 61, _ => zlq_acopy
  | 62, _ => zlq_no
  | 63, _ => zlq_null
  | 64, _ => zlq_no
  | 65, _ => zlq_sald
  | 66, _ => zlq_slen
  | 67, _ => zlq_min
  | 68, _ => zlq_max
  | 69, _ => zlq_no
  | 70, h => absurd rfl h.2.2.2
  | 71, _ => zlq_cast
  | n + 72, _ => zlq_no
theorem z_run_lenq (sx : zX) : ∀ (n d j k : Nat) (lo : zL) (st : List Value) (h : zH) (o : zO) (h' : zH) (x y : Nat), zNa j = true → z_run sx n d j k lo st h = some (o, h', x, y) → h'.length = h.length := by
  intro n
  induction n with
  | zero => intro d j k lo st h o h' x y _ hr; rw [z_run] at hr; cases hr
  | succ n ih =>
    intro d j k lo st h o h' x y hj hr
    rw [z_run] at hr
    cases hM : z_ms[j]? with
    | none => rw [hM] at hr; cases hr
    | some M =>
    cases hC : z_cs[j]? with
    | none => rw [hM, hC] at hr; cases hr
    | some cs =>
    cases hH : z_hs[j]? with
    | none => rw [hM, hC, hH] at hr; cases hr
    | some hs =>
    rw [hM, hC, hH] at hr
    dsimp only at hr
    cases hk : cs[k]? with
    | none => rw [hk] at hr; cases hr
    | some i =>
    have hno : zNai i = true := by
      have h1 := List.all_eq_true.mp zNa_all j (List.mem_range.mpr (List.getElem?_eq_some_iff.mp hC).1)
      unfold zNa at hj
      rw [Bool.not_eq_true'] at hj
      rw [hj, Bool.false_or, List.getD_eq_getElem?_getD, hC] at h1
      exact List.all_eq_true.mp h1 i (List.mem_of_getElem? hk)
    unfold zNai at hno
    rw [Bool.and_eq_true, Bool.or_eq_true, decide_eq_true_eq, decide_eq_true_eq] at hno
    obtain ⟨n1, n3⟩ := hno
    rw [hk] at hr
    dsimp only at hr
    cases hf : z_fin M i d st with
    | some w =>
      rw [hf] at hr
      obtain ⟨w1, w2, w3⟩ := w
      simp only [Option.some.injEq, Prod.mk.injEq] at hr
      obtain ⟨-, rfl, -⟩ := hr
      rfl
    | none =>
    rw [hf] at hr
    dsimp only at hr
    cases hc : z_cal i d st h with
    | some w =>
      obtain ⟨j', as, rest⟩ := w
      have hj' : zNa j' = true := by
        have e1 := (z_cal_in hc).1
        have e2 := z_cal_no e1
        have e3 : j' = i.2.1 := by
          clear hr
          unfold z_cal0 at e1
          repeat' split at e1
          all_goals first
            | (simp only [Option.some.injEq, Prod.mk.injEq] at e1; exact e1.1.symm)
            | cases e1
        rw [e3]
        rcases n3 with n3 | n3
        · omega
        · exact n3
      rw [hc] at hr
      dsimp only at hr
      cases hin : z_run sx n (d - 1) j' 0 (lv_args 0 as) [] h with
      | none => rw [hin] at hr; cases hr
      | some w =>
      obtain ⟨oi, h1, x1, y1⟩ := w
      rw [hin] at hr
      have k1 := ih _ _ _ _ _ _ _ _ _ _ hj' hin
      cases oi with
      | inl v =>
        dsimp only at hr
        obtain ⟨a, b, e1, e2, e3⟩ := z_mapadd hr
        have k2 := ih _ _ _ _ _ _ _ _ _ _ hj e1
        omega
      | inr E =>
        dsimp only at hr
        by_cases hi : i.1 = 54
        case neg => rw [if_neg hi] at hr; cases hr
        rw [if_pos hi] at hr
        cases hfd : hs.find? (fun q => q.2.2.2.2.1 == E) with
        | some q =>
          rw [hfd] at hr
          dsimp only at hr
          obtain ⟨a, b, e1, e2, e3⟩ := z_mapadd hr
          have k2 := ih _ _ _ _ _ _ _ _ _ _ hj e1
          omega
        | none =>
          rw [hfd] at hr
          dsimp only at hr
          split at hr
          · simp only [Option.some.injEq, Prod.mk.injEq] at hr
            obtain ⟨-, rfl, rfl, -⟩ := hr
            exact k1
          · cases hr
    | none =>
    rw [hc] at hr
    dsimp only at hr
    cases ho : (z_ops.getD i.1 z_no) sx d i.2.1 i.2.2.1 i.2.2.2 k lo st h with
    | none => rw [ho] at hr; cases hr
    | some w =>
    obtain ⟨k', lo', st', h1, x1, y1⟩ := w
    rw [ho] at hr
    dsimp only at hr
    have k1 := zlq_all i.1 n1 _ _ _ _ _ _ _ _ _ _ _ _ _ _ _ ho
    obtain ⟨a, b, e1, e2, e3⟩ := z_mapadd hr
    have k2 := ih _ _ _ _ _ _ _ _ _ _ hj e1
    omega
theorem z_ok.lenq {sx : zX} {d j k : Nat} {lo : zL} {st : List Value} {h : zH} {Ψ : zO → zH → Nat → Nat → Prop} (hj : zNa j = true) (H : z_ok sx d j k lo st h Ψ) : z_ok sx d j k lo st h (fun o h' x y => Ψ o h' x y ∧ h'.length = h.length) := by
  obtain ⟨n, o, h', x, y, e, q⟩ := H
  exact ⟨n, o, h', x, y, e, q, z_run_lenq sx n d j k lo st h o h' x y hj e⟩
end
section
/-! the new law's cells: their types, and how many there are -/
theorem zpt {ty : List Nat} {h : zH} {c t k r q : Nat} {a b lo hi : Int} (T : zTY z_tt ty h) (ht : ty[c]? = some t) (hv : zv h c k = .ref r) (hq : q = 2 ∨ q = 3) (hr : (a, b, (q, lo, hi)) ∈ (z_tt t).2.2.2) (h1 : a ≤ (k : Int)) (h2 : (k : Int) ≤ b) : ∃ t', ty[r]? = some t' ∧ lo ≤ (t' : Int) ∧ (t' : Int) ≤ hi := by
  obtain ⟨e, he, hs, hG⟩ := zcell T ht
  rw [zv_at he] at hv
  cases hz : z_rd e k with
  | none => rw [hz] at hv; cases hv
  | some v =>
    rw [hz] at hv
    have hv : v = .ref r := hv
    subst hv
    have g := hG k _ hz _ hr h1 h2
    rcases hq with rfl | rfl
    · obtain ⟨i, t', e1, e2, e3, e4⟩ := g
      cases e1
      exact ⟨t', e2, e3, e4⟩
    · rcases g with g | ⟨i, t', e1, e2, e3, e4⟩
      · cases g
      · cases e1
        exact ⟨t', e2, e3, e4⟩
theorem ztt100b {t : Nat} (h1 : 100 ≤ t) (h2 : t ≤ 112) : (z_tt t).2.2.2 = [(0, 0, (0, ((t - 100 : Nat) : Int), ((t - 100 : Nat) : Int))), (1, 2, (2, ((t + 40 : Nat) : Int), ((t + 40 : Nat) : Int))), (3, 3, (2, ((t + 20 : Nat) : Int), ((t + 20 : Nat) : Int))), (4, 4, (2, 1000, 1400)), (5, 5, (2, 34, 34))] := by
  unfold z_tt
  rw [if_neg (by omega), if_pos ⟨h1, h2⟩]
theorem zlaw_new {ty ty1 : List Nat} {h h1 : zH} {k : Int32} {E : Nat} {bt : Nat → Int} (T : zTY z_tt ty h) (T1 : zTY z_tt ty1 h1) (X0 : zExt zty1 ty) (X : zExt ty ty1) (L0 : zLwt ty) (hm : h.length % 6 = 3) (hl : h1.length ≤ h.length + 6) (Q : cLw (za h) 0 1 3 8 47 7 4 5 6 2 bt E) (G1 : p_316w 0 218 (za h) k (za h1)) : zLwt ty1 ∧ (k.toInt = 0 → (za h1).2.2 = (za h).2.2 + 6 ∧ (za h1).2.1 ((za h).2.2 + 2) = 32) := by
  obtain ⟨e, τ, ⟨g, gw⟩, alts⟩ := G1
  obtain ⟨f, -, Rs, hR, xo⟩ := g 1 3 8 47 7 4 5 6 2 bt E Q
  cases Rs with
  | inr F =>
    obtain ⟨rfl, x1, x2, x3⟩ := xo
    rcases alts with ⟨v, q, -, -⟩ | ⟨-, r1, r2⟩
    · cases q
    · have hl' : h1.length = h.length := by
        have e1 : (za h1).2.2 = (za h).2.2 := by rw [r2]; exact x3
        exact e1
      exact ⟨L0.keep T T1 X hl', fun q => by rw [r1] at q; exact absurd q (by decide)⟩
  | inl q =>
    obtain ⟨ls, l⟩ := q
    obtain ⟨rfl, x1, x2, x3, x4, x5, y0, y1, y2, y3, y4, y5, -⟩ := xo
    rcases alts with ⟨v, q, r1, r2⟩ | ⟨q, -, -⟩
    case inr => cases q
    have hL : 219 ≤ h.length := by
      rw [← T.1]
      exact (List.getElem?_eq_some_iff.mp (X0 218 33 (by decide +kernel))).1
    have hv : ∀ c q, c ≠ 218 → zv h1 c q = τ.1 c q := fun c q hc => by
      have e1 : (za h1).1 c q = τ.1 c q := by rw [r2]; exact q_w_ne (fun e _ => hc e)
      exact e1
    obtain ⟨tL, a1, a2, a3⟩ := zpt (q := 3) (a := 5) (b := 5) (lo := 100) (hi := 112) T1 (X _ _ (X0 8 8 (by decide +kernel))) ((hv 8 5 (by omega)).trans x4) (Or.inr rfl) (by decide +kernel) (by decide) (by decide)
    have tt := ztt100b (t := tL) (by omega) (by omega)
    have hs : ((za h).2.2 : Nat) = h.length := rfl
    rw [hs] at a1 y1 y2 y3 y4 y5
    obtain ⟨t3, b1, b2, b3⟩ := zpt (q := 2) (a := 1) (b := 2) (lo := ((tL + 40 : Nat) : Int)) (hi := ((tL + 40 : Nat) : Int)) T1 a1 ((hv _ 1 (by omega)).trans y1) (Or.inl rfl) (by rw [tt]; simp) (by decide) (by decide)
    obtain ⟨t4, c1, c2, c3⟩ := zpt (q := 2) (a := 1) (b := 2) (lo := ((tL + 40 : Nat) : Int)) (hi := ((tL + 40 : Nat) : Int)) T1 a1 ((hv _ 2 (by omega)).trans y2) (Or.inl rfl) (by rw [tt]; simp) (by decide) (by decide)
    obtain ⟨t5, d1, d2, d3⟩ := zpt (q := 2) (a := 3) (b := 3) (lo := ((tL + 20 : Nat) : Int)) (hi := ((tL + 20 : Nat) : Int)) T1 a1 ((hv _ 3 (by omega)).trans y3) (Or.inl rfl) (by rw [tt]; simp) (by decide) (by decide)
    obtain ⟨t1, g1, g2, g3⟩ := zpt (q := 2) (a := 4) (b := 4) (lo := 1000) (hi := 1400) T1 a1 ((hv _ 4 (by omega)).trans y4) (Or.inl rfl) (by rw [tt]; simp) (by decide) (by decide)
    obtain ⟨t2, i1, i2, i3⟩ := zpt (q := 2) (a := 5) (b := 5) (lo := 34) (hi := 34) T1 a1 ((hv _ 5 (by omega)).trans y5) (Or.inl rfl) (by rw [tt]; simp) (by decide) (by decide)
    have l5 : h.length + 5 < h1.length := by
      rw [← T1.1]
      exact (List.getElem?_eq_some_iff.mp d1).1
    have e2 : t2 = 34 := by omega
    subst e2
    refine ⟨fun c t q1 q2 ht => ?_, fun _ => ⟨(show h1.length = h.length + 6 by omega), zvl_of T1 i1 rfl rfl⟩⟩
    by_cases hc : c < h.length
    · have hc' : c < ty.length := by rw [T.1]; exact hc
      have e : ty[c]? = some ty[c] := List.getElem?_eq_getElem hc'
      have := X c _ e
      rw [ht] at this
      cases this
      exact L0 c _ q1 q2 e
    · have hc1 : c < h1.length := by
        rw [← T1.1]
        exact (List.getElem?_eq_some_iff.mp ht).1
      have h5 : c = h.length ∨ c = h.length + 1 ∨ c = h.length + 3 ∨ c = h.length + 4 ∨ c = h.length + 5 := by omega
      rcases h5 with rfl | rfl | rfl | rfl | rfl
      · rw [a1] at ht; cases ht; omega
      · rw [g1] at ht; cases ht; omega
      · rw [b1] at ht; cases ht; omega
      · rw [c1] at ht; cases ht; omega
      · rw [d1] at ht; cases ht; omega
end
section
/-! THE LAW: what holds at its loop's head, and its steps; printed with wip/gen/gen_law.py -/
theorem zJ_343 : zJ3 343 z_m343 z_c343 z_h343 := ⟨rfl, rfl, rfl⟩
theorem zJ_344 : zJ3 344 z_m344 z_c344 z_h344 := ⟨rfl, rfl, rfl⟩
noncomputable def zLxt (ty : List Nat) (h : zH) (ax am ao : Nat) : Prop := (ax = 0 ∧ am = 205 ∧ ao = 218) ∧ zExt zty1 ty ∧ zSkl h ∧ zByq h
theorem zLxt.keep {ms : List zMod} {ty ty' : List Nat} {h h' : zH} {ax am ao : Nat} (L : zLxt ty h ax am ao) (T : zTY z_tt ty h) (T' : zTY z_tt ty' h') (X : zExt ty ty') (F : zFm ms ty h h') (hm : (zskOK ms && zby3 ms) = true) : zLxt ty' h' ax am ao := by
  obtain ⟨c, X0, S, Y⟩ := L
  rw [Bool.and_eq_true] at hm
  have S' := S.keep T T' F X0 hm.1
  exact ⟨c, fun a t ha => X a t (X0 a t ha), S', Y.keep S S' T T' F X0 hm.2⟩
theorem zcell3 {ty : List Nat} {h : zH} {a t n : Nat} (T : zTY z_tt ty h) (ht : ty[a]? = some t) (hk : (z_tt t).1 = 3) (hn : (z_tt t).2.2.1 = n) : ∃ f : Nat → Int64, h[a]? = some (.inl (2, (n, .inr (.inl f)))) := by
  obtain ⟨e, he, hs, -⟩ := zcell T ht
  obtain ⟨f, rfl⟩ := zsh3 hs hk
  exact ⟨f, by rw [he, hn]⟩
theorem zthr {sx : zX} {d a : Nat} {h : zH} {fs : List Value} {t : Int32} (he : h[a]? = some (.inr (9, fs))) (hf : fs[0]? = some (.int t)) : z_ok sx d 344 0 (lv_args 0 [.ref a]) [] h (fun o h' x y => o = .inl (some (.int t)) ∧ h' = h ∧ x = 0 ∧ y = 0) := by
  refine zh_ald zJ_344 (a := 0) (b := 0) (z := 0) rfl (k' := 1) rfl rfl ?_
  refine zh_get zJ_344 (z := 0) rfl (k' := 2) rfl he hf ?_
  exact zh_iret zJ_344 (a := 0) (b := 0) (z := 0) rfl (Or.inl rfl) ⟨rfl, rfl, rfl, rfl⟩
theorem zlg_self (x : Int64) : z_cmp 0 (lg_cmp x x) 0 = true := by
  have e : lg_cmp x x = 0 := by
    unfold lg_cmp
    rw [if_neg (fun h => Int64.lt_irrefl h), if_pos rfl]
  rw [e]
  rfl
noncomputable def zIvw (ty : List Nat) (h : zH) (ax am ao : Nat) (N : Int) : Prop := zTY z_tt ty h ∧ zE1 ty h ∧ ty[ax]? = some 1 ∧ ty[am]? = some 20 ∧ ty[ao]? = some 33 ∧ zTp ty h ax N ∧ zMp h am N ∧ 0 ≤ N ∧ N ≤ 400 ∧ zLxt ty h ax am ao ∧ zLwt ty
noncomputable def zIw (ty : List Nat) (h : zH) (ax am ao : Nat) (N : Int) : Prop := zTY z_tt ty h ∧ zE1 ty h ∧ ty[ax]? = some 1 ∧ ty[am]? = some 20 ∧ ty[ao]? = some 33 ∧ zTp ty h ax N ∧ zMp h am N ∧ 0 ≤ N ∧ N ≤ 400 ∧ zLxt ty h ax am ao ∧ zLwt ty ∧ zHld (za h)
noncomputable def zLv (lo : zL) (ax am ao i : Nat) : Prop := z_get lo 0 = some (.ref zS) ∧ z_get lo 1 = some (.ref ax) ∧ z_get lo 2 = some (.ref am) ∧ z_get lo 3 = some (.ref ao) ∧ ∃ x : Int32, z_get lo 4 = some (.int x) ∧ x.toInt = (i : Int)
theorem zIw.v {ty : List Nat} {h : zH} {ax am ao : Nat} {N : Int} (I : zIw ty h ax am ao N) : zIvw ty h ax am ao N := ⟨I.1, I.2.1, I.2.2.1, I.2.2.2.1, I.2.2.2.2.1, I.2.2.2.2.2.1, I.2.2.2.2.2.2.1, I.2.2.2.2.2.2.2.1, I.2.2.2.2.2.2.2.2.1, I.2.2.2.2.2.2.2.2.2.1, I.2.2.2.2.2.2.2.2.2.2.1⟩
theorem zIvw.w {ty : List Nat} {h : zH} {ax am ao : Nat} {N : Int} (I : zIvw ty h ax am ao N) (H : zHld (za h)) : zIw ty h ax am ao N := ⟨I.1, I.2.1, I.2.2.1, I.2.2.2.1, I.2.2.2.2.1, I.2.2.2.2.2.1, I.2.2.2.2.2.2.1, I.2.2.2.2.2.2.2.1, I.2.2.2.2.2.2.2.2.1, I.2.2.2.2.2.2.2.2.2.1, I.2.2.2.2.2.2.2.2.2.2, H⟩
theorem zIw.lx {ty : List Nat} {h : zH} {ax am ao : Nat} {N : Int} (I : zIw ty h ax am ao N) : zLxt ty h ax am ao := I.2.2.2.2.2.2.2.2.2.1
theorem zIw.lt {ty : List Nat} {h : zH} {ax am ao : Nat} {N : Int} (I : zIw ty h ax am ao N) : zLwt ty := I.2.2.2.2.2.2.2.2.2.2.1
theorem zIw.hd {ty : List Nat} {h : zH} {ax am ao : Nat} {N : Int} (I : zIw ty h ax am ao N) : zHld (za h) := I.2.2.2.2.2.2.2.2.2.2.2
theorem zIw.b2 {ty : List Nat} {h : zH} {ax am ao : Nat} {N : Int} (I : zIw ty h ax am ao N) : N ≤ 400 := I.2.2.2.2.2.2.2.2.1
theorem zIvw.keep {ms : List zMod} {ty ty' : List Nat} {h h' : zH} {ax am ao : Nat} {N : Int} (I : zIvw ty h ax am ao N) (X : zExt ty ty') (T' : zTY z_tt ty' h') (E' : zE1 ty' h') (F : zFm ms ty h h') (n1 : ¬ zIn ms 1 0) (n2 : ¬ zIn ms 2 1) (n3 : ¬ zIn ms 20 9) (n4 : (zskOK ms && zby3 ms) = true) (hl : h'.length = h.length) : zIvw ty' h' ax am ao N := by
  obtain ⟨T, E, ha, hm, ho, P, Q, b1, b2, L, Lt⟩ := I
  exact ⟨T', E', X ax 1 ha, X am 20 hm, X ao 33 ho, P.keep ha T' X F n1 n2, Q.keep hm T' X F n3, b1, b2, L.keep T T' X F n4, Lt.keep T T' X hl⟩
theorem zIw.keep {ms : List zMod} {ty ty' : List Nat} {h h' : zH} {ax am ao : Nat} {N : Int} (I : zIw ty h ax am ao N) (X : zExt ty ty') (T' : zTY z_tt ty' h') (E' : zE1 ty' h') (F : zFm ms ty h h') (n1 : ¬ zIn ms 1 0) (n2 : ¬ zIn ms 2 1) (n3 : ¬ zIn ms 20 9) (n4 : (zskOK ms && zby3 ms) = true) (hl : h'.length = h.length) (n5 : zqOK ms = true) : zIw ty' h' ax am ao N := (I.v.keep X T' E' F n1 n2 n3 n4 hl).w (I.hd.keep I.1 T' I.lx.2.1 X I.lt F hl n5)
theorem zLv.set {lo : zL} {ax am ao i b : Nat} {v : Int32} (L : zLv lo ax am ao i) (hb : 4 < b) : zLv (z_set1 lo b (.int v)) ax am ao i := by
  obtain ⟨g0, g1, g2, g3, x, g4, ex⟩ := L
  exact ⟨zget_set1_ne g0 (by omega) rfl, zget_set1_ne g1 (by omega) rfl, zget_set1_ne g2 (by omega) rfl, zget_set1_ne g3 (by omega) rfl, x, zget_set1_ne g4 (by omega) rfl, ex⟩
section ZLW
variable {sx : zX} {d k : Nat} {lo : zL} {st rest : List Value} {h : zH} {Ψ : zO → zH → Nat → Nat → Prop} {ax am ao i : Nat}
theorem zcal72 {j' n : Nat} {c : Int} {xs : List Value} {M' : zMi} (hd : 0 < d) (hst : st = xs ++ rest) (hx : xs.length = n) (hz : z_cat rest ≤ 8) (hM : z_ms[j']? = some M') (hl : (lg_sl xs.reverse).length ≤ M'.2.2.2.1) : z_cal (72, j', n, c) d st h = some (j', xs.reverse, rest) := by
  subst hst
  have h0 : z_cal0 (72, j', n, c) d (xs ++ rest) h = some (j', xs.reverse, rest) := by
    unfold z_cal0
    have e1 : ¬ (d = 0 ∨ (xs ++ rest).length < n) := by
      rw [List.length_append]
      omega
    have e2 : (xs ++ rest).drop n = rest := by rw [← hx]; exact List.drop_left
    have e3 : (xs ++ rest).take n = xs := by rw [← hx]; exact List.take_left
    dsimp only
    rw [if_neg e1, e2, e3, if_pos hz]
    rfl
  unfold z_cal
  rw [h0]
  dsimp only
  rw [hM]
  dsimp only
  rw [if_pos hl]
/-- a number of the script -/
theorem zscr (k k1 k2 k3 k4 k5 : Nat) {m : Int} (M : Nat) (i0 : z_c343[k]? = some (2, 0, 0, 0)) (i1 : z_c343[k1]? = some (1, 4, 0, 0)) (i2 : z_c343[k2]? = some (0, 0, 0, m)) (i3 : z_c343[k3]? = some (8, 0, 0, 0)) (i4 : z_c343[k4]? = some (65, 0, 0, 0)) (e1 : k + 1 = k1) (e2 : k1 + 1 = k2) (e3 : k2 + 1 = k3) (e4 : k3 + 1 = k4) (e5 : k4 + 1 = k5) (em : m = (M : Int)) (hm : M ≤ 5) (Lv : zLv lo ax am ao i) (hi : i + 6 ≤ sx.1) (hL : sx.1 ≤ 3072) (kk : ∀ v : Int32, v = sx.2 (i + M) → z_ok sx d 343 k5 lo (.int v :: st) h Ψ) : z_ok sx d 343 k lo st h Ψ := by
  obtain ⟨g0, -, -, -, x, g4, ex⟩ := Lv
  refine zh_ald zJ_343 i0 e1 g0 ?_
  refine zh_ild zJ_343 i1 e2 g4 ?_
  refine zh zJ_343 i2 rfl (k' := k3) (lo' := lo) (st' := .int (Int32.ofInt m) :: .int x :: .ref zS :: st) (h' := h) (by rw [← e3]; rfl) ?_
  refine zh zJ_343 i3 rfl (k' := k4) (lo' := lo) (st' := .int (x + Int32.ofInt m) :: .ref zS :: st) (h' := h) (by rw [← e4]; rfl) ?_
  have ei : (x + Int32.ofInt m).toInt = ((i + M : Nat) : Int) := by
    rw [zI_add ex (zI_c (by omega) (by omega)) (by omega) (by omega)]
    omega
  refine zh zJ_343 i4 rfl (k' := k5) (lo' := lo) (st' := .int (sx.2 (i + M)) :: st) (h' := h) ?_ (kk _ rfl)
  show zo_sald sx d 0 0 0 k4 lo (.int (x + Int32.ofInt m) :: .ref zS :: st) h = _
  unfold zo_sald
  dsimp only
  rw [if_pos ⟨rfl, (z_inn (by omega) (by omega)).1⟩, znat ei, e5]
/-- a truth value -/
theorem zboo (k k1 k2 k3 k4 : Nat) {u : Int32} (i0 : z_c343[k]? = some (31, k3, 0, 0)) (i1 : z_c343[k1]? = some (0, 0, 0, 1)) (i2 : z_c343[k2]? = some (30, k4, 0, 0)) (i3 : z_c343[k3]? = some (0, 0, 0, 0)) (e1 : k + 1 = k1) (e2 : k1 + 1 = k2) (e4 : k3 + 1 = k4) (kk : ∀ v : Int32, (0 ≤ v.toInt ∧ v.toInt ≤ 1) → v = (if z_cmp 0 u 0 = true then Int32.ofInt 0 else Int32.ofInt 1) → z_ok sx d 343 k4 lo (.int v :: st) h Ψ) : z_ok sx d 343 k lo (.int u :: st) h Ψ := by
  refine zh_if zJ_343 i0 (fun q => ?_) (fun q => ?_)
  · exact zh zJ_343 i3 rfl (k' := k4) (lo' := lo) (st' := .int (Int32.ofInt 0) :: st) (h' := h) (by rw [← e4]; rfl) (kk _ (by decide) (if_pos q).symm)
  · rw [e1]
    refine zh zJ_343 i1 rfl (k' := k2) (lo' := lo) (st' := .int (Int32.ofInt 1) :: st) (h' := h) (by rw [← e2]; rfl) ?_
    exact zh zJ_343 i2 rfl (k' := k4) (lo' := lo) (st' := .int (Int32.ofInt 1) :: st) (h' := h) rfl (kk _ (by decide) (if_neg q).symm)
/-- a call whose run is known, with what it costs -/
theorem zlrun {k' j' : Nat} {as : List Value} {i : zI} {Φ : zO → zH → Nat → Nat → Prop} (hi : z_c343[k]? = some i) (hk : k + 1 = k') (hn : i.1 ≠ 50 ∧ i.1 ≠ 51 ∧ i.1 ≠ 52 ∧ i.1 ≠ 53 ∧ i.1 ≠ 62) (hc : z_cal i d st h = some (j', as, rest)) (R : z_ok sx (d - 1) j' 0 (lv_args 0 as) [] h Φ) (kk : ∀ o h' x y, Φ o h' x y → h'.length ≤ h.length + x → ∃ v, o = .inl v ∧ z_ok sx d 343 k' lo (v.toList ++ rest) h' (fun o h9 a b => Ψ o h9 (a + x) (b + y))) : z_ok sx d 343 k lo st h Ψ := by
  refine z_ok.call zJ_343.1 zJ_343.2.1 zJ_343.2.2 hi (z_fin_no hn) hc (z_ok.imp (z_ok.len R) (fun o h' x y q => ?_))
  obtain ⟨v, rfl, h9⟩ := kk o h' x y q.1 q.2
  rw [← hk] at h9
  exact h9
/-- a call by a contract that answers an int, or nothing -/
theorem zlcon {ty : List Nat} {N : Int} {k' j' : Nat} {as : List Value} {i : zI} {ct : zCt} (I : zIw ty h ax am ao N) (hi : z_c343[k]? = some i) (hk : k + 1 = k') (hn : i.1 ≠ 50 ∧ i.1 ≠ 51 ∧ i.1 ≠ 52 ∧ i.1 ≠ 53 ∧ i.1 ≠ 62) (hc : z_cal i d st h = some (j', as, rest)) (V : zVd z_tt zE1 ct) (hj : zcJ ct = j') (hd : zcD ct + 1 ≤ d) (he : zcE ct = []) (hno : (zcM ct).all (fun m => decide (m.1 ≠ 1 ∨ (0 : Int) < m.2.1) && (decide (m.1 ≠ 2 ∨ (1 : Int) < m.2.1) && decide (m.1 ≠ 20 ∨ (9 : Int) < m.2.1 ∨ m.2.2 < (9 : Int)))) = true) (hn4 : (zskOK (zcM ct) && zby3 (zcM ct)) = true) (hn5 : zqOK (zcM ct) = true) (hna : zNa j' = true) (hA : zAg ty (zcA ct) as) (kk : ∀ ty' h' v x y, zIw ty' h' ax am ao N → zRt ty' (zcR ct) v → x ≤ (zcK ct).1 → y ≤ (zcK ct).2.1 → h'.length ≤ h.length + x → z_ok sx d 343 k' lo (v.toList ++ rest) h' (fun o h9 a b => Ψ o h9 (a + x) (b + y))) : z_ok sx d 343 k lo st h Ψ := by
  subst hj
  refine zlrun hi hk hn hc (z_ok.lenq hna (V sx (d - 1) ty h as (by omega) I.1 I.2.1 hA)) (fun o h' x y q hl => ?_)
  obtain ⟨⟨ty', q1, q2, q3, q4, q5⟩, hq⟩ := q
  have key := List.all_eq_true.mp hno
  have nin : ∀ t i : Nat, (t = 1 ∧ i = 0) ∨ (t = 2 ∧ i = 1) ∨ (t = 20 ∧ i = 9) → ¬ zIn (zcM ct) t i := by
    rintro t i ht ⟨m, hm, m1, m2, m3⟩
    have := key m hm
    simp only [Bool.and_eq_true, decide_eq_true_eq] at this
    omega
  cases o with
  | inl v =>
    obtain ⟨q5, q6, q7⟩ := q5
    exact ⟨v, rfl, kk ty' h' v x y (I.keep q1 q2 q3 q4 (nin 1 0 (Or.inl ⟨rfl, rfl⟩)) (nin 2 1 (Or.inr (Or.inl ⟨rfl, rfl⟩))) (nin 20 9 (Or.inr (Or.inr ⟨rfl, rfl⟩))) hn4 hq hn5) q5 q6 q7 hl⟩
  | inr e =>
    rw [he] at q5
    exact absurd q5.1 List.not_mem_nil
theorem zlcq {ty : List Nat} {N : Int} {k' j' : Nat} {as : List Value} {i : zI} {ct : zCt} {P : zPp} (I : zIvw ty h ax am ao N) (hi : z_c343[k]? = some i) (hk : k + 1 = k') (hn : i.1 ≠ 50 ∧ i.1 ≠ 51 ∧ i.1 ≠ 52 ∧ i.1 ≠ 53 ∧ i.1 ≠ 62) (hc : z_cal i d st h = some (j', as, rest)) (V : zVd z_tt zE1 ct) (hj : zcJ ct = j') (hd : zcD ct + 1 ≤ d) (he : zcE ct = []) (hno : (zcM ct).all (fun m => decide (m.1 ≠ 1 ∨ (0 : Int) < m.2.1) && (decide (m.1 ≠ 2 ∨ (1 : Int) < m.2.1) && decide (m.1 ≠ 20 ∨ (9 : Int) < m.2.1 ∨ m.2.2 < (9 : Int)))) = true) (hn4 : (zskOK (zcM ct) && zby3 (zcM ct)) = true) (hna : zNa j' = true) (hA : zAg ty (zcA ct) as) (S : zEe sx j' as.length P) (hq1 : q_c1 as = true) (kk : ∀ ty' h' v x y, zIvw ty' h' ax am ao N → zRt ty' (zcR ct) v → P as (za h) (.inl v) (za h') → x ≤ (zcK ct).1 → y ≤ (zcK ct).2.1 → h'.length ≤ h.length + x → z_ok sx d 343 k' lo (v.toList ++ rest) h' (fun o h9 a b => Ψ o h9 (a + x) (b + y))) : z_ok sx d 343 k lo st h Ψ := by
  subst hj
  refine zlrun hi hk hn hc (z_ok.lenq hna (S.ok (zTY_kh I.1) rfl hq1 (V sx (d - 1) ty h as (by omega) I.1 I.2.1 hA))) (fun o h' x y q hl => ?_)
  obtain ⟨⟨⟨ty', q1, q2, q3, q4, q5⟩, -, g⟩, hq⟩ := q
  have key := List.all_eq_true.mp hno
  have nin : ∀ t i : Nat, (t = 1 ∧ i = 0) ∨ (t = 2 ∧ i = 1) ∨ (t = 20 ∧ i = 9) → ¬ zIn (zcM ct) t i := by
    rintro t i ht ⟨m, hm, m1, m2, m3⟩
    have := key m hm
    simp only [Bool.and_eq_true, decide_eq_true_eq] at this
    omega
  cases o with
  | inl v =>
    obtain ⟨q5, q6, q7⟩ := q5
    exact ⟨v, rfl, kk ty' h' v x y (I.keep q1 q2 q3 q4 (nin 1 0 (Or.inl ⟨rfl, rfl⟩)) (nin 2 1 (Or.inr (Or.inl ⟨rfl, rfl⟩))) (nin 20 9 (Or.inr (Or.inr ⟨rfl, rfl⟩))) hn4 hq) q5 g q6 q7 hl⟩
  | inr e =>
    rw [he] at q5
    exact absurd q5.1 List.not_mem_nil
noncomputable def zKc (sx : zX) (d ax am ao i : Nat) (h : zH) (Ψ : zO → zH → Nat → Nat → Prop) : Prop := ∀ (ty' : List Nat) (lo' : zL) (h' : zH) (N' : Int) (x y : Nat), zIw ty' h' ax am ao N' → zLv lo' ax am ao i → x ≤ 7 → y ≤ 1000 → h'.length ≤ h.length + x → z_ok sx d 343 936 lo' [] h' (fun o h9 a b => Ψ o h9 (a + x) (b + y))
theorem zKc.use {ty' : List Nat} {lo' : zL} {h' : zH} {N' : Int} {x1 y1 x2 y2 : Nat} (K : zKc sx d ax am ao i h Ψ) (I : zIw ty' h' ax am ao N') (Lv : zLv lo' ax am ao i) (hx : x2 + x1 ≤ 7) (hy : y2 + y1 ≤ 1000) (hl : h'.length ≤ h.length + (x2 + x1)) : z_ok sx d 343 936 lo' [] h' (fun o h9 a b => (fun o h9 a b => Ψ o h9 (a + x1) (b + y1)) o h9 (a + x2) (b + y2)) :=
  z_ok.imp (K ty' lo' h' N' (x2 + x1) (y2 + y1) I Lv hx hy hl) (fun o h9 a b q => by
    show Ψ o h9 (a + x2 + x1) (b + y2 + y1)
    rw [Nat.add_assoc, Nat.add_assoc]
    exact q)
theorem zgoto {k' : Nat} (hi : z_c343[k]? = some (30, k', 0, 0)) (kk : z_ok sx d 343 k' lo st h Ψ) : z_ok sx d 343 k lo st h Ψ := zh zJ_343 hi rfl (k' := k') (lo' := lo) (st' := st) (h' := h) rfl kk
theorem zpop {k' : Nat} {v : Int32} (hi : z_c343[k]? = some (29, 0, 0, 0)) (hk : k + 1 = k') (kk : z_ok sx d 343 k' lo st h Ψ) : z_ok sx d 343 k lo (.int v :: st) h Ψ := zh zJ_343 hi rfl (k' := k') (lo' := lo) (st' := st) (h' := h) (by rw [← hk]; rfl) kk
end ZLW
end
section
/-! the law's instructions, by chunks of 32 -/
theorem zQf {c k : Nat} (i : Nat) {M : List zI} {x : zI} (hd : (z_c343.drop c).take 32 = M) (hk : c + i = k) (h : M[i]? = some x) : z_c343[k]? = some x := by
  subst hk
  subst hd
  rw [List.getElem?_take] at h
  split at h
  · rw [List.getElem?_drop] at h
    exact h
  · cases h
noncomputable def zQ_0 : List zI := [(49, 8, 0, 0), (27, 0, 0, 0), (56, 117, 0, 0), (5, 1, 0, 0), (49, 9, 0, 0), (27, 0, 0, 0), (56, 179, 0, 0), (5, 2, 0, 0), (0, 0, 0, 1), (47, 2, 0, 0), (5, 3, 0, 0), (0, 0, 0, 0), (4, 4, 0, 0), (1, 4, 0, 0), (2, 0, 0, 0), (66, 0, 0, 0), (0, 0, 0, 6), (9, 0, 0, 0), (32, 938, 4, 0), (2, 0, 0, 0), (1, 4, 0, 0), (65, 0, 0, 0), (0, 0, 0, 63), (16, 0, 0, 0), (35, 8, 0, 0), (2, 1, 0, 0), (2, 0, 0, 0), (1, 4, 0, 0), (0, 0, 0, 1), (8, 0, 0, 0), (65, 0, 0, 0), (2, 0, 0, 0)]
theorem zQd_0 : (z_c343.drop 0).take 32 = zQ_0 := by decide +kernel
noncomputable def zQ_1 : List zI := [(1, 4, 0, 0), (0, 0, 0, 2), (8, 0, 0, 0), (65, 0, 0, 0), (2, 0, 0, 0), (1, 4, 0, 0), (0, 0, 0, 3), (8, 0, 0, 0), (65, 0, 0, 0), (2, 0, 0, 0), (1, 4, 0, 0), (0, 0, 0, 4), (8, 0, 0, 0), (65, 0, 0, 0), (2, 0, 0, 0), (1, 4, 0, 0), (0, 0, 0, 5), (8, 0, 0, 0), (65, 0, 0, 0), (54, 118, 5, 8), (29, 0, 0, 0), (2, 2, 0, 0), (2, 0, 0, 0), (1, 4, 0, 0), (0, 0, 0, 1), (8, 0, 0, 0), (65, 0, 0, 0), (2, 0, 0, 0), (1, 4, 0, 0), (0, 0, 0, 2), (8, 0, 0, 0), (65, 0, 0, 0)]
theorem zQd_1 : (z_c343.drop 32).take 32 = zQ_1 := by decide +kernel
noncomputable def zQ_2 : List zI := [(2, 0, 0, 0), (1, 4, 0, 0), (0, 0, 0, 3), (8, 0, 0, 0), (65, 0, 0, 0), (2, 0, 0, 0), (1, 4, 0, 0), (0, 0, 0, 4), (8, 0, 0, 0), (65, 0, 0, 0), (2, 0, 0, 0), (1, 4, 0, 0), (0, 0, 0, 5), (8, 0, 0, 0), (65, 0, 0, 0), (54, 199, 5, 9), (29, 0, 0, 0), (30, 936, 0, 0), (2, 1, 0, 0), (2, 0, 0, 0), (1, 4, 0, 0), (0, 0, 0, 1), (8, 0, 0, 0), (65, 0, 0, 0), (54, 119, 1, 8), (29, 0, 0, 0), (2, 2, 0, 0), (2, 0, 0, 0), (1, 4, 0, 0), (0, 0, 0, 1), (8, 0, 0, 0), (65, 0, 0, 0)]
theorem zQd_2 : (z_c343.drop 64).take 32 = zQ_2 := by decide +kernel
noncomputable def zQ_3 : List zI := [(54, 200, 1, 9), (29, 0, 0, 0), (30, 936, 0, 0), (2, 1, 0, 0), (2, 3, 0, 0), (72, 315, 2, 0), (4, 5, 0, 0), (2, 2, 0, 0), (54, 231, 0, 9), (4, 6, 0, 0), (30, 936, 0, 0), (2, 1, 0, 0), (2, 3, 0, 0), (72, 316, 2, 0), (4, 5, 0, 0), (2, 2, 0, 0), (54, 232, 0, 9), (4, 6, 0, 0), (30, 936, 0, 0), (2, 1, 0, 0), (54, 122, 0, 8), (29, 0, 0, 0), (2, 2, 0, 0), (54, 209, 0, 9), (29, 0, 0, 0), (30, 936, 0, 0), (2, 1, 0, 0), (2, 0, 0, 0), (1, 4, 0, 0), (0, 0, 0, 1), (8, 0, 0, 0), (65, 0, 0, 0)]
theorem zQd_3 : (z_c343.drop 96).take 32 = zQ_3 := by decide +kernel
noncomputable def zQ_4 : List zI := [(2, 3, 0, 0), (72, 317, 3, 0), (4, 5, 0, 0), (2, 2, 0, 0), (2, 0, 0, 0), (1, 4, 0, 0), (0, 0, 0, 1), (8, 0, 0, 0), (65, 0, 0, 0), (54, 248, 1, 9), (4, 6, 0, 0), (30, 936, 0, 0), (2, 1, 0, 0), (2, 0, 0, 0), (1, 4, 0, 0), (0, 0, 0, 1), (8, 0, 0, 0), (65, 0, 0, 0), (2, 0, 0, 0), (1, 4, 0, 0), (0, 0, 0, 2), (8, 0, 0, 0), (65, 0, 0, 0), (2, 3, 0, 0), (72, 318, 4, 0), (4, 5, 0, 0), (2, 2, 0, 0), (2, 0, 0, 0), (1, 4, 0, 0), (0, 0, 0, 1), (8, 0, 0, 0), (65, 0, 0, 0)]
theorem zQd_4 : (z_c343.drop 128).take 32 = zQ_4 := by decide +kernel
noncomputable def zQ_5 : List zI := [(2, 0, 0, 0), (1, 4, 0, 0), (0, 0, 0, 2), (8, 0, 0, 0), (65, 0, 0, 0), (54, 249, 2, 9), (4, 6, 0, 0), (2, 2, 0, 0), (54, 344, 0, 9), (1, 5, 0, 0), (32, 173, 0, 0), (0, 0, 0, 0), (50, 0, 0, 0), (1, 5, 0, 0), (31, 184, 1, 0), (2, 3, 0, 0), (0, 0, 0, 0), (34, 0, 0, 0), (1, 6, 0, 0), (19, 0, 0, 0), (26, 0, 0, 0), (31, 184, 0, 0), (0, 0, 0, 0), (50, 0, 0, 0), (30, 936, 0, 0), (2, 1, 0, 0), (2, 0, 0, 0), (1, 4, 0, 0), (0, 0, 0, 1), (8, 0, 0, 0), (65, 0, 0, 0), (2, 0, 0, 0)]
theorem zQd_5 : (z_c343.drop 160).take 32 = zQ_5 := by decide +kernel
noncomputable def zQ_6 : List zI := [(1, 4, 0, 0), (0, 0, 0, 2), (8, 0, 0, 0), (65, 0, 0, 0), (2, 0, 0, 0), (1, 4, 0, 0), (0, 0, 0, 3), (8, 0, 0, 0), (65, 0, 0, 0), (2, 3, 0, 0), (72, 319, 5, 0), (4, 5, 0, 0), (2, 2, 0, 0), (2, 0, 0, 0), (1, 4, 0, 0), (0, 0, 0, 1), (8, 0, 0, 0), (65, 0, 0, 0), (2, 0, 0, 0), (1, 4, 0, 0), (0, 0, 0, 2), (8, 0, 0, 0), (65, 0, 0, 0), (2, 0, 0, 0), (1, 4, 0, 0), (0, 0, 0, 3), (8, 0, 0, 0), (65, 0, 0, 0), (54, 250, 3, 9), (4, 6, 0, 0), (30, 936, 0, 0), (2, 1, 0, 0)]
theorem zQd_6 : (z_c343.drop 192).take 32 = zQ_6 := by decide +kernel
noncomputable def zQ_7 : List zI := [(2, 0, 0, 0), (1, 4, 0, 0), (0, 0, 0, 1), (8, 0, 0, 0), (65, 0, 0, 0), (2, 0, 0, 0), (1, 4, 0, 0), (0, 0, 0, 2), (8, 0, 0, 0), (65, 0, 0, 0), (2, 3, 0, 0), (72, 320, 4, 0), (4, 5, 0, 0), (2, 2, 0, 0), (2, 0, 0, 0), (1, 4, 0, 0), (0, 0, 0, 1), (8, 0, 0, 0), (65, 0, 0, 0), (2, 0, 0, 0), (1, 4, 0, 0), (0, 0, 0, 2), (8, 0, 0, 0), (65, 0, 0, 0), (54, 251, 2, 9), (4, 6, 0, 0), (30, 936, 0, 0), (2, 1, 0, 0), (2, 0, 0, 0), (1, 4, 0, 0), (0, 0, 0, 1), (8, 0, 0, 0)]
theorem zQd_7 : (z_c343.drop 224).take 32 = zQ_7 := by decide +kernel
noncomputable def zQ_8 : List zI := [(65, 0, 0, 0), (2, 0, 0, 0), (1, 4, 0, 0), (0, 0, 0, 2), (8, 0, 0, 0), (65, 0, 0, 0), (2, 3, 0, 0), (72, 321, 4, 0), (4, 5, 0, 0), (2, 2, 0, 0), (2, 0, 0, 0), (1, 4, 0, 0), (0, 0, 0, 1), (8, 0, 0, 0), (65, 0, 0, 0), (2, 0, 0, 0), (1, 4, 0, 0), (0, 0, 0, 2), (8, 0, 0, 0), (65, 0, 0, 0), (54, 252, 2, 9), (4, 6, 0, 0), (30, 936, 0, 0), (2, 1, 0, 0), (2, 0, 0, 0), (1, 4, 0, 0), (0, 0, 0, 1), (8, 0, 0, 0), (65, 0, 0, 0), (2, 0, 0, 0), (1, 4, 0, 0), (0, 0, 0, 2)]
theorem zQd_8 : (z_c343.drop 256).take 32 = zQ_8 := by decide +kernel
noncomputable def zQ_9 : List zI := [(8, 0, 0, 0), (65, 0, 0, 0), (2, 3, 0, 0), (72, 322, 4, 0), (4, 5, 0, 0), (2, 2, 0, 0), (2, 0, 0, 0), (1, 4, 0, 0), (0, 0, 0, 1), (8, 0, 0, 0), (65, 0, 0, 0), (2, 0, 0, 0), (1, 4, 0, 0), (0, 0, 0, 2), (8, 0, 0, 0), (65, 0, 0, 0), (54, 253, 2, 9), (4, 6, 0, 0), (30, 936, 0, 0), (2, 1, 0, 0), (2, 0, 0, 0), (1, 4, 0, 0), (0, 0, 0, 1), (8, 0, 0, 0), (65, 0, 0, 0), (2, 0, 0, 0), (1, 4, 0, 0), (0, 0, 0, 2), (8, 0, 0, 0), (65, 0, 0, 0), (2, 3, 0, 0), (72, 323, 4, 0)]
theorem zQd_9 : (z_c343.drop 288).take 32 = zQ_9 := by decide +kernel
noncomputable def zQ_10 : List zI := [(4, 5, 0, 0), (2, 2, 0, 0), (2, 0, 0, 0), (1, 4, 0, 0), (0, 0, 0, 1), (8, 0, 0, 0), (65, 0, 0, 0), (2, 0, 0, 0), (1, 4, 0, 0), (0, 0, 0, 2), (8, 0, 0, 0), (65, 0, 0, 0), (54, 255, 2, 9), (4, 6, 0, 0), (30, 936, 0, 0), (2, 1, 0, 0), (2, 0, 0, 0), (1, 4, 0, 0), (0, 0, 0, 1), (8, 0, 0, 0), (65, 0, 0, 0), (2, 3, 0, 0), (72, 324, 3, 0), (4, 5, 0, 0), (2, 2, 0, 0), (2, 0, 0, 0), (1, 4, 0, 0), (0, 0, 0, 1), (8, 0, 0, 0), (65, 0, 0, 0), (54, 256, 1, 9), (4, 6, 0, 0)]
theorem zQd_10 : (z_c343.drop 320).take 32 = zQ_10 := by decide +kernel
noncomputable def zQ_11 : List zI := [(30, 936, 0, 0), (2, 1, 0, 0), (2, 0, 0, 0), (1, 4, 0, 0), (0, 0, 0, 1), (8, 0, 0, 0), (65, 0, 0, 0), (2, 3, 0, 0), (72, 325, 3, 0), (4, 5, 0, 0), (2, 2, 0, 0), (2, 0, 0, 0), (1, 4, 0, 0), (0, 0, 0, 1), (8, 0, 0, 0), (65, 0, 0, 0), (54, 258, 1, 9), (4, 6, 0, 0), (30, 936, 0, 0), (2, 1, 0, 0), (2, 0, 0, 0), (1, 4, 0, 0), (0, 0, 0, 1), (8, 0, 0, 0), (65, 0, 0, 0), (2, 3, 0, 0), (72, 326, 3, 0), (4, 5, 0, 0), (2, 2, 0, 0), (2, 0, 0, 0), (1, 4, 0, 0), (0, 0, 0, 1)]
theorem zQd_11 : (z_c343.drop 352).take 32 = zQ_11 := by decide +kernel
noncomputable def zQ_12 : List zI := [(8, 0, 0, 0), (65, 0, 0, 0), (54, 259, 1, 9), (4, 6, 0, 0), (30, 936, 0, 0), (2, 1, 0, 0), (2, 3, 0, 0), (72, 327, 2, 0), (4, 5, 0, 0), (2, 2, 0, 0), (54, 260, 0, 9), (4, 6, 0, 0), (30, 936, 0, 0), (2, 1, 0, 0), (54, 134, 0, 8), (29, 0, 0, 0), (2, 2, 0, 0), (54, 261, 0, 9), (29, 0, 0, 0), (30, 936, 0, 0), (2, 1, 0, 0), (2, 0, 0, 0), (1, 4, 0, 0), (0, 0, 0, 1), (8, 0, 0, 0), (65, 0, 0, 0), (2, 3, 0, 0), (72, 328, 3, 0), (4, 5, 0, 0), (2, 2, 0, 0), (2, 0, 0, 0), (1, 4, 0, 0)]
theorem zQd_12 : (z_c343.drop 384).take 32 = zQ_12 := by decide +kernel
noncomputable def zQ_13 : List zI := [(0, 0, 0, 1), (8, 0, 0, 0), (65, 0, 0, 0), (54, 269, 1, 9), (4, 6, 0, 0), (30, 936, 0, 0), (2, 1, 0, 0), (54, 136, 0, 8), (29, 0, 0, 0), (2, 2, 0, 0), (54, 274, 0, 9), (29, 0, 0, 0), (30, 936, 0, 0), (2, 1, 0, 0), (2, 0, 0, 0), (1, 4, 0, 0), (0, 0, 0, 1), (8, 0, 0, 0), (65, 0, 0, 0), (2, 0, 0, 0), (1, 4, 0, 0), (0, 0, 0, 2), (8, 0, 0, 0), (65, 0, 0, 0), (2, 3, 0, 0), (72, 329, 4, 0), (4, 5, 0, 0), (2, 2, 0, 0), (2, 0, 0, 0), (1, 4, 0, 0), (0, 0, 0, 1), (8, 0, 0, 0)]
theorem zQd_13 : (z_c343.drop 416).take 32 = zQ_13 := by decide +kernel
noncomputable def zQ_14 : List zI := [(65, 0, 0, 0), (2, 0, 0, 0), (1, 4, 0, 0), (0, 0, 0, 2), (8, 0, 0, 0), (65, 0, 0, 0), (54, 277, 2, 9), (4, 6, 0, 0), (30, 936, 0, 0), (2, 1, 0, 0), (54, 138, 0, 8), (29, 0, 0, 0), (2, 2, 0, 0), (54, 279, 0, 9), (29, 0, 0, 0), (30, 936, 0, 0), (2, 1, 0, 0), (54, 139, 0, 8), (29, 0, 0, 0), (2, 2, 0, 0), (54, 288, 0, 9), (29, 0, 0, 0), (30, 936, 0, 0), (2, 1, 0, 0), (54, 140, 0, 8), (29, 0, 0, 0), (2, 2, 0, 0), (54, 290, 0, 9), (29, 0, 0, 0), (30, 936, 0, 0), (2, 1, 0, 0), (54, 141, 0, 8)]
theorem zQd_14 : (z_c343.drop 448).take 32 = zQ_14 := by decide +kernel
noncomputable def zQ_15 : List zI := [(29, 0, 0, 0), (2, 2, 0, 0), (54, 281, 0, 9), (29, 0, 0, 0), (30, 936, 0, 0), (2, 1, 0, 0), (2, 0, 0, 0), (1, 4, 0, 0), (0, 0, 0, 1), (8, 0, 0, 0), (65, 0, 0, 0), (54, 142, 1, 8), (29, 0, 0, 0), (2, 2, 0, 0), (2, 0, 0, 0), (1, 4, 0, 0), (0, 0, 0, 1), (8, 0, 0, 0), (65, 0, 0, 0), (54, 293, 1, 9), (29, 0, 0, 0), (30, 936, 0, 0), (2, 1, 0, 0), (2, 0, 0, 0), (1, 4, 0, 0), (0, 0, 0, 1), (8, 0, 0, 0), (65, 0, 0, 0), (2, 0, 0, 0), (1, 4, 0, 0), (0, 0, 0, 2), (8, 0, 0, 0)]
theorem zQd_15 : (z_c343.drop 480).take 32 = zQ_15 := by decide +kernel
noncomputable def zQ_16 : List zI := [(65, 0, 0, 0), (2, 3, 0, 0), (72, 330, 4, 0), (4, 5, 0, 0), (2, 2, 0, 0), (2, 0, 0, 0), (1, 4, 0, 0), (0, 0, 0, 1), (8, 0, 0, 0), (65, 0, 0, 0), (2, 0, 0, 0), (1, 4, 0, 0), (0, 0, 0, 2), (8, 0, 0, 0), (65, 0, 0, 0), (54, 295, 2, 9), (4, 6, 0, 0), (30, 936, 0, 0), (2, 1, 0, 0), (2, 0, 0, 0), (1, 4, 0, 0), (0, 0, 0, 1), (8, 0, 0, 0), (65, 0, 0, 0), (2, 3, 0, 0), (72, 331, 3, 0), (4, 5, 0, 0), (2, 2, 0, 0), (2, 0, 0, 0), (1, 4, 0, 0), (0, 0, 0, 1), (8, 0, 0, 0)]
theorem zQd_16 : (z_c343.drop 512).take 32 = zQ_16 := by decide +kernel
noncomputable def zQ_17 : List zI := [(65, 0, 0, 0), (54, 283, 1, 9), (4, 6, 0, 0), (30, 936, 0, 0), (2, 1, 0, 0), (2, 0, 0, 0), (1, 4, 0, 0), (0, 0, 0, 1), (8, 0, 0, 0), (65, 0, 0, 0), (2, 0, 0, 0), (1, 4, 0, 0), (0, 0, 0, 2), (8, 0, 0, 0), (65, 0, 0, 0), (2, 0, 0, 0), (1, 4, 0, 0), (0, 0, 0, 3), (8, 0, 0, 0), (65, 0, 0, 0), (2, 3, 0, 0), (72, 332, 5, 0), (4, 5, 0, 0), (2, 2, 0, 0), (2, 0, 0, 0), (1, 4, 0, 0), (0, 0, 0, 1), (8, 0, 0, 0), (65, 0, 0, 0), (2, 0, 0, 0), (1, 4, 0, 0), (0, 0, 0, 2)]
theorem zQd_17 : (z_c343.drop 544).take 32 = zQ_17 := by decide +kernel
noncomputable def zQ_18 : List zI := [(8, 0, 0, 0), (65, 0, 0, 0), (2, 0, 0, 0), (1, 4, 0, 0), (0, 0, 0, 3), (8, 0, 0, 0), (65, 0, 0, 0), (54, 297, 3, 9), (4, 6, 0, 0), (30, 936, 0, 0), (2, 1, 0, 0), (2, 0, 0, 0), (1, 4, 0, 0), (0, 0, 0, 1), (8, 0, 0, 0), (65, 0, 0, 0), (31, 595, 0, 0), (0, 0, 0, 1), (30, 596, 0, 0), (0, 0, 0, 0), (2, 3, 0, 0), (72, 333, 3, 0), (4, 5, 0, 0), (2, 2, 0, 0), (2, 0, 0, 0), (1, 4, 0, 0), (0, 0, 0, 1), (8, 0, 0, 0), (65, 0, 0, 0), (31, 608, 0, 0), (0, 0, 0, 1), (30, 609, 0, 0)]
theorem zQd_18 : (z_c343.drop 576).take 32 = zQ_18 := by decide +kernel
noncomputable def zQ_19 : List zI := [(0, 0, 0, 0), (54, 299, 1, 9), (4, 6, 0, 0), (30, 936, 0, 0), (2, 1, 0, 0), (54, 147, 0, 8), (29, 0, 0, 0), (2, 2, 0, 0), (54, 300, 0, 9), (29, 0, 0, 0), (30, 936, 0, 0), (2, 1, 0, 0), (54, 148, 0, 8), (29, 0, 0, 0), (2, 2, 0, 0), (54, 278, 0, 9), (29, 0, 0, 0), (30, 936, 0, 0), (2, 1, 0, 0), (2, 0, 0, 0), (1, 4, 0, 0), (0, 0, 0, 1), (8, 0, 0, 0), (65, 0, 0, 0), (2, 3, 0, 0), (72, 334, 3, 0), (4, 5, 0, 0), (2, 2, 0, 0), (2, 0, 0, 0), (1, 4, 0, 0), (0, 0, 0, 1), (8, 0, 0, 0)]
theorem zQd_19 : (z_c343.drop 608).take 32 = zQ_19 := by decide +kernel
noncomputable def zQ_20 : List zI := [(65, 0, 0, 0), (54, 284, 1, 9), (4, 6, 0, 0), (30, 936, 0, 0), (2, 1, 0, 0), (54, 150, 0, 8), (29, 0, 0, 0), (2, 2, 0, 0), (54, 280, 0, 9), (29, 0, 0, 0), (30, 936, 0, 0), (2, 1, 0, 0), (2, 0, 0, 0), (1, 4, 0, 0), (0, 0, 0, 1), (8, 0, 0, 0), (65, 0, 0, 0), (2, 0, 0, 0), (1, 4, 0, 0), (0, 0, 0, 2), (8, 0, 0, 0), (65, 0, 0, 0), (2, 3, 0, 0), (72, 335, 4, 0), (4, 5, 0, 0), (2, 2, 0, 0), (2, 0, 0, 0), (1, 4, 0, 0), (0, 0, 0, 1), (8, 0, 0, 0), (65, 0, 0, 0), (2, 0, 0, 0)]
theorem zQd_20 : (z_c343.drop 640).take 32 = zQ_20 := by decide +kernel
noncomputable def zQ_21 : List zI := [(1, 4, 0, 0), (0, 0, 0, 2), (8, 0, 0, 0), (65, 0, 0, 0), (54, 270, 2, 9), (4, 6, 0, 0), (30, 936, 0, 0), (2, 1, 0, 0), (2, 0, 0, 0), (1, 4, 0, 0), (0, 0, 0, 1), (8, 0, 0, 0), (65, 0, 0, 0), (2, 3, 0, 0), (72, 336, 3, 0), (4, 5, 0, 0), (2, 2, 0, 0), (2, 0, 0, 0), (1, 4, 0, 0), (0, 0, 0, 1), (8, 0, 0, 0), (65, 0, 0, 0), (54, 271, 1, 9), (4, 6, 0, 0), (30, 936, 0, 0), (2, 1, 0, 0), (2, 0, 0, 0), (1, 4, 0, 0), (0, 0, 0, 1), (8, 0, 0, 0), (65, 0, 0, 0), (2, 3, 0, 0)]
theorem zQd_21 : (z_c343.drop 672).take 32 = zQ_21 := by decide +kernel
noncomputable def zQ_22 : List zI := [(72, 337, 3, 0), (4, 5, 0, 0), (2, 2, 0, 0), (2, 0, 0, 0), (1, 4, 0, 0), (0, 0, 0, 1), (8, 0, 0, 0), (65, 0, 0, 0), (54, 272, 1, 9), (4, 6, 0, 0), (30, 936, 0, 0), (2, 1, 0, 0), (2, 0, 0, 0), (1, 4, 0, 0), (0, 0, 0, 1), (8, 0, 0, 0), (65, 0, 0, 0), (2, 3, 0, 0), (72, 338, 3, 0), (4, 5, 0, 0), (2, 2, 0, 0), (2, 0, 0, 0), (1, 4, 0, 0), (0, 0, 0, 1), (8, 0, 0, 0), (65, 0, 0, 0), (54, 273, 1, 9), (4, 6, 0, 0), (30, 936, 0, 0), (2, 1, 0, 0), (54, 155, 0, 8), (29, 0, 0, 0)]
theorem zQd_22 : (z_c343.drop 704).take 32 = zQ_22 := by decide +kernel
noncomputable def zQ_23 : List zI := [(2, 2, 0, 0), (54, 301, 0, 9), (29, 0, 0, 0), (30, 936, 0, 0), (2, 1, 0, 0), (54, 156, 0, 8), (29, 0, 0, 0), (2, 2, 0, 0), (54, 302, 0, 9), (29, 0, 0, 0), (30, 936, 0, 0), (2, 1, 0, 0), (2, 0, 0, 0), (1, 4, 0, 0), (0, 0, 0, 1), (8, 0, 0, 0), (65, 0, 0, 0), (2, 0, 0, 0), (1, 4, 0, 0), (0, 0, 0, 2), (8, 0, 0, 0), (65, 0, 0, 0), (31, 761, 0, 0), (0, 0, 0, 1), (30, 762, 0, 0), (0, 0, 0, 0), (2, 3, 0, 0), (72, 339, 4, 0), (4, 5, 0, 0), (2, 2, 0, 0), (2, 0, 0, 0), (1, 4, 0, 0)]
theorem zQd_23 : (z_c343.drop 736).take 32 = zQ_23 := by decide +kernel
noncomputable def zQ_24 : List zI := [(0, 0, 0, 1), (8, 0, 0, 0), (65, 0, 0, 0), (2, 0, 0, 0), (1, 4, 0, 0), (0, 0, 0, 2), (8, 0, 0, 0), (65, 0, 0, 0), (31, 779, 0, 0), (0, 0, 0, 1), (30, 780, 0, 0), (0, 0, 0, 0), (54, 304, 2, 9), (4, 6, 0, 0), (30, 936, 0, 0), (2, 1, 0, 0), (2, 0, 0, 0), (1, 4, 0, 0), (0, 0, 0, 1), (8, 0, 0, 0), (65, 0, 0, 0), (2, 0, 0, 0), (1, 4, 0, 0), (0, 0, 0, 2), (8, 0, 0, 0), (65, 0, 0, 0), (31, 797, 0, 0), (0, 0, 0, 1), (30, 798, 0, 0), (0, 0, 0, 0), (2, 3, 0, 0), (72, 340, 4, 0)]
theorem zQd_24 : (z_c343.drop 768).take 32 = zQ_24 := by decide +kernel
noncomputable def zQ_25 : List zI := [(4, 5, 0, 0), (2, 2, 0, 0), (2, 0, 0, 0), (1, 4, 0, 0), (0, 0, 0, 1), (8, 0, 0, 0), (65, 0, 0, 0), (2, 0, 0, 0), (1, 4, 0, 0), (0, 0, 0, 2), (8, 0, 0, 0), (65, 0, 0, 0), (31, 815, 0, 0), (0, 0, 0, 1), (30, 816, 0, 0), (0, 0, 0, 0), (54, 305, 2, 9), (4, 6, 0, 0), (30, 936, 0, 0), (2, 1, 0, 0), (2, 0, 0, 0), (1, 4, 0, 0), (0, 0, 0, 1), (8, 0, 0, 0), (65, 0, 0, 0), (2, 0, 0, 0), (1, 4, 0, 0), (0, 0, 0, 2), (8, 0, 0, 0), (65, 0, 0, 0), (31, 833, 0, 0), (0, 0, 0, 1)]
theorem zQd_25 : (z_c343.drop 800).take 32 = zQ_25 := by decide +kernel
noncomputable def zQ_26 : List zI := [(30, 834, 0, 0), (0, 0, 0, 0), (2, 3, 0, 0), (72, 341, 4, 0), (4, 5, 0, 0), (2, 2, 0, 0), (2, 0, 0, 0), (1, 4, 0, 0), (0, 0, 0, 1), (8, 0, 0, 0), (65, 0, 0, 0), (2, 0, 0, 0), (1, 4, 0, 0), (0, 0, 0, 2), (8, 0, 0, 0), (65, 0, 0, 0), (31, 851, 0, 0), (0, 0, 0, 1), (30, 852, 0, 0), (0, 0, 0, 0), (54, 307, 2, 9), (4, 6, 0, 0), (30, 936, 0, 0), (2, 1, 0, 0), (2, 0, 0, 0), (1, 4, 0, 0), (0, 0, 0, 1), (8, 0, 0, 0), (65, 0, 0, 0), (2, 0, 0, 0), (1, 4, 0, 0), (0, 0, 0, 2)]
theorem zQd_26 : (z_c343.drop 832).take 32 = zQ_26 := by decide +kernel
noncomputable def zQ_27 : List zI := [(8, 0, 0, 0), (65, 0, 0, 0), (2, 3, 0, 0), (72, 342, 4, 0), (4, 5, 0, 0), (2, 2, 0, 0), (2, 0, 0, 0), (1, 4, 0, 0), (0, 0, 0, 1), (8, 0, 0, 0), (65, 0, 0, 0), (2, 0, 0, 0), (1, 4, 0, 0), (0, 0, 0, 2), (8, 0, 0, 0), (65, 0, 0, 0), (54, 308, 2, 9), (4, 6, 0, 0), (30, 936, 0, 0), (2, 1, 0, 0), (2, 0, 0, 0), (1, 4, 0, 0), (0, 0, 0, 1), (8, 0, 0, 0), (65, 0, 0, 0), (54, 161, 1, 8), (29, 0, 0, 0), (2, 2, 0, 0), (2, 0, 0, 0), (1, 4, 0, 0), (0, 0, 0, 1), (8, 0, 0, 0)]
theorem zQd_27 : (z_c343.drop 864).take 32 = zQ_27 := by decide +kernel
noncomputable def zQ_28 : List zI := [(65, 0, 0, 0), (54, 309, 1, 9), (29, 0, 0, 0), (30, 936, 0, 0), (2, 1, 0, 0), (54, 162, 0, 8), (29, 0, 0, 0), (2, 2, 0, 0), (54, 183, 0, 9), (29, 0, 0, 0), (30, 936, 0, 0), (2, 1, 0, 0), (54, 163, 0, 8), (2, 2, 0, 0), (54, 180, 0, 9), (30, 936, 0, 0), (2, 1, 0, 0), (54, 164, 0, 8), (29, 0, 0, 0), (2, 2, 0, 0), (54, 181, 0, 9), (29, 0, 0, 0), (30, 936, 0, 0), (2, 1, 0, 0), (2, 0, 0, 0), (1, 4, 0, 0), (0, 0, 0, 1), (8, 0, 0, 0), (65, 0, 0, 0), (54, 165, 1, 8), (29, 0, 0, 0), (2, 2, 0, 0)]
theorem zQd_28 : (z_c343.drop 896).take 32 = zQ_28 := by decide +kernel
noncomputable def zQ_29 : List zI := [(2, 0, 0, 0), (1, 4, 0, 0), (0, 0, 0, 1), (8, 0, 0, 0), (65, 0, 0, 0), (54, 310, 1, 9), (29, 0, 0, 0), (30, 936, 0, 0), (7, 4, 0, 6), (30, 13, 0, 0), (0, 0, 0, 1), (50, 0, 0, 0)]
theorem zQd_29 : (z_c343.drop 928).take 32 = zQ_29 := by decide +kernel
end
