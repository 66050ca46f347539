/-! deed and law: pairs of calls keep the whole relation -/
section ZPD
variable {σ σ1 σ2 τ υ : zSg} {p : zPt} {A B : Nat → Int32} {nf nt : Nat} {k b v : Int32}
theorem ofNat_r {n m : Nat} (h : n ≤ m) (hm : m ≤ 1000) : 0 ≤ (Int32.ofNat n).toInt ∧ (Int32.ofNat n).toInt ≤ (m : Int) := by rw [o32 (by omega)]; omega
/-- a line of a deed keeps what holds of a house -/
theorem aI.dApp {o : dOp} (K : aI nf nt A) (h : dOK nf nt o) : aI (nf + dF1 o) (nt + dT1 o) (dApp nf nt A o) := by
  obtain ⟨⟨a0, a1, a2, a3, a4⟩, a5, a6, a7, a8, a9, a10, a11⟩ := K
  rcases h.cs with ⟨p, d, s, q, w, rfl, h9, -⟩ | ⟨f, x, y, q, w, rfl, h9⟩ | ⟨x, q, w, rfl⟩ | ⟨f, v, l, q, w, rfl, h9, h8, h7⟩ | ⟨f, x, y, q, w, rfl, h9⟩ | ⟨k, v, x, q, w, rfl, h9⟩
  · show aI (nf + 1) nt (aU (dG (aU (aU (aU (aU A (40 + 4 * nf) (Int32.ofNat p)) (41 + 4 * nf) (Int32.ofNat d)) (42 + 4 * nf) (Int32.ofNat s)) (43 + 4 * nf) w) q (Int32.ofNat nf)) 0 (Int32.ofNat (nf + 1)))
    have g : ∀ i, i ≠ 0 → ¬ (40 ≤ i ∧ i < 64) → (¬ (16 ≤ i ∧ i < 40)) → (aU (dG (aU (aU (aU (aU A (40 + 4 * nf) (Int32.ofNat p)) (41 + 4 * nf) (Int32.ofNat d)) (42 + 4 * nf) (Int32.ofNat s)) (43 + 4 * nf) w) q (Int32.ofNat nf)) 0 (Int32.ofNat (nf + 1))) i = A i := fun i h0 h1 h2 => by
      rw [aU_ne h0, dG_ne h2, aU_ne (by omega), aU_ne (by omega), aU_ne (by omega), aU_ne (by omega)]
    refine ⟨⟨aU_at, by omega, (g 1 (by omega) (by omega) (by omega)).trans a2, a3, fun t h1 h2 => (g _ (by omega) (by omega) (by omega)).trans (a4 t h1 h2)⟩, fun h hh => ?_, fun t ht => ?_, by rw [g 12 (by omega) (by omega) (by omega)]; exact a7, by rw [g 8 (by omega) (by omega) (by omega)]; exact a8, by rw [g 4 (by omega) (by omega) (by omega)]; exact a9, by rw [g 14 (by omega) (by omega) (by omega)]; exact a10, by rw [g 2 (by omega) (by omega) (by omega)]; exact a11⟩
    · rw [aU_ne (by omega)]
      unfold dG
      by_cases c : 16 ≤ 16 + h ∧ 16 + h < 40 ∧ btb q (Int32.ofNat (16 + h - 16)) = true
      · rw [if_pos c]; exact Or.inr ⟨nf, by omega, rfl⟩
      · rw [if_neg c, aU_ne (by omega), aU_ne (by omega), aU_ne (by omega), aU_ne (by omega)]
        rcases a5 h hh with e | ⟨F, hF, e⟩
        · exact Or.inl e
        · exact Or.inr ⟨F, by omega, e⟩
    · rw [g _ (by omega) (by omega) (by omega)]
      obtain ⟨F, hF, e⟩ := a6 t ht
      exact ⟨F, by omega, e⟩
  · show aI nf nt (dG A q (Int32.ofNat f))
    have g : ∀ i, ¬ (16 ≤ i ∧ i < 40) → dG A q (Int32.ofNat f) i = A i := fun i h => dG_ne h
    refine ⟨⟨(g _ (by omega)).trans a0, a1, (g _ (by omega)).trans a2, a3, fun t h1 h2 => (g _ (by omega)).trans (a4 t h1 h2)⟩, fun h hh => ?_, fun t ht => by rw [g _ (by omega)]; exact a6 t ht, by rw [g _ (by omega)]; exact a7, by rw [g _ (by omega)]; exact a8, by rw [g _ (by omega)]; exact a9, by rw [g _ (by omega)]; exact a10, by rw [g _ (by omega)]; exact a11⟩
    unfold dG
    by_cases c : 16 ≤ 16 + h ∧ 16 + h < 40 ∧ btb q (Int32.ofNat (16 + h - 16)) = true
    · rw [if_pos c]; exact Or.inr ⟨f, h9, rfl⟩
    · rw [if_neg c]; exact a5 h hh
  · show aI nf nt (dG A q (Int32.ofInt (-1)))
    have g : ∀ i, ¬ (16 ≤ i ∧ i < 40) → dG A q (Int32.ofInt (-1)) i = A i := fun i h => dG_ne h
    refine ⟨⟨(g _ (by omega)).trans a0, a1, (g _ (by omega)).trans a2, a3, fun t h1 h2 => (g _ (by omega)).trans (a4 t h1 h2)⟩, fun h hh => ?_, fun t ht => by rw [g _ (by omega)]; exact a6 t ht, by rw [g _ (by omega)]; exact a7, by rw [g _ (by omega)]; exact a8, by rw [g _ (by omega)]; exact a9, by rw [g _ (by omega)]; exact a10, by rw [g _ (by omega)]; exact a11⟩
    unfold dG
    by_cases c : 16 ≤ 16 + h ∧ 16 + h < 40 ∧ btb q (Int32.ofNat (16 + h - 16)) = true
    · rw [if_pos c]; exact Or.inl rfl
    · rw [if_neg c]; exact a5 h hh
  · show aI nf (nt + 1) (aU (aU (aU (aU A (64 + 3 * nt) (Int32.ofNat f)) (65 + 3 * nt) (Int32.ofNat v)) (66 + 3 * nt) (Int32.ofNat l)) 1 (Int32.ofNat (nt + 1)))
    have g : ∀ i, i ≠ 1 → i ≠ 64 + 3 * nt → i ≠ 65 + 3 * nt → i ≠ 66 + 3 * nt → (aU (aU (aU (aU A (64 + 3 * nt) (Int32.ofNat f)) (65 + 3 * nt) (Int32.ofNat v)) (66 + 3 * nt) (Int32.ofNat l)) 1 (Int32.ofNat (nt + 1))) i = A i := fun i h1 h2 h3 h4 => by rw [aU_ne h1, aU_ne h4, aU_ne h3, aU_ne h2]
    refine ⟨⟨(g 0 (by omega) (by omega) (by omega) (by omega)).trans a0, a1, aU_at, by omega, fun t h1 h2 => (g _ (by omega) (by omega) (by omega) (by omega)).trans (a4 t (by omega) h2)⟩, fun h hh => by rw [g _ (by omega) (by omega) (by omega) (by omega)]; exact a5 h hh, fun t ht => ?_, by rw [g 12 (by omega) (by omega) (by omega) (by omega)]; exact a7, by rw [g 8 (by omega) (by omega) (by omega) (by omega)]; exact a8, by rw [g 4 (by omega) (by omega) (by omega) (by omega)]; exact a9, by rw [g 14 (by omega) (by omega) (by omega) (by omega)]; exact a10, by rw [g 2 (by omega) (by omega) (by omega) (by omega)]; exact a11⟩
    by_cases c : t = nt
    · subst c
      refine ⟨f, h8, ?_⟩
      rw [aU_ne (by omega), aU_ne (by omega), aU_ne (by omega), aU_at]
    · rw [g _ (by omega) (by omega) (by omega) (by omega)]
      exact a6 t (by omega)
  · show aI nf nt (aU A (43 + 4 * f) (A (43 + 4 * f) ||| w))
    have K : aI nf nt A := ⟨⟨a0, a1, a2, a3, a4⟩, a5, a6, a7, a8, a9, a10, a11⟩
    exact K.pl (by omega) (by omega) (by omega) (by omega)
  · show aI nf nt (aU A k (Int32.ofNat v))
    have g : ∀ i, i ≠ k → aU A k (Int32.ofNat v) i = A i := fun i h => aU_ne h
    refine ⟨⟨(g _ (by omega)).trans a0, a1, (g _ (by omega)).trans a2, a3, fun t h1 h2 => (g _ (by omega)).trans (a4 t h1 h2)⟩, fun h hh => by rw [g _ (by omega)]; exact a5 h hh, fun t ht => by rw [g _ (by omega)]; exact a6 t ht, ?_, by rw [g _ (by omega)]; exact a8, ?_, by rw [g _ (by omega)]; exact a10, by rw [g _ (by omega)]; exact a11⟩
    · by_cases c : k = 12
      · subst c
        rw [aU_at]
        rw [o32 (show v ≤ 1000 by omega)]; omega
      · rw [g _ (by omega)]; exact a7
    · by_cases c : k = 4
      · subst c
        rw [aU_at]
        exact ⟨v, by omega, rfl⟩
      · rw [g _ (by omega)]; exact a9
theorem aI.dApps : ∀ (os : List dOp) {nf nt : Nat} {A : Nat → Int32}, aI nf nt A → dOKs os nf nt → aI (nf + dFs os) (nt + dTs os) (dApps os nf nt A)
  | [], _, _, _, K, _ => K
  | o :: r, nf, nt, A, K, h => by
    have := aI.dApps r (K.dApp h.1) h.2
    rw [Nat.add_assoc, Nat.add_assoc] at this
    exact this
/-- the tape of both sides -/
noncomputable def zTpe (σ : zSg) (b : Nat → Int) (E : Nat) : Prop := cS0 σ 1 E ∧ cb σ 1 = b ∧ σ.1 1 0 = .ref 2 ∧ σ.1 205 8 = .ref 211 ∧ rb σ 205 = b ∧ σ.1 205 9 = .int (Int32.ofNat E) ∧ E ≤ 400 ∧ rIt σ
theorem rb_of {c : Nat} (h8 : σ.1 205 8 = .ref 211) (h : ∀ q, τ.1 205 8 = σ.1 205 8 → τ.1 211 q = σ.1 211 q) (h8' : τ.1 205 8 = σ.1 205 8) : rb τ 205 = rb σ 205 := by
  funext i
  unfold rb
  rw [h8', h8]
  show (q_i (τ.1 211 i)).toInt = (q_i (σ.1 211 i)).toInt
  rw [h i h8']
theorem zq_2 {bt : Nat → Int} {E : Nat} (w : zPw p) (K : zC σ p) (R : zRv σ p) (Q : zTpe σ bt E) (G1 : p_315 0 218 σ k σ1) (G2 : p_231 205 σ1 b σ2) : zHld σ2 ∧ zLik σ2 k b := by
  obtain ⟨e, τ, g, alts⟩ := G1
  obtain ⟨t1, t2, t3, t4, t5, t6, t7, t8⟩ := Q
  obtain ⟨k1, k2, ⟨D, k3⟩, ⟨nx, Ms, m, k4⟩, k5, k6, k7, k8, k9, k10⟩ := id K
  obtain ⟨tx, htx, etx⟩ := w.1.2.2.2.2.2.2.2
  have n6 := w.1.1.2.1
  have n8 := w.1.1.2.2.2.1
  obtain ⟨f, hD, -, e85, xo⟩ := g rfl bt E p.2.1.1 p.2.1.2 tx p.1 D ⟨k1, t1, t2, t3, k2, w.1.1, etx, htx, k3⟩
  have s1e : σ1.2 = τ.2 ∧ ∀ c q, c ≠ 218 → σ1.1 c q = τ.1 c q := by
    rcases alts with ⟨v, -, -, r⟩ | ⟨-, -, r⟩ | ⟨-, -, r⟩
    · rw [r]; exact ⟨rfl, fun c q h => q_w_ne (fun e _ => h e)⟩
    · rw [r]; exact ⟨rfl, fun _ _ _ => rfl⟩
    · rw [r]; exact ⟨rfl, fun _ _ _ => rfl⟩
  have lo : ∀ c q, 205 ≤ c → c ≤ 217 → σ1.1 c q = σ.1 c q := fun c q h1 h2 => (s1e.2 c q (by omega)).trans (f.2 c q (by omega) (by omega) (by omega) (by omega))
  have R1 : zRv σ1 p := R.cls lo
  have rb1 : rb σ1 205 = bt := (rb_of (c := 0) t4 (fun q _ => lo _ _ (by omega) (by omega)) (lo _ _ (by omega) (by omega))).trans t5
  have y := G2 rfl R1.1 bt E p.2.1.1 p.2.1.2 p.1 tx ⟨(lo _ _ (by omega) (by omega)).trans t4, rb1, R1.2.2.1, (lo _ _ (by omega) (by omega)).trans t6, t7, w.1.1.1, n6, w.1.1.2.2.1, n8⟩ etx htx (fun q hq => by rw [lo _ _ (by omega) (by omega)]; exact t8 q hq)
  obtain ⟨fy, -, yo⟩ := y
  have hl : ∀ c q, 219 ≤ c → c % 6 ≠ 5 → τ.1 c q = σ.1 c q := fun c q q1 q2 => f.2 c q (by omega) (by omega) (by omega) (by omega)
  -- both sides, for any outcome: what the house, the counts, the acts, the fault are then
  have cls : ∀ (B : Nat → Int32) (cf : Nat × Nat) (n' : Nat) (y' : Int32), hH τ 8 B → τ.1 0 7 = .int y' → τ.1 47 2 = .int (Int32.ofNat n') → (n' = p.2.2.1.1 ∨ n' = 0) → zC σ1 (B, cf, (n', p.2.2.1.2), p.2.2.2.1, p.2.2.2.2.1, y') := fun B cf n' y' hB h7 h47 hn => by
    have K0 : zC τ (B, cf, (n', p.2.2.1.2), p.2.2.2.1, p.2.2.2.2.1, y') := by
      obtain ⟨m1, m2, m3, m4, m5, m6, m7⟩ := m
      refine ⟨k1.of (fun k _ => f.2 _ _ (by omega) (by omega) (by omega) (by omega)), hB, hD, ⟨nx, Ms, ⟨(f.2 _ _ (by omega) (by omega) (by omega) (by omega)).trans m1, fun i hi => (f.2 _ _ (by omega) (by omega) (by omega) (by omega)).trans (m2 i hi), (f.2 _ _ (by omega) (by omega) (by omega) (by omega)).trans m3, m4, h47, (by show n' ≤ 12; omega), fun i hi => (m7 i hi).fr f.1 (fun c j q1 q2 => f.2 c j (by omega) (by omega) (by omega) (by omega))⟩, fun i hi => ?_⟩, k5.of f.1 e85 hl, k6.of (by rw [f.1]; exact Nat.le_refl _), k7.of f.1 (f.2 _ _ (by omega) (by omega) (by omega) (by omega)) (fun c k q1 q2 => f.2 c k (by omega) (by omega) (by omega) (by omega)) hl, h7, by rw [f.1]; exact k9, by rw [f.1]; exact k10⟩
      have hi : i < n' := hi
      have en : n' = p.2.2.1.1 := by omega
      show Ms (mJ nx n' i) = p.2.2.1.2 i ∧ τ.1 (49 + 13 * mJ nx n' i) 5 = τ.1 8 5
      rw [en, e85, f.2 _ _ (by omega) (by omega) (by omega) (by omega)]
      exact k4 i (by omega)
    exact K0.fr s1e.1 (fun c q h => s1e.2 c q (by unfold zCc at h; omega))
  have ref : ∀ (B : Nat → Int32) (cf : Nat × Nat) (n' : Nat) (y' : Int32), rW σ2 B → B 3 = p.1 3 → σ2.1 205 14 = .int y' → σ2.1 205 7 = .int (Int32.ofNat n') → (n' = p.2.2.1.1 ∨ n' = 0) → zRv σ2 (B, cf, (n', p.2.2.1.2), p.2.2.2.1, p.2.2.2.2.1, y') := fun B cf n' y' hB h3 h14 h7 hn => by
    obtain ⟨⟨s1, s2, s3, s4, s5⟩, r2, r3, r4, r5, r6, r7, r8⟩ := R1
    refine ⟨⟨(fy.2 _ _ (by omega) (by omega) (by omega)).trans s1, (fy.2 _ _ (by omega) (by omega) (by omega)).trans s2, (fy.2 _ _ (by omega) (by omega) (by omega)).trans s3, (fy.2 _ _ (by omega) (by omega) (by omega)).trans s4, (fy.2 _ _ (by omega) (by omega) (by omega)).trans s5⟩, (fy.2 _ _ (by omega) (by omega) (by omega)).trans r2, hB, r4.of (fun k _ _ => fy.2 _ _ (by omega) (by omega) (by omega)) h3, h7, fun i hi k hk => ?_, r7.of (fy.2 _ _ (by omega) (by omega) (by omega)) (fun k _ => fy.2 _ _ (by omega) (by omega) (by omega)), h14⟩
    have hi : i < n' := hi
    exact (fy.2 _ _ (by omega) (by omega) (by omega)).trans (r6 i (by omega) k hk)
  have e7 : σ1.1 205 7 = .int (Int32.ofNat p.2.2.1.1) := R1.2.2.2.2.1
  have z : ∀ (q : zPt), zC σ1 q → zC σ2 q := fun q h => h.ref fy.1 (fun c k hc => fy.2 c k (by omega) (by omega) (by omega))
  have out : ∀ v : Int32, σ1 = q_w τ 218 0 (.long v.toInt64) → σ2.1 218 0 = .long v.toInt64 := fun v hv => by
    rw [fy.2 _ _ (by omega) (by omega) (by omega), hv]
    exact q_w_at _ _ _ _
  cases hd : dDeed bt E p.2.1.1 p.2.1.2 with
  | inr F =>
    rw [hd] at xo yo
    obtain ⟨rfl, x2, x3, x4⟩ := xo
    obtain ⟨y1, y2, y3, y4⟩ := yo
    rcases alts with ⟨v, q, r1, r2⟩ | ⟨q, r1, r2⟩ | ⟨q, r1, r2⟩
    · cases q
    · refine ⟨⟨(p.1, p.2.1, (p.2.2.1.1, p.2.2.1.2), p.2.2.2.1, p.2.2.2.2.1, Int32.ofNat F), w, z _ (cls p.1 p.2.1 p.2.2.1.1 _ x3 x2 (x4.trans m.2.2.2.2.1) (Or.inl rfl)), ref p.1 p.2.1 p.2.2.1.1 _ y3 rfl y2 (y4.trans e7) (Or.inl rfl)⟩, _, y1, by rw [r1], fun h => ?_⟩
      rw [r1] at h
      exact absurd h (by decide)
    · cases q
  | inl os =>
    rw [hd] at xo yo
    obtain ⟨x1, x2, x3⟩ := xo
    obtain ⟨y1, y2, y3⟩ := yo
    by_cases h12 : tx = 12
    · obtain ⟨rfl, x4, x5⟩ := x2 h12
      obtain ⟨y4, y5, y6⟩ := y2 h12
      rcases alts with ⟨v, q, r1, r2⟩ | ⟨q, r1, r2⟩ | ⟨q, r1, r2⟩
      · cases q
      · cases q
      · refine ⟨⟨(p.1, p.2.1, (p.2.2.1.1, p.2.2.1.2), p.2.2.2.1, p.2.2.2.2.1, Int32.ofInt (-1)), w, z _ (cls p.1 p.2.1 p.2.2.1.1 _ x4 x1 (x5.trans m.2.2.2.2.1) (Or.inl rfl)), ref p.1 p.2.1 p.2.2.1.1 _ y5 rfl y1 (y6.trans e7) (Or.inl rfl)⟩, _, y4, by rw [r1], fun h => ?_⟩
        rw [r1] at h
        exact absurd h (by decide)
    · obtain ⟨rfl, x4, x5⟩ := x3 (by omega)
      obtain ⟨y4, y5, y6, y7⟩ := y3 (by omega)
      have oks := dDeed_ok hd n6 n8
      have ne := fun (i : Nat) hi => dApps_ne (k := i) (A := p.1) hd n6 n8 hi
      have IB := w.1.dApps os oks
      have IC : aI (p.2.1.1 + dFs os) (p.2.1.2 + dTs os) (aU (dApps os p.2.1.1 p.2.1.2 p.1) 2 (Int32.ofNat (tx + 1))) := by
        obtain ⟨⟨a0, a1, a2, a3, a4⟩, a5, a6, a7, a8, a9, a10, a11⟩ := IB
        have g : ∀ i, i ≠ 2 → aU (dApps os p.2.1.1 p.2.1.2 p.1) 2 (Int32.ofNat (tx + 1)) i = dApps os p.2.1.1 p.2.1.2 p.1 i := fun i h => aU_ne h
        exact ⟨⟨(g _ (by omega)).trans a0, a1, (g _ (by omega)).trans a2, a3, fun t h1 h2 => (g _ (by omega)).trans (a4 t h1 h2)⟩, fun h hh => by rw [g _ (by omega)]; exact a5 h hh, fun t ht => by rw [g _ (by omega)]; exact a6 t ht, by rw [g _ (by omega)]; exact a7, by rw [g _ (by omega)]; exact a8, by rw [g _ (by omega)]; exact a9, by rw [g _ (by omega)]; exact a10, tx + 1, by omega, aU_at⟩
      rcases alts with ⟨v, q, r1, r2⟩ | ⟨q, r1, r2⟩ | ⟨q, r1, r2⟩
      · cases q
        refine ⟨⟨(aU (dApps os p.2.1.1 p.2.1.2 p.1) 2 (Int32.ofNat (tx + 1)), (p.2.1.1 + dFs os, p.2.1.2 + dTs os), (0, p.2.2.1.2), p.2.2.2.1, p.2.2.2.2.1, Int32.ofInt (-1)), ⟨IC, ?_, Nat.zero_le _, fun i hi => absurd hi (Nat.not_lt_zero i), w.2.2.2.2⟩, z _ (cls _ _ 0 _ x4 x1 x5 (Or.inr rfl)), ref _ _ 0 _ y6 ?_ y1 y7 (Or.inr rfl)⟩, _, y4, by rw [r1], fun _ => ?_⟩
        · show 0 ≤ (aU (dApps os p.2.1.1 p.2.1.2 p.1) 2 (Int32.ofNat (tx + 1)) 6).toInt
          rw [aU_ne (by omega), ne 6 (by omega)]
          exact w.2.1
        · rw [aU_ne (by omega)]; exact ne 3 (by omega)
        · rw [y5]; exact out _ r2
      · cases q
      · cases q
/-! the law -/
theorem aI.law (K : aI nf nt A) : aI nf nt (aU A 3 (Int32.ofInt 1)) := by
  have hs3 : ∀ i, i ≠ 3 → aU A 3 (Int32.ofInt 1) i = A i := fun i h => aU_ne h
  obtain ⟨⟨a0, a1, a2, a3, a4⟩, a5, a6, a7, a8, a9, a10, a11⟩ := K
  exact ⟨⟨(hs3 _ (by omega)).trans a0, a1, (hs3 _ (by omega)).trans a2, a3, fun t h1 h2 => (hs3 _ (by omega)).trans (a4 t h1 h2)⟩, fun h hh => by rw [hs3 _ (by omega)]; exact a5 h hh, fun t ht => by rw [hs3 _ (by omega)]; exact a6 t ht, by rw [hs3 _ (by omega)]; exact a7, by rw [hs3 _ (by omega)]; exact a8, by rw [hs3 _ (by omega)]; exact a9, by rw [hs3 _ (by omega)]; exact a10, by rw [hs3 _ (by omega)]; exact a11⟩
theorem hH.frl {b9 : Nat} (K : hH σ b9 A) (hl1 : τ.2.1 (b9 + 11) = σ.2.1 (b9 + 11)) (hl2 : τ.2.1 (b9 + 12) = σ.2.1 (b9 + 12)) (h : ∀ c j, b9 ≤ c → c ≤ b9 + 12 → τ.1 c j = σ.1 c j) : hH τ b9 A := by
  obtain ⟨h1, h2, ⟨l, h3, h3'⟩, ⟨nx, h4, h4', h4''⟩, h5, h6, h7⟩ := K
  refine ⟨fun c j d hk => ?_, fun k c j hp => ?_, ⟨l, ?_, h3'⟩, ⟨nx, h4, ?_, fun i j hi hj => ?_⟩, ?_, by rw [hl1]; exact h6, by rw [hl2]; exact h7⟩
  · rw [h c j (by unfold hKr at hk; omega) (by unfold hKr at hk; omega)]; exact h1 c j d hk
  · have hn := hp.no
    rw [h c j hn.2.2.2.2.2.2.2.1 hn.2.2.2.2.2.2.2.2]; exact h2 k c j hp
  · rw [h _ _ (by omega) (by omega)]; exact h3
  · rw [h _ _ (by omega) (by omega)]; exact h4'
  · rw [h _ _ (by omega) (by omega)]; exact h4'' i j hi hj
  · unfold hWe
    rw [h b9 5 (by omega) (by omega)]
    exact h5
/-- the law of a house is another one now -/
theorem hH.w5 {b9 L : Nat} (K : hH σ b9 A) (hl1 : τ.2.1 (b9 + 11) = σ.2.1 (b9 + 11)) (hl2 : τ.2.1 (b9 + 12) = σ.2.1 (b9 + 12)) (h : ∀ c j, b9 ≤ c → c ≤ b9 + 12 → ¬ (c = b9 ∧ j = 5) → τ.1 c j = σ.1 c j) (h5 : τ.1 b9 5 = .ref L) : hH τ b9 (aU A 3 (Int32.ofInt 1)) := by
  obtain ⟨h1, h2, ⟨l, h3, h3'⟩, ⟨nx, h4, h4', h4''⟩, -, h6, h7⟩ := K
  refine ⟨fun c j d hk => ?_, fun k c j hp => ?_, ⟨l, ?_, fun t ht => ?_⟩, ⟨nx, h4, ?_, fun i j hi hj => ?_⟩, Or.inr ⟨L, h5, aU_at⟩, by rw [hl1]; exact h6, by rw [hl2]; exact h7⟩
  · rw [h c j (by unfold hKr at hk; omega) (by unfold hKr at hk; omega) (by unfold hKr at hk; omega)]; exact h1 c j d hk
  · have hn := hp.no
    rw [aU_ne hn.2.1, h c j hn.2.2.2.2.2.2.2.1 hn.2.2.2.2.2.2.2.2 hn.2.2.2.2.2.2.1]; exact h2 k c j hp
  · rw [h _ _ (by omega) (by omega) (by omega)]; exact h3
  · rw [aU_ne (by omega)]; exact h3' t ht
  · rw [h _ _ (by omega) (by omega) (by omega)]; exact h4'
  · rw [h _ _ (by omega) (by omega) (by omega), aU_ne (by omega)]; exact h4'' i j hi hj
theorem cLaw.frl {L : Nat} {ls : List gLn4} {l : zSs} (K : cLaw σ L ls l) (h1 : τ.2.1 (L + 1) = σ.2.1 (L + 1)) (h2 : ∀ c k, L ≤ c → c ≤ L + 5 → τ.1 c k = σ.1 c k) : cLaw τ L ls l := by
  obtain ⟨a0, a1, a2, a3, a4, a5, a6, a7, a8⟩ := K
  refine ⟨?_, ?_, ?_, ?_, ?_, ?_, fun i x hx => ?_, by rw [h1]; exact a7, fun i x hx => ?_⟩
  · rw [h2 _ _ (by omega) (by omega)]; exact a0
  · rw [h2 _ _ (by omega) (by omega)]; exact a1
  · rw [h2 _ _ (by omega) (by omega)]; exact a2
  · rw [h2 _ _ (by omega) (by omega)]; exact a3
  · rw [h2 _ _ (by omega) (by omega)]; exact a4
  · rw [h2 _ _ (by omega) (by omega)]; exact a5
  · rw [h2 _ _ (by omega) (by omega), h2 _ _ (by omega) (by omega), h2 _ _ (by omega) (by omega)]; exact a6 i x hx
  · rw [h2 _ _ (by omega) (by omega)]; exact a8 i x hx
theorem hW.frl {b9 : Nat} {Lo : zLaw} (K : hW σ b9 Lo) (B : wB σ Lo) (hl : ∀ c, c < σ.2.2 → τ.2.1 c = σ.2.1 c) (h5 : τ.1 b9 5 = σ.1 b9 5) (h : ∀ c k, 219 ≤ c → c < σ.2.2 → τ.1 c k = σ.1 c k) : hW τ b9 Lo := by
  unfold hW at K ⊢
  unfold wB at B
  match Lo, K, B with
  | none, K, _ => exact h5.trans K
  | some (L, ls, l), ⟨k1, k2, k3, k4, k5, k6⟩, B => exact ⟨h5.trans k1, k2, k3, k4.frl (hl _ (by omega)) (fun c k q1 q2 => h c k (by omega) (by omega)), (hl _ (by omega)).trans k5, k6⟩
theorem zCi.frl {im : Option ((Nat → Int32) × zLaw)} (K : zCi σ im) (h22 : σ.2.2 ≤ τ.2.2) (h219 : 219 ≤ σ.2.2) (hl : ∀ c, c < σ.2.2 → τ.2.1 c = σ.2.1 c) (h6 : τ.1 0 6 = σ.1 0 6) (h : ∀ c k, 34 ≤ c → c ≤ 46 → τ.1 c k = σ.1 c k) (hc : ∀ c k, 219 ≤ c → c < σ.2.2 → τ.1 c k = σ.1 c k) : zCi τ im := by
  unfold zCi at K ⊢
  split at K
  · obtain ⟨q1, B, q2⟩ := K
    exact ⟨h6.trans q1, B, q2.frl (hl _ (by omega)) (hl _ (by omega)) (fun c j q1 q2 => h c j (by omega) (by omega))⟩
  · obtain ⟨q1, q2, q3, q4⟩ := K
    exact ⟨h6.trans q1, q2.frl (hl _ (by omega)) (hl _ (by omega)) (fun c j q1 q2 => h c j (by omega) (by omega)), q3.frl q4 hl (h _ _ (by omega) (by omega)) hc, q4.of h22⟩
theorem zq_3 {bt : Nat → Int} {E : Nat} (w : zPw p) (K : zC σ p) (R : zRv σ p) (Q : cLw σ 0 1 3 8 47 7 4 5 6 2 bt E) (Q2 : rA σ 205 206 bt E) (h8 : σ.1 205 8 = .ref 211) (hs : k.toInt = 0 → σ1.2.2 = σ.2.2 + 6 ∧ σ1.2.1 (σ.2.2 + 2) = 32) (G1 : p_316w 0 218 σ k σ1) (G2 : p_232 205 σ1 b σ2) : zHld σ2 ∧ zLik σ2 k b := by
  obtain ⟨e, τ, g, alts⟩ := G1
  obtain ⟨g, gw'⟩ := g
  obtain ⟨f, -, Rs, hR, xo⟩ := g 1 3 8 47 7 4 5 6 2 bt E Q
  obtain ⟨k1, k2, ⟨D, k3⟩, ⟨nx, Ms, m, k4⟩, k5, k6, k7, k8, k9, k10⟩ := id K
  have s1e : σ1.2 = τ.2 ∧ ∀ c q, c ≠ 218 → σ1.1 c q = τ.1 c q := by
    rcases alts with ⟨v, -, -, r⟩ | ⟨-, -, r⟩
    · rw [r]; exact ⟨rfl, fun c q h => q_w_ne (fun e _ => h e)⟩
    · rw [r]; exact ⟨rfl, fun _ _ _ => rfl⟩
  have fr : ∀ c q, c < σ.2.2 → c ≠ 218 → ¬ (c = 0 ∧ q = 7) → ¬ (1 ≤ c ∧ c ≤ 7) → ¬ (c = 8 ∧ q = 5) → ¬ (c = 47 ∧ q = 2) → σ1.1 c q = σ.1 c q := fun c q h0 h1 h2 h3 h4 h5 => (s1e.2 c q h1).trans (f.2.2 c q h0 h2 (by omega) (by omega) (by omega) (by omega) (by omega) (by omega) h4 h5)
  have ln : ∀ c, c < σ.2.2 → σ1.2.1 c = σ.2.1 c := fun c h => by rw [s1e.1]; exact f.2.1 c h
  have lo : ∀ c q, 205 ≤ c → c ≤ 217 → σ1.1 c q = σ.1 c q := fun c q h1 h2 => fr c q (by omega) (by omega) (by omega) (by omega) (by omega) (by omega)
  have R1 : zRv σ1 p := R.cls lo
  have Q1 : rA σ1 205 206 bt E := by
    obtain ⟨a1, a2, a3, a4, a5, a6, a7, a8, D9, a9, a10⟩ := Q2
    have l8 := lo 205 8 (by omega) (by omega)
    exact ⟨by rw [l8]; exact a1, (rb_of (c := 0) h8 (fun q _ => lo _ _ (by omega) (by omega)) l8).trans a2, (lo _ _ (by omega) (by omega)).trans a3, a4, by rw [l8]; exact a5, (ln _ (by omega)).trans a6, (lo _ _ (by omega) (by omega)).trans a7, a8, D9, a9, (lo _ _ (by omega) (by omega)).trans a10⟩
  obtain ⟨fy, -, Rs', hR', yo⟩ := G2 206 bt E Q1
  cases hR.det hR'
  have fr2 : ∀ c q, ¬ (c = 205 ∧ (q = 0 ∨ q = 7 ∨ (9 ≤ q ∧ q ≤ 14) ∨ q = 16)) → ¬ (c = 206 ∧ (q = 3 ∨ 388 ≤ q)) → σ2.1 c q = σ1.1 c q := fun c q h1 h2 => fy.2 c q h1 h2
  have h0 : ∀ q, q ≠ 7 → σ1.1 0 q = σ.1 0 q := fun q h => fr 0 q (by omega) (by omega) (by omega) (by omega) (by omega) (by omega)
  have hc : ∀ c q, 219 ≤ c → c < σ.2.2 → σ1.1 c q = σ.1 c q := fun c q h1 h2 => fr c q h2 (by omega) (by omega) (by omega) (by omega) (by omega)
  have h3 : ∀ c q, 9 ≤ c → c ≤ 204 → c ≠ 47 → σ1.1 c q = σ.1 c q := fun c q h1 h2 h4 => fr c q (by omega) (by omega) (by omega) (by omega) (by omega) (by omega)
  have z : ∀ (q : zPt), zC σ1 q → zC σ2 q := fun q h => h.ref fy.1 (fun c k hc => fr2 c k (by omega) (by omega))
  have m47 : ∀ n', σ1.1 47 2 = .int (Int32.ofNat n') → n' ≤ 12 → mM σ1 nx n' Ms := fun n' e hn => by
    obtain ⟨m1, m2, m3, m4, m5, m6, m7⟩ := m
    exact ⟨(fr _ _ (by omega) (by omega) (by omega) (by omega) (by omega) (by omega)).trans m1, fun i hi => (h3 _ _ (by omega) (by omega) (by omega)).trans (m2 i hi), (fr _ _ (by omega) (by omega) (by omega) (by omega) (by omega) (by omega)).trans m3, m4, e, hn, fun i hi => (m7 i hi).frl (ln _ (by omega)) (ln _ (by omega)) (fun c j q1 q2 => h3 c j (by omega) (by omega) (by omega))⟩
  have h22 : σ.2.2 ≤ σ1.2.2 := by rw [s1e.1]; exact f.1
  have ci : zCi σ1 p.2.2.2.2.1 := k7.frl h22 k9 ln (h0 6 (by omega)) (fun c k h1 h2 => h3 c k (by omega) (by omega) (by omega)) hc
  have dD : ∃ D, hH σ1 21 D := ⟨D, k3.frl (ln _ (by omega)) (ln _ (by omega)) (fun c j q1 q2 => h3 c j (by omega) (by omega) (by omega))⟩
  have sk : xSk σ1 := k1.of (fun q _ => h0 q (by omega))
  obtain ⟨⟨s1, s2, s3, s4, s5⟩, r2, r3, r4, r5, r6, r7, r8⟩ := R1
  have skr : rSk σ2 := ⟨(fr2 _ _ (by omega) (by omega)).trans s1, (fr2 _ _ (by omega) (by omega)).trans s2, (fr2 _ _ (by omega) (by omega)).trans s3, (fr2 _ _ (by omega) (by omega)).trans s4, (fr2 _ _ (by omega) (by omega)).trans s5⟩
  have im2 : zRim σ2 p.2.2.2.2.1 := r7.of (fr2 _ _ (by omega) (by omega)) (fun k _ => fr2 _ _ (by omega) (by omega))
  have ac2 : ∀ i, i < p.2.2.1.1 → ∀ k, k < 388 → σ2.1 210 (388 * i + k) = .int (p.2.2.1.2 i k) := fun i hi k hk => (fr2 _ _ (by omega) (by omega)).trans (r6 i hi k hk)
  cases Rs with
  | inr F =>
    obtain ⟨rfl, x1, x2, x3⟩ := xo
    obtain ⟨y1, y2, y3, y4, y5⟩ := yo
    obtain ⟨z1, z2, z3⟩ := gw' 1 3 8 47 7 4 5 6 2 bt E Q rfl
    rcases alts with ⟨v, q, -, -⟩ | ⟨-, r1, r2'⟩
    · cases q
    subst r2'
    refine ⟨⟨(p.1, p.2.1, (p.2.2.1.1, p.2.2.1.2), p.2.2.2.1, p.2.2.2.2.1, Int32.ofNat F), w, z _ ⟨sk, k2.fr z1 (fun c j q1 q2 => ?_), dD, ⟨nx, Ms, m47 _ (z3.trans m.2.2.2.2.1) w.2.2.1, fun i hi => ⟨(k4 i hi).1, ?_⟩⟩, k5.frl k6 ln z2 hc, k6.of (by rw [z1]; exact Nat.le_refl _), ci, x2, by rw [z1]; exact k9, by rw [z1]; exact k10⟩, ⟨skr, (fr2 _ _ (by omega) (by omega)).trans r2, ⟨skr.1, fun k hk => (y5 k (by omega)).trans (r3.2 k hk)⟩, r4.of (fun k _ hk => y5 k hk) rfl, y4.trans r5, ac2, im2, y3⟩⟩, _, y2, by rw [r1], fun h => ?_⟩
    · by_cases q5 : c = 8 ∧ j = 5
      · rw [q5.1, q5.2]; exact z2
      · exact fr c j (by omega) (by omega) (by omega) (by omega) q5 (by omega)
    · have l12 : mJ nx p.2.2.1.1 i < 12 := Nat.mod_lt _ (by omega)
      show σ1.1 (49 + 13 * mJ nx p.2.2.1.1 i) 5 = σ1.1 8 5
      rw [h3 _ _ (by omega) (by omega) (by omega), z2]
      exact (k4 i hi).2
    · rw [r1] at h
      exact absurd h (by decide)
  | inl q =>
    obtain ⟨ls, l⟩ := q
    obtain ⟨rfl, x1, x2, x3, x4, x5, x6⟩ := xo
    obtain ⟨y1, y2, y3, y4, y5, y6, y7, y8⟩ := yo
    rcases alts with ⟨v, q, r1, r2'⟩ | ⟨q, -, -⟩
    case inr => cases q
    cases q
    obtain ⟨hs1, hs2⟩ := hs (by rw [r1]; rfl)
    have gw := hR.wf x1 x2
    have e85 : σ1.1 8 5 = .ref σ.2.2 := (s1e.2 8 5 (by omega)).trans x4
    have cl : cLaw σ1 σ.2.2 ls l := x6.frl (by rw [s1e.1]) (fun c k q1 q2 => s1e.2 c k (by omega))
    have hB : hH σ1 8 (aU p.1 3 (Int32.ofInt 1)) := k2.w5 (ln _ (by omega)) (ln _ (by omega)) (fun c j q1 q2 q3 => fr c j (by omega) (by omega) (by omega) (by omega) (by omega) (by omega)) e85
    have hs3 : ∀ i, i ≠ 3 → aU p.1 3 (Int32.ofInt 1) i = p.1 i := fun i h => aU_ne h
    refine ⟨⟨(aU p.1 3 (Int32.ofInt 1), p.2.1, (0, p.2.2.1.2), some (σ.2.2, ls, l), p.2.2.2.2.1, Int32.ofInt (-1)), ⟨?_, ?_, Nat.zero_le _, fun i hi => absurd hi (Nat.not_lt_zero i), w.2.2.2.2⟩, z _ ⟨sk, hB, dD, ⟨nx, Ms, m47 0 ((s1e.2 _ _ (by omega)).trans x5) (by omega), fun i hi => absurd hi (Nat.not_lt_zero i)⟩, ⟨e85, k9, k10, cl, hs2, gw⟩, (by show σ.2.2 + 6 ≤ σ1.2.2; omega), ci, (s1e.2 _ _ (by omega)).trans x3, by omega, by omega⟩, ⟨skr, (fr2 _ _ (by omega) (by omega)).trans r2, ⟨skr.1, fun k hk => ?_⟩, ⟨(show aU p.1 3 (Int32.ofInt 1) 3 = _ from aU_at), y8, gw⟩, y5, fun i hi => absurd hi (Nat.not_lt_zero i), im2, y4⟩⟩, _, y3, by rw [r1], fun _ => ?_⟩
    · exact w.1.law
    · show 0 ≤ (aU p.1 3 (Int32.ofInt 1) 6).toInt
      rw [hs3 _ (by omega)]; exact w.2.1
    · by_cases q3 : k = 3
      · subst q3
        show σ2.1 206 3 = .int (aU p.1 3 (Int32.ofInt 1) 3)
        rw [aU_at]; exact y6
      · show σ2.1 206 k = .int (aU p.1 3 (Int32.ofInt 1) k)
        rw [hs3 _ q3, fr2 _ _ (by omega) (by omega)]; exact r3.2 k hk
    · rw [fr2 _ _ (by omega) (by omega), r2', y1]
      exact q_w_at _ _ _ _
end ZPD
