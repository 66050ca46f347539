/-! THE WHOLE RELATION, of both objects to one row of ints: what both hold (zP), how the class (zC), how the reference holds it (zRv) -/
abbrev zLaw : Type := Option (Nat × List gLn4 × zSs)
/-- the house that is now, how many families and things, how many acts remembered, which (the oldest first), the law, the image, the fault -/
abbrev zPt : Type := (Nat → Int32) × (Nat × Nat) × (Nat × (Nat → Nat → Int32)) × zLaw × Option ((Nat → Int32) × zLaw) × Int32
noncomputable def zPw (p : zPt) : Prop := aI p.2.1.1 p.2.1.2 p.1 ∧ 0 ≤ (p.1 6).toInt ∧ p.2.2.1.1 ≤ 12 ∧ (∀ i, i < p.2.2.1.1 → aI p.2.1.1 p.2.1.2 (p.2.2.1.2 i) ∧ 0 ≤ (p.2.2.1.2 i 6).toInt ∧ p.2.2.1.2 i 3 = p.1 3) ∧ (match p.2.2.2.2.1 with
  | none => True
  | some (I, _) => (∃ nf nt, aI nf nt I) ∧ 0 ≤ (I 6).toInt)
noncomputable def wB (σ : zSg) (Lo : zLaw) : Prop := match Lo with
  | none => True
  | some (L, _) => L + 6 ≤ σ.2.2
noncomputable def rTx (σ : zSg) (W : Nat) (A : Nat → Int32) (Lo : zLaw) : Prop := match Lo with
  | none => A 3 = Int32.ofInt 0
  | some (_, ls, l) => A 3 = Int32.ofInt 1 ∧ rLT σ W ls l ∧ gW ls l
/-- the ring of remembered houses: the i-th of n, the next one to be written being nx -/
noncomputable def mJ (nx n i : Nat) : Nat := (nx + 12 - n + i) % 12
noncomputable def zCm (σ : zSg) (n : Nat) (Rs : Nat → Nat → Int32) (Lw : Value) : Prop := ∃ nx Ms, mM σ nx n Ms ∧ ∀ i, i < n → Ms (mJ nx n i) = Rs i ∧ σ.1 (49 + 13 * mJ nx n i) 5 = Lw
noncomputable def zCi (σ : zSg) (im : Option ((Nat → Int32) × zLaw)) : Prop := match im with
  | none => σ.1 0 6 = .int (Int32.ofInt 0) ∧ ∃ B, hH σ 34 B
  | some (I, Li) => σ.1 0 6 = .int (Int32.ofInt 1) ∧ hH σ 34 I ∧ hW σ 34 Li ∧ wB σ Li
noncomputable def zC (σ : zSg) (p : zPt) : Prop := xSk σ ∧ hH σ 8 p.1 ∧ (∃ D, hH σ 21 D) ∧ zCm σ p.2.2.1.1 p.2.2.1.2 (σ.1 8 5) ∧ hW σ 8 p.2.2.2.1 ∧ wB σ p.2.2.2.1 ∧ zCi σ p.2.2.2.2.1 ∧ σ.1 0 7 = .int p.2.2.2.2.2 ∧ 219 ≤ σ.2.2 ∧ σ.2.2 % 6 = 3
noncomputable def zRim (σ : zSg) (im : Option ((Nat → Int32) × zLaw)) : Prop := match im with
  | none => σ.1 205 6 = .int (Int32.ofInt 0)
  | some (I, Li) => σ.1 205 6 = .int (Int32.ofInt 1) ∧ (∀ k, k < 388 → σ.1 207 k = .int (I k)) ∧ rTx σ 207 I Li
noncomputable def zRv (σ : zSg) (p : zPt) : Prop := rSk σ ∧ σ.1 205 17 = .ref 213 ∧ rW σ p.1 ∧ rTx σ 206 p.1 p.2.2.2.1 ∧ σ.1 205 7 = .int (Int32.ofNat p.2.2.1.1) ∧ (∀ i, i < p.2.2.1.1 → ∀ k, k < 388 → σ.1 210 (388 * i + k) = .int (p.2.2.1.2 i k)) ∧ zRim σ p.2.2.2.2.1 ∧ σ.1 205 14 = .int p.2.2.2.2.2
/-- cells that the class's side hangs on -/
noncomputable def zCc (c : Nat) : Prop := c = 0 ∨ (8 ≤ c ∧ c < 205) ∨ (219 ≤ c ∧ c % 6 ≠ 5)
noncomputable def zRc (c k : Nat) : Prop := (c = 205 ∧ ((1 ≤ k ∧ k ≤ 7) ∨ k = 14 ∨ k = 17)) ∨ (c = 206 ∧ k < 1237) ∨ (c = 207 ∧ k < 1237) ∨ c = 210
section ZRL
variable {σ τ υ : zSg} {p : zPt} {A B : Nat → Int32} {Lo : zLaw} {b n W : Nat}
theorem hW.of (K : hW σ b Lo) (h2 : τ.2 = σ.2) (h5 : τ.1 b 5 = σ.1 b 5) (h : ∀ c k, 219 ≤ c → c % 6 ≠ 5 → τ.1 c k = σ.1 c k) : hW τ b Lo := by
  unfold hW at K ⊢
  match Lo, K with
  | none, K => exact h5.trans K
  | some (L, ls, l), ⟨k1, k2, k3, k4, k5, k6⟩ => exact ⟨h5.trans k1, k2, k3, k4.fr h2 (fun c k q1 q2 q3 => h c k (by omega) (by omega)), by rw [h2]; exact k5, k6⟩
theorem wB.of (K : wB σ Lo) (h2 : σ.2.2 ≤ τ.2.2) : wB τ Lo := by
  unfold wB at K ⊢
  match Lo, K with
  | none, _ => trivial
  | some (L, _), K => exact Nat.le_trans K h2
theorem rLT.ofW {ls : List gLn4} {l : zSs} (K : rLT σ W ls l) (g : gW ls l) (f : ∀ k, 388 ≤ k → k < 1237 → τ.1 W k = σ.1 W k) : rLT τ W ls l := by
  obtain ⟨a, b, c⟩ := K
  refine ⟨(f _ (by omega) (by omega)).trans a, fun i x hx => ?_, fun i x hx => ?_⟩
  · have hi := (List.getElem?_eq_some_iff.mp hx).1
    have g1 := g.1
    obtain ⟨b1, b2, b3, b4⟩ := b i x hx
    exact ⟨(f _ (by omega) (by omega)).trans b1, (f _ (by omega) (by omega)).trans b2, (f _ (by omega) (by omega)).trans b3, (f _ (by omega) (by omega)).trans b4⟩
  · have hi := (List.getElem?_eq_some_iff.mp hx).1
    have g1 := g.2.1
    obtain ⟨c1, c2⟩ := c i x hx
    exact ⟨(f _ (by omega) (by omega)).trans c1, (f _ (by omega) (by omega)).trans c2⟩
theorem rTx.of (K : rTx σ W A Lo) (f : ∀ k, 388 ≤ k → k < 1237 → τ.1 W k = σ.1 W k) (h3 : B 3 = A 3) : rTx τ W B Lo := by
  unfold rTx at K ⊢
  match Lo, K with
  | none, K => exact h3.trans K
  | some (L, ls, l), ⟨k1, k2, k3⟩ => exact ⟨h3.trans k1, k2.ofW k3 f, k3⟩
theorem hH.c (K : hH σ b A) (h2 : τ.2 = σ.2) (hb : 8 ≤ b) (hb2 : b ≤ 192) (h : ∀ c k, zCc c → τ.1 c k = σ.1 c k) : hH τ b A := K.fr h2 (fun c j q1 q2 => h c j (Or.inr (Or.inl ⟨by omega, by omega⟩)))
theorem zC.fr (K : zC σ p) (h2 : τ.2 = σ.2) (h : ∀ c k, zCc c → τ.1 c k = σ.1 c k) : zC τ p := by
  obtain ⟨k1, k2, ⟨D, k3⟩, ⟨nx, Ms, ⟨m1, m2, m3, m4, m5, m6, m7⟩, k4⟩, k5, k6, k7, k8, k9, k10⟩ := K
  have hl : ∀ c k, 219 ≤ c → c % 6 ≠ 5 → τ.1 c k = σ.1 c k := fun c k q1 q2 => h c k (Or.inr (Or.inr ⟨q1, q2⟩))
  have hi : ∀ c k, 8 ≤ c → c < 205 → τ.1 c k = σ.1 c k := fun c k q1 q2 => h c k (Or.inr (Or.inl ⟨q1, q2⟩))
  have h0 : ∀ k, τ.1 0 k = σ.1 0 k := fun k => h 0 k (Or.inl rfl)
  have hB : ∀ {Lo : zLaw}, wB σ Lo → wB τ Lo := fun w => w.of (by rw [h2]; exact Nat.le_refl _)
  refine ⟨k1.of (fun k _ => h0 k), k2.c h2 (by omega) (by omega) h, ⟨D, k3.c h2 (by omega) (by omega) h⟩, ⟨nx, Ms, ⟨(hi _ _ (by omega) (by omega)).trans m1, fun i hi9 => (hi _ _ (by omega) (by omega)).trans (m2 i hi9), (hi _ _ (by omega) (by omega)).trans m3, m4, (hi _ _ (by omega) (by omega)).trans m5, m6, fun i hi9 => (m7 i hi9).c h2 (by omega) (by omega) h⟩, fun i hi9 => ⟨(k4 i hi9).1, ?_⟩⟩, k5.of h2 (hi _ _ (by omega) (by omega)) hl, hB k6, ?_, (h0 7).trans k8, by rw [h2]; exact k9, by rw [h2]; exact k10⟩
  · have : mJ nx p.2.2.1.1 i < 12 := Nat.mod_lt _ (by omega)
    rw [hi _ _ (by omega) (by omega), hi 8 5 (by omega) (by omega)]
    exact (k4 i hi9).2
  · unfold zCi at k7 ⊢
    split at k7
    · obtain ⟨q1, B, q2⟩ := k7
      exact ⟨(h0 6).trans q1, B, q2.c h2 (by omega) (by omega) h⟩
    · obtain ⟨q1, q2, q3, q4⟩ := k7
      exact ⟨(h0 6).trans q1, q2.c h2 (by omega) (by omega) h, q3.of h2 (hi _ _ (by omega) (by omega)) hl, hB q4⟩
theorem zRv.fr (K : zRv σ p) (h : ∀ c k, zRc c k → τ.1 c k = σ.1 c k) : zRv τ p := by
  obtain ⟨⟨s1, s2, s3, s4, s5⟩, k2, ⟨k3, k3'⟩, k4, k5, k6, k7, k8⟩ := K
  have h5 : ∀ k, ((1 ≤ k ∧ k ≤ 7) ∨ k = 14 ∨ k = 17) → τ.1 205 k = σ.1 205 k := fun k q => h 205 k (Or.inl ⟨rfl, q⟩)
  have h6 : ∀ k, k < 1237 → τ.1 206 k = σ.1 206 k := fun k q => h 206 k (Or.inr (Or.inl ⟨rfl, q⟩))
  have h7 : ∀ k, k < 1237 → τ.1 207 k = σ.1 207 k := fun k q => h 207 k (Or.inr (Or.inr (Or.inl ⟨rfl, q⟩)))
  refine ⟨⟨(h5 _ (by omega)).trans s1, (h5 _ (by omega)).trans s2, (h5 _ (by omega)).trans s3, (h5 _ (by omega)).trans s4, (h5 _ (by omega)).trans s5⟩, (h5 _ (by omega)).trans k2, ⟨(h5 _ (by omega)).trans k3, fun k hk => (h6 k (by omega)).trans (k3' k hk)⟩, k4.of (fun k _ q => h6 k q) rfl, (h5 _ (by omega)).trans k5, fun i hi k hk => (h 210 _ (Or.inr (Or.inr (Or.inr rfl)))).trans (k6 i hi k hk), ?_, (h5 _ (by omega)).trans k8⟩
  unfold zRim at k7 ⊢
  split at k7
  · exact (h5 6 (by omega)).trans k7
  · obtain ⟨q1, q2, q3⟩ := k7
    exact ⟨(h5 6 (by omega)).trans q1, fun k hk => (h7 k (by omega)).trans (q2 k hk), q3.of (fun k _ q => h7 k q) rfl⟩
/-! what each method's words want -/
theorem zRv.J (K : zRv σ p) (w : zPw p) : rJ σ p.1 p.2.2.1.1 := ⟨K.1, K.2.2.1, K.2.2.2.2.1, w.2.2.1⟩
theorem rTx.toL (K : rTx σ 206 A Lo) : rLo σ A Lo := by
  unfold rTx at K
  unfold rLo
  exact K
theorem rLo.toT (K : rLo σ A Lo) : rTx σ 206 A Lo := by
  unfold rLo at K
  unfold rTx
  exact K
theorem aI.own {nf nt : Nat} (I : aI nf nt A) : ∀ t, t < nt → A (64 + 3 * t) ≠ Int32.ofInt (-1) := fun t ht q => by
  have k6 := I.1.2.1
  obtain ⟨F, hF, e⟩ := I.2.2.1 t ht
  rw [e] at q
  have := congrArg Int32.toInt q
  rw [o32 (by omega), show (Int32.ofInt (-1)).toInt = -1 from rfl] at this
  omega
theorem zRv.Ev (K : zRv σ p) (w : zPw p) : rEv σ p.1 p.2.1.2 p.2.2.2.1 := ⟨K.2.2.1, K.2.1, w.1.1.2.2.1, w.1.1.2.2.2.1, w.1.own, K.2.2.2.1.toL⟩
theorem zRv.Dp (K : zRv σ p) (w : zPw p) : rDp σ p.1 p.2.1.1 p.2.1.2 p.2.2.2.1 := ⟨K.1, K.Ev w, w.1⟩
theorem zC.Dp (K : zC σ p) (w : zPw p) : xDp σ p.1 p.2.1.1 p.2.1.2 p.2.2.2.1 := ⟨K.1, K.2.1, K.2.2.1, w.1, K.2.2.2.2.1⟩
/-- behind an act -/
noncomputable def zAct (p : zPt) (B : Nat → Int32) : zPt := (B, p.2.1, (min (p.2.2.1.1 + 1) 12, fun i => if p.2.2.1.1 = 12 then (if i = 11 then p.1 else p.2.2.1.2 (i + 1)) else (if i = p.2.2.1.1 then p.1 else p.2.2.1.2 i)), p.2.2.2)
theorem zPw.act (w : zPw p) (I : aI p.2.1.1 p.2.1.2 B) (h6 : 0 ≤ (B 6).toInt) (h3 : B 3 = p.1 3) : zPw (zAct p B) := by
  obtain ⟨w1, w2, w3, w4, w5⟩ := w
  refine ⟨I, h6, Nat.min_le_right _ _, fun i hi => ?_, w5⟩
  have hi : i < min (p.2.2.1.1 + 1) 12 := hi
  show aI p.2.1.1 p.2.1.2 (if p.2.2.1.1 = 12 then (if i = 11 then p.1 else p.2.2.1.2 (i + 1)) else (if i = p.2.2.1.1 then p.1 else p.2.2.1.2 i)) ∧ 0 ≤ ((if p.2.2.1.1 = 12 then (if i = 11 then p.1 else p.2.2.1.2 (i + 1)) else (if i = p.2.2.1.1 then p.1 else p.2.2.1.2 i)) 6).toInt ∧ (if p.2.2.1.1 = 12 then (if i = 11 then p.1 else p.2.2.1.2 (i + 1)) else (if i = p.2.2.1.1 then p.1 else p.2.2.1.2 i)) 3 = B 3
  by_cases q : p.2.2.1.1 = 12
  · rw [if_pos q]
    by_cases q2 : i = 11
    · rw [if_pos q2]; exact ⟨w1, w2, h3.symm⟩
    · rw [if_neg q2, h3]; exact w4 _ (by omega)
  · rw [if_neg q]
    by_cases q2 : i = p.2.2.1.1
    · rw [if_pos q2]; exact ⟨w1, w2, h3.symm⟩
    · rw [if_neg q2, h3]; exact w4 _ (by omega)
theorem zC.act (K : zC σ p) (h6 : p.2.2.1.1 ≤ 12) (H : ∀ nx Ms, mM σ nx p.2.2.1.1 Ms → xE σ τ p.1 B nx p.2.2.1.1 Ms ∧ hW τ 8 p.2.2.2.1) : zC τ (zAct p B) := by
  obtain ⟨k1, k2, ⟨D, k3⟩, ⟨nx, Ms, m, k4⟩, k5, k6, k7, k8, k9, k10⟩ := K
  obtain ⟨R, W⟩ := H nx Ms m
  have hx := m.2.2.2.1
  obtain ⟨f, r2, r3, r4⟩ := R
  have h2 := f.1
  have fr : ∀ c k, ¬ (8 ≤ c ∧ c ≤ 20 ∧ ¬ (c = 8 ∧ k = 5)) → ¬ (c = 47 ∧ (k = 1 ∨ k = 2)) → ¬ (49 + 13 * nx ≤ c ∧ c ≤ 61 + 13 * nx) → ¬ (219 ≤ c ∧ c % 6 = 5) → τ.1 c k = σ.1 c k := f.2
  have hl : ∀ c k, 219 ≤ c → c % 6 ≠ 5 → τ.1 c k = σ.1 c k := fun c k q1 q2 => fr c k (by omega) (by omega) (by omega) (by omega)
  have h0 : ∀ k, τ.1 0 k = σ.1 0 k := fun k => fr 0 k (by omega) (by omega) (by omega) (by omega)
  have e85 : τ.1 8 5 = σ.1 8 5 := fr 8 5 (by omega) (by omega) (by omega) (by omega)
  have hB : ∀ {Lo : zLaw}, wB σ Lo → wB τ Lo := fun w => w.of (by rw [h2]; exact Nat.le_refl _)
  refine ⟨k1.of (fun k _ => h0 k), r2, ⟨D, k3.fr h2 (fun c j q1 q2 => fr c j (by omega) (by omega) (by omega) (by omega))⟩, ⟨(nx + 1) % 12, _, r3, fun i hi => ?_⟩, W, hB k6, ?_, (h0 7).trans k8, by rw [h2]; exact k9, by rw [h2]; exact k10⟩
  · have hi : i < min (p.2.2.1.1 + 1) 12 := hi
    have hj : mJ ((nx + 1) % 12) (min (p.2.2.1.1 + 1) 12) i = if p.2.2.1.1 = 12 then (if i = 11 then nx else mJ nx p.2.2.1.1 (i + 1)) else (if i = p.2.2.1.1 then nx else mJ nx p.2.2.1.1 i) := by
      unfold mJ
      by_cases q : p.2.2.1.1 = 12
      · rw [if_pos q]
        by_cases q2 : i = 11
        · rw [if_pos q2]; omega
        · rw [if_neg q2]; omega
      · rw [if_neg q]
        by_cases q2 : i = p.2.2.1.1
        · rw [if_pos q2]; omega
        · rw [if_neg q2]; omega
    have ne : ∀ j, j < p.2.2.1.1 → ¬ (p.2.2.1.1 = 12 ∧ j = 0) → mJ nx p.2.2.1.1 j ≠ nx := fun j hj hz q => by unfold mJ at q; omega
    have old : ∀ j, j < p.2.2.1.1 → ¬ (p.2.2.1.1 = 12 ∧ j = 0) → (if mJ nx p.2.2.1.1 j = nx then p.1 else Ms (mJ nx p.2.2.1.1 j)) = p.2.2.1.2 j ∧ τ.1 (49 + 13 * mJ nx p.2.2.1.1 j) 5 = τ.1 8 5 := fun j hj hz => by
      have n1 := ne j hj hz
      have l1 : mJ nx p.2.2.1.1 j < 12 := Nat.mod_lt _ (by omega)
      refine ⟨by rw [if_neg n1]; exact (k4 j hj).1, ?_⟩
      rw [fr _ _ (by omega) (by omega) (by omega) (by omega), e85]
      exact (k4 j hj).2
    show (if mJ ((nx + 1) % 12) (min (p.2.2.1.1 + 1) 12) i = nx then p.1 else Ms (mJ ((nx + 1) % 12) (min (p.2.2.1.1 + 1) 12) i)) = (if p.2.2.1.1 = 12 then (if i = 11 then p.1 else p.2.2.1.2 (i + 1)) else (if i = p.2.2.1.1 then p.1 else p.2.2.1.2 i)) ∧ τ.1 (49 + 13 * mJ ((nx + 1) % 12) (min (p.2.2.1.1 + 1) 12) i) 5 = τ.1 8 5
    rw [hj]
    by_cases q : p.2.2.1.1 = 12
    · rw [if_pos q, if_pos q]
      by_cases q2 : i = 11
      · rw [if_pos q2, if_pos q2, if_pos rfl]
        exact ⟨rfl, by rw [r4, e85]⟩
      · rw [if_neg q2, if_neg q2]
        exact old (i + 1) (by omega) (by omega)
    · rw [if_neg q, if_neg q]
      by_cases q2 : i = p.2.2.1.1
      · rw [if_pos q2, if_pos q2, if_pos rfl]
        exact ⟨rfl, by rw [r4, e85]⟩
      · rw [if_neg q2, if_neg q2]
        exact old i (by omega) (by omega)
  · show zCi τ p.2.2.2.2.1
    unfold zCi at k7 ⊢
    split at k7
    · obtain ⟨q1, B9, q2⟩ := k7
      exact ⟨(h0 6).trans q1, B9, q2.fr h2 (fun c j q1 q2 => fr c j (by omega) (by omega) (by omega) (by omega))⟩
    · obtain ⟨q1, q2, q3, q4⟩ := k7
      exact ⟨(h0 6).trans q1, q2.fr h2 (fun c j q1 q2 => fr c j (by omega) (by omega) (by omega) (by omega)), q3.of h2 (fr _ _ (by omega) (by omega) (by omega) (by omega)) hl, hB q4⟩
/-- what an act of the reference leaves: world, value, acts -/
theorem rY_act {N i k : Nat} (hN : N ≤ 12) (Rs : Nat → Nat → Int32) (w0 : rW σ A) (h : ∀ i, i < N → ∀ k, k < 388 → σ.1 210 (388 * i + k) = .int (Rs i k)) (hi : i < min (N + 1) 12) (hk : k < 388) : (rY σ N).1 210 (388 * i + k) = .int ((if N = 12 then (if i = 11 then A else Rs (i + 1)) else (if i = N then A else Rs i)) k) := by
  have wr : rW (r0 σ) A := w0.el (by omega)
  have rm : ∀ c q, c ≠ 205 → c ≠ 210 → (rRm (r0 σ) N).1 c q = σ.1 c q := fun c q h1 h2 => by
    unfold rRm
    by_cases q9 : N = 12
    · rw [if_pos q9, rCy_ne (fun e => h2 e.1)]; exact q_w_ne (fun e _ => h1 e)
    · rw [if_neg q9, q_w_ne (fun e _ => h1 e)]; exact q_w_ne (fun e _ => h1 e)
  unfold rY
  show (if 210 = 210 ∧ 388 * rRn N ≤ 388 * i + k ∧ 388 * i + k < 388 * rRn N + 388 then Value.int (q_i ((rRm (r0 σ) N).1 206 (0 + (388 * i + k - 388 * rRn N)))) else (rRm (r0 σ) N).1 210 (388 * i + k)) = _
  by_cases q : N = 12
  · rw [if_pos q]
    have en : rRn N = 11 := if_pos q
    rw [en]
    by_cases q2 : i = 11
    · rw [if_pos q2, if_pos ⟨rfl, by omega, by omega⟩, rm 206 _ (by omega) (by omega), show 0 + (388 * i + k - 388 * 11) = k by omega, w0.2 k hk]
      rfl
    · rw [if_neg q2, if_neg (by omega)]
      unfold rRm
      rw [if_pos q]
      show (if 210 = 210 ∧ 0 ≤ 388 * i + k ∧ 388 * i + k < 0 + 4268 then Value.int (q_i ((r0 σ).1 210 (388 + (388 * i + k - 0)))) else (r0 σ).1 210 (388 * i + k)) = _
      rw [if_pos ⟨rfl, by omega, by omega⟩]
      have e : (r0 σ).1 210 (388 + (388 * i + k - 0)) = σ.1 210 (388 * (i + 1) + k) := by
        rw [show 388 + (388 * i + k - 0) = 388 * (i + 1) + k by omega]
        exact q_w_ne (fun e _ => by omega)
      rw [e, h (i + 1) (by omega) k hk]
      rfl
  · rw [if_neg q]
    have en : rRn N = N := if_neg q
    rw [en]
    by_cases q2 : i = N
    · rw [if_pos q2, if_pos ⟨rfl, by omega, by omega⟩, rm 206 _ (by omega) (by omega), show 0 + (388 * i + k - 388 * N) = k by omega, w0.2 k hk]
      rfl
    · rw [if_neg q2, if_neg (by omega)]
      unfold rRm
      rw [if_neg q, q_w_ne (fun e _ => by omega)]
      have e : (r0 σ).1 210 (388 * i + k) = σ.1 210 (388 * i + k) := q_w_ne (fun e _ => by omega)
      rw [e]
      exact h i (by omega) k hk
theorem rY_7 {N : Nat} (hN : N ≤ 12) (h7 : σ.1 205 7 = .int (Int32.ofNat N)) : (rY σ N).1 205 7 = .int (Int32.ofNat (min (N + 1) 12)) := by
  unfold rY
  rw [rCy_ne (fun q => by omega)]
  unfold rRm
  by_cases q : N = 12
  · rw [if_pos q, rCy_ne (fun e => by omega)]
    have e : (r0 σ).1 205 7 = σ.1 205 7 := q_w_ne (fun _ e => by omega)
    rw [e, h7, q]
    rfl
  · rw [if_neg q, q_w_at, show min (N + 1) 12 = N + 1 by omega]
theorem zRv.act (K : zRv σ p) (w : zPw p) (R : rX σ τ B p.2.2.1.1) (h3 : B 3 = p.1 3) : zRv τ (zAct p B) := by
  obtain ⟨⟨s1, s2, s3, s4, s5⟩, k2, k3, k4, k5, k6, k7, k8⟩ := K
  obtain ⟨r1, r2, r3⟩ := R
  have w3 := w.2.2.1
  have fr : ∀ c k, ¬ (c = 206 ∧ k < 388) → c ≠ 213 → c ≠ 210 → ¬ (c = 205 ∧ (k = 0 ∨ k = 7)) → τ.1 c k = σ.1 c k := fun c k q1 q2 q3 q4 => (r2 c k q1 q2).trans (rY_ne q4 q3)
  refine ⟨⟨(fr _ _ (by omega) (by omega) (by omega) (by omega)).trans s1, (fr _ _ (by omega) (by omega) (by omega) (by omega)).trans s2, (fr _ _ (by omega) (by omega) (by omega) (by omega)).trans s3, (fr _ _ (by omega) (by omega) (by omega) (by omega)).trans s4, (fr _ _ (by omega) (by omega) (by omega) (by omega)).trans s5⟩, (fr _ _ (by omega) (by omega) (by omega) (by omega)).trans k2, r3, k4.of (fun k _ _ => fr _ _ (by omega) (by omega) (by omega) (by omega)) h3, (r2 _ _ (by omega) (by omega)).trans (rY_7 w3 k5), fun i hi k hk => (r2 _ _ (by omega) (by omega)).trans (rY_act w3 _ k3 k6 hi hk), ?_, (fr _ _ (by omega) (by omega) (by omega) (by omega)).trans k8⟩
  show zRim τ p.2.2.2.2.1
  unfold zRim at k7 ⊢
  split at k7
  · exact (fr _ _ (by omega) (by omega) (by omega) (by omega)).trans k7
  · obtain ⟨q1, q2, q3⟩ := k7
    exact ⟨(fr _ _ (by omega) (by omega) (by omega) (by omega)).trans q1, fun k hk => (fr _ _ (by omega) (by omega) (by omega) (by omega)).trans (q2 k hk), q3.of (fun k _ _ => fr _ _ (by omega) (by omega) (by omega) (by omega)) rfl⟩
theorem rAc.X {N : Nat} (R : rAc σ τ B N) : rX σ τ B N := ⟨R.1, fun c k q _ => R.2.1 c k q, R.2.2⟩
/-- the class's steps leave the reference alone, and the other way -/
theorem zRv.cls (K : zRv σ p) (h : ∀ c k, 205 ≤ c → c ≤ 217 → τ.1 c k = σ.1 c k) : zRv τ p := K.fr (fun c k q => h c k (by unfold zRc at q; omega) (by unfold zRc at q; omega))
theorem zC.ref (K : zC σ p) (h2 : τ.2 = σ.2) (h : ∀ c k, ¬ (205 ≤ c ∧ c ≤ 217) → τ.1 c k = σ.1 c k) : zC τ p := K.fr h2 (fun c k q => h c k (by unfold zCc at q; omega))
theorem zC.out (K : zC σ p) {v : Value} : zC (q_w σ 218 0 v) p := K.fr rfl (fun c k q => q_w_ne (fun e _ => by unfold zCc at q; omega))
theorem zRv.thr (K : zRv σ p) {c : Int} : zRv (rTh σ c) p := K.fr (fun c k q => q_w_ne (fun e1 e2 => by unfold zRc at q; omega))
end ZRL
