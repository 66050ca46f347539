section
/-! readers of both sides, exact: widows, rich; printed with wip/gen/gen_dt.py -/
end
section
/-! THE WHOLE RELATION, of both objects to one row of ints: what both hold (zP), how the class (zC), how the reference holds it (zRv) -/
abbrev zLaw : Type := Option (Nat × List gLn4 × zSs)
/-- the house that is now, how many families and things, how many acts remembered, which (the oldest first), the law, the image, the fault -/
abbrev zPt : Type := (Nat → Int32) × (Nat × Nat) × (Nat × (Nat → Nat → Int32)) × zLaw × Option ((Nat → Int32) × zLaw) × Int32
noncomputable def zPw (p : zPt) : Prop := aI p.2.1.1 p.2.1.2 p.1 ∧ 0 ≤ (p.1 6).toInt ∧ p.2.2.1.1 ≤ 12 ∧ (∀ i, i < p.2.2.1.1 → aI p.2.1.1 p.2.1.2 (p.2.2.1.2 i) ∧ 0 ≤ (p.2.2.1.2 i 6).toInt ∧ p.2.2.1.2 i 3 = p.1 3) ∧ (match p.2.2.2.2.1 with
  | none => True
  | some (I, _) => (∃ nf nt, aI nf nt I) ∧ 0 ≤ (I 6).toInt)
noncomputable def wB (σ : zSg) (Lo : zLaw) : Prop := match Lo with
  | none => True
  | some (L, _) => L + 6 ≤ σ.2.2
noncomputable def rTx (σ : zSg) (W : Nat) (A : Nat → Int32) (Lo : zLaw) : Prop := match Lo with
  | none => A 3 = Int32.ofInt 0
  | some (_, ls, l) => A 3 = Int32.ofInt 1 ∧ rLT σ W ls l ∧ gW ls l
/-- the ring of remembered houses: the i-th of n, the next one to be written being nx -/
noncomputable def mJ (nx n i : Nat) : Nat := (nx + 12 - n + i) % 12
noncomputable def zCm (σ : zSg) (n : Nat) (Rs : Nat → Nat → Int32) (Lw : Value) : Prop := ∃ nx Ms, mM σ nx n Ms ∧ ∀ i, i < n → Ms (mJ nx n i) = Rs i ∧ σ.1 (49 + 13 * mJ nx n i) 5 = Lw
noncomputable def zCi (σ : zSg) (im : Option ((Nat → Int32) × zLaw)) : Prop := match im with
  | none => σ.1 0 6 = .int (Int32.ofInt 0) ∧ ∃ B, hH σ 34 B
  | some (I, Li) => σ.1 0 6 = .int (Int32.ofInt 1) ∧ hH σ 34 I ∧ hW σ 34 Li ∧ wB σ Li
noncomputable def zC (σ : zSg) (p : zPt) : Prop := xSk σ ∧ hH σ 8 p.1 ∧ (∃ D, hH σ 21 D) ∧ zCm σ p.2.2.1.1 p.2.2.1.2 (σ.1 8 5) ∧ hW σ 8 p.2.2.2.1 ∧ wB σ p.2.2.2.1 ∧ zCi σ p.2.2.2.2.1 ∧ σ.1 0 7 = .int p.2.2.2.2.2 ∧ 219 ≤ σ.2.2 ∧ σ.2.2 % 6 = 3
noncomputable def zRim (σ : zSg) (im : Option ((Nat → Int32) × zLaw)) : Prop := match im with
  | none => σ.1 205 6 = .int (Int32.ofInt 0)
  | some (I, Li) => σ.1 205 6 = .int (Int32.ofInt 1) ∧ (∀ k, k < 388 → σ.1 207 k = .int (I k)) ∧ rTx σ 207 I Li
noncomputable def zRv (σ : zSg) (p : zPt) : Prop := rSk σ ∧ σ.1 205 17 = .ref 213 ∧ rW σ p.1 ∧ rTx σ 206 p.1 p.2.2.2.1 ∧ σ.1 205 7 = .int (Int32.ofNat p.2.2.1.1) ∧ (∀ i, i < p.2.2.1.1 → ∀ k, k < 388 → σ.1 210 (388 * i + k) = .int (p.2.2.1.2 i k)) ∧ zRim σ p.2.2.2.2.1 ∧ σ.1 205 14 = .int p.2.2.2.2.2
/-- cells that the class's side hangs on -/
noncomputable def zCc (c : Nat) : Prop := c = 0 ∨ (8 ≤ c ∧ c < 205) ∨ (219 ≤ c ∧ c % 6 ≠ 5)
noncomputable def zRc (c k : Nat) : Prop := (c = 205 ∧ ((1 ≤ k ∧ k ≤ 7) ∨ k = 14 ∨ k = 17)) ∨ (c = 206 ∧ k < 1237) ∨ (c = 207 ∧ k < 1237) ∨ c = 210
section ZRL
variable {σ τ υ : zSg} {p : zPt} {A B : Nat → Int32} {Lo : zLaw} {b n W : Nat}
theorem hW.of (K : hW σ b Lo) (h2 : τ.2 = σ.2) (h5 : τ.1 b 5 = σ.1 b 5) (h : ∀ c k, 219 ≤ c → c % 6 ≠ 5 → τ.1 c k = σ.1 c k) : hW τ b Lo := by
  unfold hW at K ⊢
  match Lo, K with
  | none, K => exact h5.trans K
  | some (L, ls, l), ⟨k1, k2, k3, k4, k5, k6⟩ => exact ⟨h5.trans k1, k2, k3, k4.fr h2 (fun c k q1 q2 q3 => h c k (by omega) (by omega)), by rw [h2]; exact k5, k6⟩
theorem wB.of (K : wB σ Lo) (h2 : σ.2.2 ≤ τ.2.2) : wB τ Lo := by
  unfold wB at K ⊢
  match Lo, K with
  | none, _ => trivial
  | some (L, _), K => exact Nat.le_trans K h2
theorem rLT.ofW {ls : List gLn4} {l : zSs} (K : rLT σ W ls l) (g : gW ls l) (f : ∀ k, 388 ≤ k → k < 1237 → τ.1 W k = σ.1 W k) : rLT τ W ls l := by
  obtain ⟨a, b, c⟩ := K
  refine ⟨(f _ (by omega) (by omega)).trans a, fun i x hx => ?_, fun i x hx => ?_⟩
  · have hi := (List.getElem?_eq_some_iff.mp hx).1
    have g1 := g.1
    obtain ⟨b1, b2, b3, b4⟩ := b i x hx
    exact ⟨(f _ (by omega) (by omega)).trans b1, (f _ (by omega) (by omega)).trans b2, (f _ (by omega) (by omega)).trans b3, (f _ (by omega) (by omega)).trans b4⟩
  · have hi := (List.getElem?_eq_some_iff.mp hx).1
    have g1 := g.2.1
    obtain ⟨c1, c2⟩ := c i x hx
    exact ⟨(f _ (by omega) (by omega)).trans c1, (f _ (by omega) (by omega)).trans c2⟩
theorem rTx.of (K : rTx σ W A Lo) (f : ∀ k, 388 ≤ k → k < 1237 → τ.1 W k = σ.1 W k) (h3 : B 3 = A 3) : rTx τ W B Lo := by
  unfold rTx at K ⊢
  match Lo, K with
  | none, K => exact h3.trans K
  | some (L, ls, l), ⟨k1, k2, k3⟩ => exact ⟨h3.trans k1, k2.ofW k3 f, k3⟩
theorem hH.c (K : hH σ b A) (h2 : τ.2 = σ.2) (hb : 8 ≤ b) (hb2 : b ≤ 192) (h : ∀ c k, zCc c → τ.1 c k = σ.1 c k) : hH τ b A := K.fr h2 (fun c j q1 q2 => h c j (Or.inr (Or.inl ⟨by omega, by omega⟩)))
theorem zC.fr (K : zC σ p) (h2 : τ.2 = σ.2) (h : ∀ c k, zCc c → τ.1 c k = σ.1 c k) : zC τ p := by
  obtain ⟨k1, k2, ⟨D, k3⟩, ⟨nx, Ms, ⟨m1, m2, m3, m4, m5, m6, m7⟩, k4⟩, k5, k6, k7, k8, k9, k10⟩ := K
  have hl : ∀ c k, 219 ≤ c → c % 6 ≠ 5 → τ.1 c k = σ.1 c k := fun c k q1 q2 => h c k (Or.inr (Or.inr ⟨q1, q2⟩))
  have hi : ∀ c k, 8 ≤ c → c < 205 → τ.1 c k = σ.1 c k := fun c k q1 q2 => h c k (Or.inr (Or.inl ⟨q1, q2⟩))
  have h0 : ∀ k, τ.1 0 k = σ.1 0 k := fun k => h 0 k (Or.inl rfl)
  have hB : ∀ {Lo : zLaw}, wB σ Lo → wB τ Lo := fun w => w.of (by rw [h2]; exact Nat.le_refl _)
  refine ⟨k1.of (fun k _ => h0 k), k2.c h2 (by omega) (by omega) h, ⟨D, k3.c h2 (by omega) (by omega) h⟩, ⟨nx, Ms, ⟨(hi _ _ (by omega) (by omega)).trans m1, fun i hi9 => (hi _ _ (by omega) (by omega)).trans (m2 i hi9), (hi _ _ (by omega) (by omega)).trans m3, m4, (hi _ _ (by omega) (by omega)).trans m5, m6, fun i hi9 => (m7 i hi9).c h2 (by omega) (by omega) h⟩, fun i hi9 => ⟨(k4 i hi9).1, ?_⟩⟩, k5.of h2 (hi _ _ (by omega) (by omega)) hl, hB k6, ?_, (h0 7).trans k8, by rw [h2]; exact k9, by rw [h2]; exact k10⟩
  · have : mJ nx p.2.2.1.1 i < 12 := Nat.mod_lt _ (by omega)
    rw [hi _ _ (by omega) (by omega), hi 8 5 (by omega) (by omega)]
    exact (k4 i hi9).2
  · unfold zCi at k7 ⊢
    split at k7
    · obtain ⟨q1, B, q2⟩ := k7
      exact ⟨(h0 6).trans q1, B, q2.c h2 (by omega) (by omega) h⟩
    · obtain ⟨q1, q2, q3, q4⟩ := k7
      exact ⟨(h0 6).trans q1, q2.c h2 (by omega) (by omega) h, q3.of h2 (hi _ _ (by omega) (by omega)) hl, hB q4⟩
theorem zRv.fr (K : zRv σ p) (h : ∀ c k, zRc c k → τ.1 c k = σ.1 c k) : zRv τ p := by
  obtain ⟨⟨s1, s2, s3, s4, s5⟩, k2, ⟨k3, k3'⟩, k4, k5, k6, k7, k8⟩ := K
  have h5 : ∀ k, ((1 ≤ k ∧ k ≤ 7) ∨ k = 14 ∨ k = 17) → τ.1 205 k = σ.1 205 k := fun k q => h 205 k (Or.inl ⟨rfl, q⟩)
  have h6 : ∀ k, k < 1237 → τ.1 206 k = σ.1 206 k := fun k q => h 206 k (Or.inr (Or.inl ⟨rfl, q⟩))
  have h7 : ∀ k, k < 1237 → τ.1 207 k = σ.1 207 k := fun k q => h 207 k (Or.inr (Or.inr (Or.inl ⟨rfl, q⟩)))
  refine ⟨⟨(h5 _ (by omega)).trans s1, (h5 _ (by omega)).trans s2, (h5 _ (by omega)).trans s3, (h5 _ (by omega)).trans s4, (h5 _ (by omega)).trans s5⟩, (h5 _ (by omega)).trans k2, ⟨(h5 _ (by omega)).trans k3, fun k hk => (h6 k (by omega)).trans (k3' k hk)⟩, k4.of (fun k _ q => h6 k q) rfl, (h5 _ (by omega)).trans k5, fun i hi k hk => (h 210 _ (Or.inr (Or.inr (Or.inr rfl)))).trans (k6 i hi k hk), ?_, (h5 _ (by omega)).trans k8⟩
  unfold zRim at k7 ⊢
  split at k7
  · exact (h5 6 (by omega)).trans k7
  · obtain ⟨q1, q2, q3⟩ := k7
    exact ⟨(h5 6 (by omega)).trans q1, fun k hk => (h7 k (by omega)).trans (q2 k hk), q3.of (fun k _ q => h7 k q) rfl⟩
/-! what each method's words want -/
theorem zRv.J (K : zRv σ p) (w : zPw p) : rJ σ p.1 p.2.2.1.1 := ⟨K.1, K.2.2.1, K.2.2.2.2.1, w.2.2.1⟩
theorem rTx.toL (K : rTx σ 206 A Lo) : rLo σ A Lo := by
  unfold rTx at K
  unfold rLo
  exact K
theorem aI.own {nf nt : Nat} (I : aI nf nt A) : ∀ t, t < nt → A (64 + 3 * t) ≠ Int32.ofInt (-1) := fun t ht q => by
  have k6 := I.1.2.1
  obtain ⟨F, hF, e⟩ := I.2.2.1 t ht
  rw [e] at q
  have := congrArg Int32.toInt q
  rw [o32 (by omega), show (Int32.ofInt (-1)).toInt = -1 from rfl] at this
  omega
theorem zRv.Ev (K : zRv σ p) (w : zPw p) : rEv σ p.1 p.2.1.2 p.2.2.2.1 := ⟨K.2.2.1, K.2.1, w.1.1.2.2.1, w.1.1.2.2.2.1, w.1.own, K.2.2.2.1.toL⟩
theorem zRv.Dp (K : zRv σ p) (w : zPw p) : rDp σ p.1 p.2.1.1 p.2.1.2 p.2.2.2.1 := ⟨K.1, K.Ev w, w.1⟩
theorem zC.Dp (K : zC σ p) (w : zPw p) : xDp σ p.1 p.2.1.1 p.2.1.2 p.2.2.2.1 := ⟨K.1, K.2.1, K.2.2.1, w.1, K.2.2.2.2.1⟩
/-- behind an act -/
noncomputable def zAct (p : zPt) (B : Nat → Int32) : zPt := (B, p.2.1, (min (p.2.2.1.1 + 1) 12, fun i => if p.2.2.1.1 = 12 then (if i = 11 then p.1 else p.2.2.1.2 (i + 1)) else (if i = p.2.2.1.1 then p.1 else p.2.2.1.2 i)), p.2.2.2)
theorem zPw.act (w : zPw p) (I : aI p.2.1.1 p.2.1.2 B) (h6 : 0 ≤ (B 6).toInt) (h3 : B 3 = p.1 3) : zPw (zAct p B) := by
  obtain ⟨w1, w2, w3, w4, w5⟩ := w
  refine ⟨I, h6, Nat.min_le_right _ _, fun i hi => ?_, w5⟩
  have hi : i < min (p.2.2.1.1 + 1) 12 := hi
  show aI p.2.1.1 p.2.1.2 (if p.2.2.1.1 = 12 then (if i = 11 then p.1 else p.2.2.1.2 (i + 1)) else (if i = p.2.2.1.1 then p.1 else p.2.2.1.2 i)) ∧ 0 ≤ ((if p.2.2.1.1 = 12 then (if i = 11 then p.1 else p.2.2.1.2 (i + 1)) else (if i = p.2.2.1.1 then p.1 else p.2.2.1.2 i)) 6).toInt ∧ (if p.2.2.1.1 = 12 then (if i = 11 then p.1 else p.2.2.1.2 (i + 1)) else (if i = p.2.2.1.1 then p.1 else p.2.2.1.2 i)) 3 = B 3
  by_cases q : p.2.2.1.1 = 12
  · rw [if_pos q]
    by_cases q2 : i = 11
    · rw [if_pos q2]; exact ⟨w1, w2, h3.symm⟩
    · rw [if_neg q2, h3]; exact w4 _ (by omega)
  · rw [if_neg q]
    by_cases q2 : i = p.2.2.1.1
    · rw [if_pos q2]; exact ⟨w1, w2, h3.symm⟩
    · rw [if_neg q2, h3]; exact w4 _ (by omega)
theorem zC.act (K : zC σ p) (h6 : p.2.2.1.1 ≤ 12) (H : ∀ nx Ms, mM σ nx p.2.2.1.1 Ms → xE σ τ p.1 B nx p.2.2.1.1 Ms ∧ hW τ 8 p.2.2.2.1) : zC τ (zAct p B) := by
  obtain ⟨k1, k2, ⟨D, k3⟩, ⟨nx, Ms, m, k4⟩, k5, k6, k7, k8, k9, k10⟩ := K
  obtain ⟨R, W⟩ := H nx Ms m
  have hx := m.2.2.2.1
  obtain ⟨f, r2, r3, r4⟩ := R
  have h2 := f.1
  have fr : ∀ c k, ¬ (8 ≤ c ∧ c ≤ 20 ∧ ¬ (c = 8 ∧ k = 5)) → ¬ (c = 47 ∧ (k = 1 ∨ k = 2)) → ¬ (49 + 13 * nx ≤ c ∧ c ≤ 61 + 13 * nx) → ¬ (219 ≤ c ∧ c % 6 = 5) → τ.1 c k = σ.1 c k := f.2
  have hl : ∀ c k, 219 ≤ c → c % 6 ≠ 5 → τ.1 c k = σ.1 c k := fun c k q1 q2 => fr c k (by omega) (by omega) (by omega) (by omega)
  have h0 : ∀ k, τ.1 0 k = σ.1 0 k := fun k => fr 0 k (by omega) (by omega) (by omega) (by omega)
  have e85 : τ.1 8 5 = σ.1 8 5 := fr 8 5 (by omega) (by omega) (by omega) (by omega)
  have hB : ∀ {Lo : zLaw}, wB σ Lo → wB τ Lo := fun w => w.of (by rw [h2]; exact Nat.le_refl _)
  refine ⟨k1.of (fun k _ => h0 k), r2, ⟨D, k3.fr h2 (fun c j q1 q2 => fr c j (by omega) (by omega) (by omega) (by omega))⟩, ⟨(nx + 1) % 12, _, r3, fun i hi => ?_⟩, W, hB k6, ?_, (h0 7).trans k8, by rw [h2]; exact k9, by rw [h2]; exact k10⟩
  · have hi : i < min (p.2.2.1.1 + 1) 12 := hi
    have hj : mJ ((nx + 1) % 12) (min (p.2.2.1.1 + 1) 12) i = if p.2.2.1.1 = 12 then (if i = 11 then nx else mJ nx p.2.2.1.1 (i + 1)) else (if i = p.2.2.1.1 then nx else mJ nx p.2.2.1.1 i) := by
      unfold mJ
      by_cases q : p.2.2.1.1 = 12
      · rw [if_pos q]
        by_cases q2 : i = 11
        · rw [if_pos q2]; omega
        · rw [if_neg q2]; omega
      · rw [if_neg q]
        by_cases q2 : i = p.2.2.1.1
        · rw [if_pos q2]; omega
        · rw [if_neg q2]; omega
    have ne : ∀ j, j < p.2.2.1.1 → ¬ (p.2.2.1.1 = 12 ∧ j = 0) → mJ nx p.2.2.1.1 j ≠ nx := fun j hj hz q => by unfold mJ at q; omega
    have old : ∀ j, j < p.2.2.1.1 → ¬ (p.2.2.1.1 = 12 ∧ j = 0) → (if mJ nx p.2.2.1.1 j = nx then p.1 else Ms (mJ nx p.2.2.1.1 j)) = p.2.2.1.2 j ∧ τ.1 (49 + 13 * mJ nx p.2.2.1.1 j) 5 = τ.1 8 5 := fun j hj hz => by
      have n1 := ne j hj hz
      have l1 : mJ nx p.2.2.1.1 j < 12 := Nat.mod_lt _ (by omega)
      refine ⟨by rw [if_neg n1]; exact (k4 j hj).1, ?_⟩
      rw [fr _ _ (by omega) (by omega) (by omega) (by omega), e85]
      exact (k4 j hj).2
    show (if mJ ((nx + 1) % 12) (min (p.2.2.1.1 + 1) 12) i = nx then p.1 else Ms (mJ ((nx + 1) % 12) (min (p.2.2.1.1 + 1) 12) i)) = (if p.2.2.1.1 = 12 then (if i = 11 then p.1 else p.2.2.1.2 (i + 1)) else (if i = p.2.2.1.1 then p.1 else p.2.2.1.2 i)) ∧ τ.1 (49 + 13 * mJ ((nx + 1) % 12) (min (p.2.2.1.1 + 1) 12) i) 5 = τ.1 8 5
    rw [hj]
    by_cases q : p.2.2.1.1 = 12
    · rw [if_pos q, if_pos q]
      by_cases q2 : i = 11
      · rw [if_pos q2, if_pos q2, if_pos rfl]
        exact ⟨rfl, by rw [r4, e85]⟩
      · rw [if_neg q2, if_neg q2]
        exact old (i + 1) (by omega) (by omega)
    · rw [if_neg q, if_neg q]
      by_cases q2 : i = p.2.2.1.1
      · rw [if_pos q2, if_pos q2, if_pos rfl]
        exact ⟨rfl, by rw [r4, e85]⟩
      · rw [if_neg q2, if_neg q2]
        exact old i (by omega) (by omega)
  · show zCi τ p.2.2.2.2.1
    unfold zCi at k7 ⊢
    split at k7
    · obtain ⟨q1, B9, q2⟩ := k7
      exact ⟨(h0 6).trans q1, B9, q2.fr h2 (fun c j q1 q2 => fr c j (by omega) (by omega) (by omega) (by omega))⟩
    · obtain ⟨q1, q2, q3, q4⟩ := k7
      exact ⟨(h0 6).trans q1, q2.fr h2 (fun c j q1 q2 => fr c j (by omega) (by omega) (by omega) (by omega)), q3.of h2 (fr _ _ (by omega) (by omega) (by omega) (by omega)) hl, hB q4⟩
/-- what an act of the reference leaves: world, value, acts -/
theorem rY_act {N i k : Nat} (hN : N ≤ 12) (Rs : Nat → Nat → Int32) (w0 : rW σ A) (h : ∀ i, i < N → ∀ k, k < 388 → σ.1 210 (388 * i + k) = .int (Rs i k)) (hi : i < min (N + 1) 12) (hk : k < 388) : (rY σ N).1 210 (388 * i + k) = .int ((if N = 12 then (if i = 11 then A else Rs (i + 1)) else (if i = N then A else Rs i)) k) := by
  have wr : rW (r0 σ) A := w0.el (by omega)
  have rm : ∀ c q, c ≠ 205 → c ≠ 210 → (rRm (r0 σ) N).1 c q = σ.1 c q := fun c q h1 h2 => by
    unfold rRm
    by_cases q9 : N = 12
    · rw [if_pos q9, rCy_ne (fun e => h2 e.1)]; exact q_w_ne (fun e _ => h1 e)
    · rw [if_neg q9, q_w_ne (fun e _ => h1 e)]; exact q_w_ne (fun e _ => h1 e)
  unfold rY
  show (if 210 = 210 ∧ 388 * rRn N ≤ 388 * i + k ∧ 388 * i + k < 388 * rRn N + 388 then Value.int (q_i ((rRm (r0 σ) N).1 206 (0 + (388 * i + k - 388 * rRn N)))) else (rRm (r0 σ) N).1 210 (388 * i + k)) = _
  by_cases q : N = 12
  · rw [if_pos q]
    have en : rRn N = 11 := if_pos q
    rw [en]
    by_cases q2 : i = 11
    · rw [if_pos q2, if_pos ⟨rfl, by omega, by omega⟩, rm 206 _ (by omega) (by omega), show 0 + (388 * i + k - 388 * 11) = k by omega, w0.2 k hk]
      rfl
    · rw [if_neg q2, if_neg (by omega)]
      unfold rRm
      rw [if_pos q]
      show (if 210 = 210 ∧ 0 ≤ 388 * i + k ∧ 388 * i + k < 0 + 4268 then Value.int (q_i ((r0 σ).1 210 (388 + (388 * i + k - 0)))) else (r0 σ).1 210 (388 * i + k)) = _
      rw [if_pos ⟨rfl, by omega, by omega⟩]
      have e : (r0 σ).1 210 (388 + (388 * i + k - 0)) = σ.1 210 (388 * (i + 1) + k) := by
        rw [show 388 + (388 * i + k - 0) = 388 * (i + 1) + k by omega]
        exact q_w_ne (fun e _ => by omega)
      rw [e, h (i + 1) (by omega) k hk]
      rfl
  · rw [if_neg q]
    have en : rRn N = N := if_neg q
    rw [en]
    by_cases q2 : i = N
    · rw [if_pos q2, if_pos ⟨rfl, by omega, by omega⟩, rm 206 _ (by omega) (by omega), show 0 + (388 * i + k - 388 * N) = k by omega, w0.2 k hk]
      rfl
    · rw [if_neg q2, if_neg (by omega)]
      unfold rRm
      rw [if_neg q, q_w_ne (fun e _ => by omega)]
      have e : (r0 σ).1 210 (388 * i + k) = σ.1 210 (388 * i + k) := q_w_ne (fun e _ => by omega)
      rw [e]
      exact h i (by omega) k hk
theorem rY_7 {N : Nat} (hN : N ≤ 12) (h7 : σ.1 205 7 = .int (Int32.ofNat N)) : (rY σ N).1 205 7 = .int (Int32.ofNat (min (N + 1) 12)) := by
  unfold rY
  rw [rCy_ne (fun q => by omega)]
  unfold rRm
  by_cases q : N = 12
  · rw [if_pos q, rCy_ne (fun e => by omega)]
    have e : (r0 σ).1 205 7 = σ.1 205 7 := q_w_ne (fun _ e => by omega)
    rw [e, h7, q]
    rfl
  · rw [if_neg q, q_w_at, show min (N + 1) 12 = N + 1 by omega]
theorem zRv.act (K : zRv σ p) (w : zPw p) (R : rX σ τ B p.2.2.1.1) (h3 : B 3 = p.1 3) : zRv τ (zAct p B) := by
  obtain ⟨⟨s1, s2, s3, s4, s5⟩, k2, k3, k4, k5, k6, k7, k8⟩ := K
  obtain ⟨r1, r2, r3⟩ := R
  have w3 := w.2.2.1
  have fr : ∀ c k, ¬ (c = 206 ∧ k < 388) → c ≠ 213 → c ≠ 210 → ¬ (c = 205 ∧ (k = 0 ∨ k = 7)) → τ.1 c k = σ.1 c k := fun c k q1 q2 q3 q4 => (r2 c k q1 q2).trans (rY_ne q4 q3)
  refine ⟨⟨(fr _ _ (by omega) (by omega) (by omega) (by omega)).trans s1, (fr _ _ (by omega) (by omega) (by omega) (by omega)).trans s2, (fr _ _ (by omega) (by omega) (by omega) (by omega)).trans s3, (fr _ _ (by omega) (by omega) (by omega) (by omega)).trans s4, (fr _ _ (by omega) (by omega) (by omega) (by omega)).trans s5⟩, (fr _ _ (by omega) (by omega) (by omega) (by omega)).trans k2, r3, k4.of (fun k _ _ => fr _ _ (by omega) (by omega) (by omega) (by omega)) h3, (r2 _ _ (by omega) (by omega)).trans (rY_7 w3 k5), fun i hi k hk => (r2 _ _ (by omega) (by omega)).trans (rY_act w3 _ k3 k6 hi hk), ?_, (fr _ _ (by omega) (by omega) (by omega) (by omega)).trans k8⟩
  show zRim τ p.2.2.2.2.1
  unfold zRim at k7 ⊢
  split at k7
  · exact (fr _ _ (by omega) (by omega) (by omega) (by omega)).trans k7
  · obtain ⟨q1, q2, q3⟩ := k7
    exact ⟨(fr _ _ (by omega) (by omega) (by omega) (by omega)).trans q1, fun k hk => (fr _ _ (by omega) (by omega) (by omega) (by omega)).trans (q2 k hk), q3.of (fun k _ _ => fr _ _ (by omega) (by omega) (by omega) (by omega)) rfl⟩
theorem rAc.X {N : Nat} (R : rAc σ τ B N) : rX σ τ B N := ⟨R.1, fun c k q _ => R.2.1 c k q, R.2.2⟩
/-- the class's steps leave the reference alone, and the other way -/
theorem zRv.cls (K : zRv σ p) (h : ∀ c k, 205 ≤ c → c ≤ 217 → τ.1 c k = σ.1 c k) : zRv τ p := K.fr (fun c k q => h c k (by unfold zRc at q; omega) (by unfold zRc at q; omega))
theorem zC.ref (K : zC σ p) (h2 : τ.2 = σ.2) (h : ∀ c k, ¬ (205 ≤ c ∧ c ≤ 217) → τ.1 c k = σ.1 c k) : zC τ p := K.fr h2 (fun c k q => h c k (by unfold zCc at q; omega))
theorem zC.out (K : zC σ p) {v : Value} : zC (q_w σ 218 0 v) p := K.fr rfl (fun c k q => q_w_ne (fun e _ => by unfold zCc at q; omega))
theorem zRv.thr (K : zRv σ p) {c : Int} : zRv (rTh σ c) p := K.fr (fun c k q => q_w_ne (fun e1 e2 => by unfold zRc at q; omega))
end ZRL
end
section
/-! a call of the class and of the reference: the whole relation holds behind both, and they answer alike; printed with wip/gen/gen_dn.py -/
noncomputable def zLik (σ : zSg) (k b : Int32) : Prop := ∃ t : Int32, σ.1 205 0 = .int t ∧ t.toInt = k.toInt ∧ (k.toInt = 0 → σ.1 218 0 = .long b.toInt64)
noncomputable def zHld (σ : zSg) : Prop := ∃ p, zPw p ∧ zC σ p ∧ zRv σ p
theorem aPy_s {p s : Int32} (h0 : 0 ≤ s.toInt) (h : s.toInt ≤ p.toInt) : aPy p s = p - s := by
  have b := zb32 p
  have e : (p - s).toInt = p.toInt - s.toInt := zI_sub rfl rfl (by omega) (by omega)
  unfold aPy
  by_cases q : Int32.ofInt 0 < p - s
  · rw [if_pos q]
  · rw [if_neg q]
    rw [Int32.lt_iff_toInt_lt, e, show (Int32.ofInt 0).toInt = 0 from rfl] at q
    exact Int32.toInt_inj.mp (by rw [e, show (Int32.ofInt 0).toInt = 0 from rfl]; omega)
theorem i_of {a : Int32} {n : Nat} (h : 0 ≤ a.toInt ∧ a.toInt < (n : Int)) (hn : n ≤ 1000) : a = Int32.ofNat a.toInt.toNat ∧ a.toInt.toNat < n := ⟨Int32.toInt_inj.mp (by rw [o32 (by omega)]; omega), by omega⟩
section ZPA
variable {σ σ1 σ2 τ υ : zSg} {p : zPt} {A B : Nat → Int32} {nf nt : Nat} {k b v : Int32}
theorem aI.ho {x : Nat} {v : Int32} (K : aI nf nt A) (hx : x < 24) (hv : v = Int32.ofInt (-1) ∨ ∃ F, F < nf ∧ v = Int32.ofNat F) : aI nf nt (aU A (16 + x) v) := by
  obtain ⟨⟨a0, a1, a2, a3, a4⟩, a5, a6, a7, a8, a9, a10, a11⟩ := K
  have g : ∀ i, i ≠ 16 + x → aU A (16 + x) v i = A i := fun i hi => aU_ne hi
  refine ⟨⟨(g _ (by omega)).trans a0, a1, (g _ (by omega)).trans a2, a3, fun t h1 h2 => (g _ (by omega)).trans (a4 t h1 h2)⟩, fun h hh => ?_, fun t ht => ?_, by rw [g _ (by omega)]; exact a7, by rw [g _ (by omega)]; exact a8, by rw [g _ (by omega)]; exact a9, by rw [g _ (by omega)]; exact a10, by rw [g _ (by omega)]; exact a11⟩
  · by_cases q : h = x
    · rw [q, aU_at]; exact hv
    · rw [g _ (by omega)]; exact a5 h hh
  · rw [g _ (by omega)]; exact a6 t ht
theorem aI.pl {i : Nat} {v : Int32} (K : aI nf nt A) (h1 : ¬ (i < 3 ∨ i = 12 ∨ (16 ≤ i ∧ i < 40) ∨ (64 ≤ i ∧ i < 88))) (h2 : i ≠ 8) (h3 : i ≠ 4) (h4 : i ≠ 14) : aI nf nt (aU A i v) := K.of (fun k hk => aU_ne (by omega)) (fun t g1 g2 => (aU_ne (by omega)).trans (K.1.2.2.2.2 t g1 g2)) (by rw [aU_ne (by omega)]; exact K.2.2.2.2.1) (by rw [aU_ne (by omega)]; exact K.2.2.2.2.2.1) (by rw [aU_ne (by omega)]; exact K.2.2.2.2.2.2.1)
theorem aI.lf {x : Nat} {v : Int32} (K : aI nf nt A) (hx : x < nt) : aI nf nt (aU A (66 + 3 * x) v) := K.of (fun k hk => aU_ne (by omega)) (fun t g1 g2 => (aU_ne (by omega)).trans (K.1.2.2.2.2 t g1 g2)) (by rw [aU_ne (by omega)]; exact K.2.2.2.2.1) (by rw [aU_ne (by omega)]; exact K.2.2.2.2.2.1) (by rw [aU_ne (by omega)]; exact K.2.2.2.2.2.2.1)
theorem aI.q0 (K : aI nf nt A) : aI nf nt (aU A 8 (Int32.ofInt 0)) := K.of (fun k hk => aU_ne (by omega)) (fun t g1 g2 => (aU_ne (by omega)).trans (K.1.2.2.2.2 t g1 g2)) (by rw [aU_at]; decide) (by rw [aU_ne (by omega)]; exact K.2.2.2.2.2.1) (by rw [aU_ne (by omega)]; exact K.2.2.2.2.2.2.1)
theorem hHr_6 {Lo : zLaw} {calm : Bool} (K : aI nf nt A) : 0 ≤ ((hHr Lo nt calm A).1 6).toInt := by
  have hm : ∀ x : Int32, 0 ≤ (aMa (Int32.ofInt 0) x).toInt := fun x => by
    unfold aMa
    by_cases q : Int32.ofInt 0 < x
    · rw [if_pos q]; rw [Int32.lt_iff_toInt_lt, show (Int32.ofInt 0).toInt = 0 from rfl] at q; omega
    · rw [if_neg q]; decide
  have e1 : 0 ≤ (hMd Lo nt calm A 6).toInt := by
    unfold hMd
    cases calm
    · show 0 ≤ (hVi (hCd _) _ 6).toInt
      rw [hVi_k (by omega) (by omega) (by omega) (by omega) (by omega)]
      unfold hCd
      rw [aU_at]
      exact hm _
    · show 0 ≤ (hCd _ 6).toInt
      unfold hCd
      rw [aU_at]
      exact hm _
  obtain ⟨h1, h2, h3⟩ := K.in
  have k1 := K.1.2.1
  have e : hCk (hMd Lo nt calm A) (hN A) 6 = hMd Lo nt calm A 6 := hCk_k (by omega) (by omega)
  unfold hHr hEd
  by_cases q : A (16 + hN A) = Int32.ofInt (-1) ∨ hCk (hMd Lo nt calm A) (hN A) (16 + hN (hCk (hMd Lo nt calm A) (hN A))) = A (16 + hN A)
  · rw [if_pos q]
    show 0 ≤ (hCk (hMd Lo nt calm A) (hN A) 6).toInt
    rw [e]; exact e1
  · rw [if_neg q, hFi_k (by omega) (by omega) (by omega) nt (fun u hu => by omega), e]
    exact e1
theorem hHs_6 {Lo : zLaw} {calm : Bool} (K : aI nf nt A) (h6 : 0 ≤ (A 6).toInt) : ∀ i, 0 ≤ ((hHs Lo nt calm A i).1 6).toInt
  | 0 => h6
  | i + 1 => hHr_6 (K.hs i)
theorem zC.xa {nx : Nat} {Ms : Nat → Nat → Int32} (K : zC σ p) (w : zPw p) (m : mM σ nx p.2.2.1.1 Ms) : xA σ p.1 p.2.1.1 p.2.1.2 nx p.2.2.1.1 Ms := ⟨K.1, K.2.1, m, w.1⟩
theorem xR.W {nx n : Nat} {Ms : Nat → Nat → Int32} {Lo : zLaw} (R : xR σ τ A B nx n Ms) (hx : nx < 12) (K : hW σ 8 Lo) : hW τ 8 Lo := K.of R.1.1 (R.1.2 _ _ (by omega) (by omega) (by omega)) (fun c k q1 q2 => R.1.2 c k (by omega) (by omega) (by omega))
theorem rY_00 {N : Nat} : (rY σ N).1 205 0 = .int (Int32.ofInt 0) := by
  unfold rY
  rw [rCy_ne (fun q => by omega)]
  unfold rRm
  by_cases q : N = 12
  · rw [if_pos q, rCy_ne (fun e => by omega)]; exact q_w_at _ _ _ _
  · rw [if_neg q, q_w_ne (fun _ e => by omega)]; exact q_w_at _ _ _ _
theorem zq_err {c : Int} (w : zPw p) (K : zC σ p) (R : zRv σ p) (e1 : σ1 = σ) (e2 : σ2 = rTh σ1 c) (ek : k = Int32.ofInt c) (hc : c = 1 ∨ c = 2 ∨ c = 3) : zHld σ2 ∧ zLik σ2 k b := by
  subst e1 e2 ek
  refine ⟨⟨p, w, K.ref rfl (fun c k q => q_w_ne (fun e _ => by omega)), R.thr⟩, _, q_w_at _ _ _ _, rfl, fun h => ?_⟩
  rcases hc with rfl | rfl | rfl <;> exact absurd h (by decide)
theorem rX.fr {N : Nat} (X : rX σ1 σ2 B N) {c q : Nat} (h : ¬ (205 ≤ c ∧ c ≤ 217)) : σ2.1 c q = σ1.1 c q := (X.2.1 c q (by omega) (by omega)).trans (rY_ne (by omega) (by omega))
theorem rX.z0 {N : Nat} (X : rX σ1 σ2 B N) : σ2.1 205 0 = .int (Int32.ofInt 0) := (X.2.1 205 0 (by omega) (by omega)).trans rY_00
theorem rX.s {N : Nat} (X : rX σ1 σ2 B N) : σ2.2 = σ1.2 := X.1
theorem zq_core (w : zPw p) (K : zC σ1 (zAct p B)) (R : zRv σ1 p) (IB : aI p.2.1.1 p.2.1.2 B) (h6 : 0 ≤ (B 6).toInt) (h3 : B 3 = p.1 3) (X : rX σ1 σ2 B p.2.2.1.1) : zHld σ2 := ⟨_, w.act IB h6 h3, K.ref X.s (fun _ _ q => X.fr q), R.act w X h3⟩
theorem xE.lo {nx n : Nat} {Ms : Nat → Nat → Int32} (R : xE σ τ A B nx n Ms) (hx : nx < 12) {c q : Nat} (h1 : 205 ≤ c) (h2 : c ≤ 218) : τ.1 c q = σ.1 c q := R.1.2 c q (by omega) (by omega) (by omega) (by omega)
theorem zq_ok (w : zPw p) (K : zC σ p) (R : zRv σ p) (H : ∀ nx Ms, mM σ nx p.2.2.1.1 Ms → xE σ τ p.1 B nx p.2.2.1.1 Ms ∧ hW τ 8 p.2.2.2.1) (IB : aI p.2.1.1 p.2.1.2 B) (h6 : 0 ≤ (B 6).toInt) (h3 : B 3 = p.1 3) (e1 : σ1 = q_w τ 218 0 (.long v.toInt64)) (ek : k = Int32.ofInt 0) (X : zRv σ1 p → rX σ1 σ2 B p.2.2.1.1 ∧ b = v) : zHld σ2 ∧ zLik σ2 k b := by
  have K1 : zC σ1 (zAct p B) := by rw [e1]; exact (K.act w.2.2.1 H).out
  obtain ⟨nx, Ms, m, -⟩ := K.2.2.2.1
  have hx := m.2.2.2.1
  have R1 : zRv σ1 p := R.cls (fun c q h1 h2 => by
    rw [e1, q_w_ne (fun e _ => by omega)]
    exact (H nx Ms m).1.lo hx h1 (by omega))
  obtain ⟨RX, eb⟩ := X R1
  refine ⟨zq_core w K1 R1 IB h6 h3 RX, _, RX.z0, by rw [ek], fun _ => ?_⟩
  rw [RX.fr (by omega), e1, eb]
  exact q_w_at _ _ _ _
theorem zq_ok0 (w : zPw p) (K : zC σ p) (R : zRv σ p) (H : ∀ nx Ms, mM σ nx p.2.2.1.1 Ms → xE σ σ1 p.1 B nx p.2.2.1.1 Ms ∧ hW σ1 8 p.2.2.2.1) (IB : aI p.2.1.1 p.2.1.2 B) (h6 : 0 ≤ (B 6).toInt) (h3 : B 3 = p.1 3) (X : zRv σ1 p → rX σ1 σ2 B p.2.2.1.1) : zHld σ2 := by
  obtain ⟨nx, Ms, m, -⟩ := K.2.2.2.1
  have hx := m.2.2.2.1
  have R1 : zRv σ1 p := R.cls (fun c q h1 h2 => (H nx Ms m).1.lo hx h1 (by omega))
  exact zq_core w (K.act w.2.2.1 H) R1 IB h6 h3 (X R1)
end ZPA
theorem zq_12 {σ σ1 σ2 : zSg} {p : zPt} {a1 k b : Int32} (w : zPw p) (K : zC σ p) (R : zRv σ p) (G1 : p_324 0 a1 218 σ k σ1) (G2 : p_256 205 a1 σ1 b σ2) : zHld σ2 ∧ zLik σ2 k b := by
  obtain ⟨e, τ, g, alts⟩ := G1
  obtain ⟨nx, Ms, m, -⟩ := K.2.2.2.1
  have g0 := g rfl p.1 p.2.1.1 p.2.1.2 nx p.2.2.1.1 Ms (K.xa w m)
  have k6 := w.1.1.2.1
  have k8 := w.1.1.2.2.2.1
  by_cases hv : 0 ≤ a1.toInt ∧ a1.toInt < 24
  · obtain ⟨ex, lx⟩ := i_of (n := 24) hv (by omega)
    generalize a1.toInt.toNat = x at ex lx
    subst ex
    by_cases hh : p.1 (16 + x) = Int32.ofInt (-1)
    · obtain ⟨rfl, rfl⟩ := (g0.2 x rfl lx).1 hh
      rcases alts with ⟨v, q, r1, r2⟩ | ⟨q, r1, r2⟩ | ⟨q, r1, r2⟩
      · cases q
      · cases q
      · subst r2
        exact zq_err w K R rfl (((G2 rfl p.1 p.2.2.1.1 (R.J w)).2 x rfl lx).1 hh).2 r1 (by decide)
    · have z := (g0.2 x rfl lx).2 hh
      obtain ⟨rfl, -⟩ := z
      rcases alts with ⟨v, q, r1, r2⟩ | ⟨q, r1, r2⟩ | ⟨q, r1, r2⟩
      · subst r1
        cases q
        refine zq_ok (B := aU p.1 (16 + x) (Int32.ofInt (-1))) w K R (fun nx' Ms' m' => ?_) (w.1.ho lx (Or.inl rfl)) (by rw [aU_ne (by omega)]; exact w.2.1) (aU_ne (by omega)) r2 rfl (fun R1 => ?_)
        · have g1 := g rfl p.1 p.2.1.1 p.2.1.2 nx' p.2.2.1.1 Ms' (K.xa w m')
          have x := ((g1.2 x rfl lx).2 hh).2
          exact ⟨x.e, x.W m'.2.2.2.1 K.2.2.2.2.1⟩
        · have y := ((G2 rfl p.1 p.2.2.1.1 (R1.J w)).2 x rfl lx).2 hh
          exact ⟨y.2.X, y.1⟩
      · cases q
      · cases q
  · obtain ⟨rfl, rfl⟩ := g0.1 hv
    rcases alts with ⟨v, q, r1, r2⟩ | ⟨q, r1, r2⟩ | ⟨q, r1, r2⟩
    · cases q
    · subst r2
      exact zq_err w K R rfl ((G2 rfl p.1 p.2.2.1.1 (R.J w)).1 hv).2 r1 (by decide)
    · cases q
theorem zq_16 {σ σ1 σ2 : zSg} {p : zPt} {k b : Int32} (w : zPw p) (K : zC σ p) (R : zRv σ p) (G1 : p_134 0 σ k σ1) (G2 : p_261 205 σ1 b σ2) : zHld σ2 ∧ k = b := by
  obtain ⟨nx, Ms, m, -⟩ := K.2.2.2.1
  have hx := m.2.2.2.1
  have g0 := G1 rfl p.1 p.2.1.1 p.2.1.2 nx p.2.2.1.1 Ms (K.xa w m)
  have R1 : zRv σ1 p := R.cls (fun c q h1 h2 => g0.2.e.lo hx h1 (by omega))
  have y := G2 rfl p.1 p.2.2.1.1 (R1.J w)
  refine ⟨zq_ok0 (B := aU p.1 7 (Int32.ofInt 0)) w K R (fun nx' Ms' m' => ?_) (w.1.pl (by omega) (by omega) (by omega) (by omega)) (by rw [aU_ne (by omega)]; exact w.2.1) (aU_ne (by omega)) (fun _ => y.2.X), g0.1.trans y.1.symm⟩
  have x := (G1 rfl p.1 p.2.1.1 p.2.1.2 nx' p.2.2.1.1 Ms' (K.xa w m')).2
  exact ⟨x.e, x.W m'.2.2.2.1 K.2.2.2.2.1⟩
theorem zq_10 {σ σ1 σ2 : zSg} {p : zPt} {a1 a2 k b : Int32} (w : zPw p) (K : zC σ p) (R : zRv σ p) (G1 : p_322 0 a1 a2 218 σ k σ1) (G2 : p_253 205 a1 a2 σ1 b σ2) : zHld σ2 ∧ zLik σ2 k b := by
  obtain ⟨e, τ, g, alts⟩ := G1
  obtain ⟨nx, Ms, m, -⟩ := K.2.2.2.1
  have g0 := g rfl p.1 p.2.1.1 p.2.1.2 nx p.2.2.1.1 Ms (K.xa w m)
  have k6 := w.1.1.2.1
  have k8 := w.1.1.2.2.2.1
  by_cases hv : (0 ≤ a1.toInt ∧ a1.toInt < 24) ∧ (0 ≤ a2.toInt ∧ a2.toInt < (p.2.1.1 : Int))
  · obtain ⟨ex, lx⟩ := i_of (n := 24) hv.1 (by omega)
    obtain ⟨eF, lF⟩ := i_of hv.2 (by omega)
    generalize a1.toInt.toNat = x at ex lx
    generalize a2.toInt.toNat = F at eF lF
    subst ex eF
    by_cases hh : p.1 (16 + x) = Int32.ofInt (-1) ∧ (p.1 12).toInt ≤ (p.1 (40 + 4 * F)).toInt
    · have es := aPy_s w.1.2.2.2.1.1 hh.2
      have z := (g0.2 x F rfl lx rfl lF).2 hh
      obtain ⟨rfl, -⟩ := z
      rcases alts with ⟨v, q, r1, r2⟩ | ⟨q, r1, r2⟩ | ⟨q, r1, r2⟩
      · subst r1
        cases q
        refine zq_ok (B := aU (aU p.1 (40 + 4 * F) (aPy (p.1 (40 + 4 * F)) (p.1 12))) (16 + x) (Int32.ofNat F)) w K R (fun nx' Ms' m' => ?_) ((w.1.pl (by omega) (by omega) (by omega) (by omega)).ho lx (Or.inr ⟨F, lF, rfl⟩)) (by rw [aU_ne (by omega), aU_ne (by omega)]; exact w.2.1) ((aU_ne (by omega)).trans (aU_ne (by omega))) r2 rfl (fun R1 => ?_)
        · have g1 := g rfl p.1 p.2.1.1 p.2.1.2 nx' p.2.2.1.1 Ms' (K.xa w m')
          have x := ((g1.2 x F rfl lx rfl lF).2 hh).2
          exact ⟨x.e, x.W m'.2.2.2.1 K.2.2.2.2.1⟩
        · have y := ((G2 rfl p.1 p.2.2.1.1 p.2.1.1 (R1.J w) w.1.1.1 w.1.1.2.1).2 x F rfl lx rfl lF).2 hh
          rw [es]
          exact ⟨y.2.X, y.1⟩
      · cases q
      · cases q
    · obtain ⟨rfl, rfl⟩ := (g0.2 x F rfl lx rfl lF).1 hh
      rcases alts with ⟨v, q, r1, r2⟩ | ⟨q, r1, r2⟩ | ⟨q, r1, r2⟩
      · cases q
      · cases q
      · subst r2
        exact zq_err w K R rfl (((G2 rfl p.1 p.2.2.1.1 p.2.1.1 (R.J w) w.1.1.1 w.1.1.2.1).2 x F rfl lx rfl lF).1 hh).2 r1 (by decide)
  · obtain ⟨rfl, rfl⟩ := g0.1 hv
    rcases alts with ⟨v, q, r1, r2⟩ | ⟨q, r1, r2⟩ | ⟨q, r1, r2⟩
    · cases q
    · subst r2
      exact zq_err w K R rfl ((G2 rfl p.1 p.2.2.1.1 p.2.1.1 (R.J w) w.1.1.1 w.1.1.2.1).1 hv).2 r1 (by decide)
    · cases q
theorem zq_9 {σ σ1 σ2 : zSg} {p : zPt} {a1 a2 k b : Int32} (w : zPw p) (K : zC σ p) (R : zRv σ p) (G1 : p_321 0 a1 a2 218 σ k σ1) (G2 : p_252 205 a1 a2 σ1 b σ2) : zHld σ2 ∧ zLik σ2 k b := by
  obtain ⟨e, τ, g, alts⟩ := G1
  obtain ⟨nx, Ms, m, -⟩ := K.2.2.2.1
  have g0 := g rfl p.1 p.2.1.1 p.2.1.2 nx p.2.2.1.1 Ms (K.xa w m)
  have k6 := w.1.1.2.1
  have k8 := w.1.1.2.2.2.1
  by_cases hv : (0 ≤ a1.toInt ∧ a1.toInt < 24) ∧ (0 ≤ a2.toInt ∧ a2.toInt < (p.2.1.1 : Int))
  · obtain ⟨ex, lx⟩ := i_of (n := 24) hv.1 (by omega)
    obtain ⟨eF, lF⟩ := i_of hv.2 (by omega)
    generalize a1.toInt.toNat = x at ex lx
    generalize a2.toInt.toNat = F at eF lF
    subst ex eF
    by_cases hq : p.1 (16 + x) = Int32.ofNat F
    · obtain ⟨rfl, rfl⟩ := (g0.2 x F rfl lx rfl lF).1 hq
      rcases alts with ⟨v, q, r1, r2⟩ | ⟨q, r1, r2⟩ | ⟨q, r1, r2⟩ | ⟨q, r1, r2⟩
      · cases q
      · cases q
      · subst r2
        exact zq_err w K R rfl (((G2 rfl p.1 p.2.2.1.1 p.2.1.1 (R.J w) w.1.1.1 w.1.1.2.1).2 x F rfl lx rfl lF).1 hq).2 r1 (by decide)
      · cases q
    by_cases hh : p.1 (16 + x) ≠ Int32.ofInt (-1) ∧ (p.1 12).toInt ≤ (p.1 (40 + 4 * F)).toInt
    · have es := aPy_s w.1.2.2.2.1.1 hh.2
      obtain ⟨G, hG, eG⟩ : ∃ G, G < p.2.1.1 ∧ p.1 (16 + x) = Int32.ofNat G := (w.1.2.1 x lx).resolve_left hh.1
      have z := ((g0.2 x F rfl lx rfl lF).2 hq).2 hh G eG hG
      obtain ⟨rfl, -⟩ := z
      rcases alts with ⟨v, q, r1, r2⟩ | ⟨q, r1, r2⟩ | ⟨q, r1, r2⟩ | ⟨q, r1, r2⟩
      · subst r1
        cases q
        refine zq_ok (B := aU (aU (aU p.1 (40 + 4 * F) (aPy (p.1 (40 + 4 * F)) (p.1 12))) (40 + 4 * G) (aEn (p.1 (40 + 4 * G)) (p.1 12))) (16 + x) (Int32.ofNat F)) w K R (fun nx' Ms' m' => ?_) (((w.1.pl (by omega) (by omega) (by omega) (by omega)).pl (by omega) (by omega) (by omega) (by omega)).ho lx (Or.inr ⟨F, lF, rfl⟩)) (by rw [aU_ne (by omega), aU_ne (by omega), aU_ne (by omega)]; exact w.2.1) ((aU_ne (by omega)).trans ((aU_ne (by omega)).trans (aU_ne (by omega)))) r2 rfl (fun R1 => ?_)
        · have g1 := g rfl p.1 p.2.1.1 p.2.1.2 nx' p.2.2.1.1 Ms' (K.xa w m')
          have x := (((g1.2 x F rfl lx rfl lF).2 hq).2 hh G eG hG).2
          exact ⟨x.e, x.W m'.2.2.2.1 K.2.2.2.2.1⟩
        · have y := (((G2 rfl p.1 p.2.2.1.1 p.2.1.1 (R1.J w) w.1.1.1 w.1.1.2.1).2 x F rfl lx rfl lF).2 hq).2 hh G eG hG
          rw [es]
          exact ⟨y.2.X, y.1⟩
      · cases q
      · cases q
      · cases q
    · obtain ⟨rfl, rfl⟩ := ((g0.2 x F rfl lx rfl lF).2 hq).1 hh
      rcases alts with ⟨v, q, r1, r2⟩ | ⟨q, r1, r2⟩ | ⟨q, r1, r2⟩ | ⟨q, r1, r2⟩
      · cases q
      · cases q
      · cases q
      · subst r2
        exact zq_err w K R rfl ((((G2 rfl p.1 p.2.2.1.1 p.2.1.1 (R.J w) w.1.1.1 w.1.1.2.1).2 x F rfl lx rfl lF).2 hq).1 hh).2 r1 (by decide)
  · obtain ⟨rfl, rfl⟩ := g0.1 hv
    rcases alts with ⟨v, q, r1, r2⟩ | ⟨q, r1, r2⟩ | ⟨q, r1, r2⟩ | ⟨q, r1, r2⟩
    · cases q
    · subst r2
      exact zq_err w K R rfl ((G2 rfl p.1 p.2.2.1.1 p.2.1.1 (R.J w) w.1.1.1 w.1.1.2.1).1 hv).2 r1 (by decide)
    · cases q
    · cases q
theorem zq_11 {σ σ1 σ2 : zSg} {p : zPt} {a1 a2 k b : Int32} (w : zPw p) (K : zC σ p) (R : zRv σ p) (G1 : p_323 0 a1 a2 218 σ k σ1) (G2 : p_255 205 a1 a2 σ1 b σ2) : zHld σ2 ∧ zLik σ2 k b := by
  obtain ⟨e, τ, g, alts⟩ := G1
  obtain ⟨nx, Ms, m, -⟩ := K.2.2.2.1
  have g0 := g rfl p.1 p.2.1.1 p.2.1.2 nx p.2.2.1.1 Ms (K.xa w m)
  have k6 := w.1.1.2.1
  have k8 := w.1.1.2.2.2.1
  by_cases hv : (0 ≤ a1.toInt ∧ a1.toInt < 24) ∧ (0 ≤ a2.toInt ∧ a2.toInt < 24)
  · obtain ⟨ex, lx⟩ := i_of (n := 24) hv.1 (by omega)
    obtain ⟨ey, ly⟩ := i_of (n := 24) hv.2 (by omega)
    generalize a1.toInt.toNat = x at ex lx
    generalize a2.toInt.toNat = y at ey ly
    subst ex ey
    by_cases hq : x = y
    · obtain ⟨rfl, rfl⟩ := (g0.2 x y rfl lx rfl ly).1 hq
      rcases alts with ⟨v, q, r1, r2⟩ | ⟨q, r1, r2⟩ | ⟨q, r1, r2⟩ | ⟨q, r1, r2⟩
      · cases q
      · cases q
      · subst r2
        exact zq_err w K R rfl (((G2 rfl p.1 p.2.2.1.1 (R.J w)).2 x y rfl lx rfl ly).1 hq).2 r1 (by decide)
      · cases q
    by_cases hh : p.1 (16 + x) ≠ Int32.ofInt (-1) ∧ p.1 (16 + y) ≠ Int32.ofInt (-1) ∧ p.1 (16 + x) ≠ p.1 (16 + y)
    · have z := ((g0.2 x y rfl lx rfl ly).2 hq).2 hh
      obtain ⟨rfl, -⟩ := z
      rcases alts with ⟨v, q, r1, r2⟩ | ⟨q, r1, r2⟩ | ⟨q, r1, r2⟩ | ⟨q, r1, r2⟩
      · subst r1
        cases q
        refine zq_ok (B := aU (aU p.1 (16 + x) (p.1 (16 + y))) (16 + y) (p.1 (16 + x))) w K R (fun nx' Ms' m' => ?_) ((w.1.ho lx (w.1.2.1 y ly)).ho ly (w.1.2.1 x lx)) (by rw [aU_ne (by omega), aU_ne (by omega)]; exact w.2.1) ((aU_ne (by omega)).trans (aU_ne (by omega))) r2 rfl (fun R1 => ?_)
        · have g1 := g rfl p.1 p.2.1.1 p.2.1.2 nx' p.2.2.1.1 Ms' (K.xa w m')
          have x := (((g1.2 x y rfl lx rfl ly).2 hq).2 hh).2
          exact ⟨x.e, x.W m'.2.2.2.1 K.2.2.2.2.1⟩
        · have y9 := (((G2 rfl p.1 p.2.2.1.1 (R1.J w)).2 x y rfl lx rfl ly).2 hq).2 hh
          exact ⟨y9.2.X, y9.1⟩
      · cases q
      · cases q
      · cases q
    · obtain ⟨rfl, rfl⟩ := ((g0.2 x y rfl lx rfl ly).2 hq).1 hh
      rcases alts with ⟨v, q, r1, r2⟩ | ⟨q, r1, r2⟩ | ⟨q, r1, r2⟩ | ⟨q, r1, r2⟩
      · cases q
      · cases q
      · cases q
      · subst r2
        exact zq_err w K R rfl ((((G2 rfl p.1 p.2.2.1.1 (R.J w)).2 x y rfl lx rfl ly).2 hq).1 hh).2 r1 (by decide)
  · obtain ⟨rfl, rfl⟩ := g0.1 hv
    rcases alts with ⟨v, q, r1, r2⟩ | ⟨q, r1, r2⟩ | ⟨q, r1, r2⟩ | ⟨q, r1, r2⟩
    · cases q
    · subst r2
      exact zq_err w K R rfl ((G2 rfl p.1 p.2.2.1.1 (R.J w)).1 hv).2 r1 (by decide)
    · cases q
    · cases q
theorem zq_13 {σ σ1 σ2 : zSg} {p : zPt} {a1 k b : Int32} (w : zPw p) (K : zC σ p) (R : zRv σ p) (G1 : p_325 0 a1 218 σ k σ1) (G2 : p_258 205 a1 σ1 b σ2) : zHld σ2 ∧ zLik σ2 k b := by
  obtain ⟨e, τ, g, alts⟩ := G1
  obtain ⟨nx, Ms, m, -⟩ := K.2.2.2.1
  have g0 := g rfl p.1 p.2.1.1 p.2.1.2 nx p.2.2.1.1 Ms (K.xa w m)
  have k6 := w.1.1.2.1
  have k8 := w.1.1.2.2.2.1
  by_cases hv : 0 ≤ a1.toInt ∧ a1.toInt < (p.2.1.2 : Int)
  · obtain ⟨ex, lx⟩ := i_of hv (by omega)
    generalize a1.toInt.toNat = x at ex lx
    subst ex
    obtain ⟨i4, h4, e4⟩ := w.1.2.2.2.2.2.1
    have hL : p.1 (66 + 3 * x) = Int32.ofInt 0 ∨ p.1 (66 + 3 * x) = Int32.ofInt 1 := by
      obtain ⟨l, -, hl'⟩ := K.2.1.2.2.1
      have e9 := hl' x (by omega)
      by_cases hb : btb l (Int32.ofNat x) = true
      · rw [if_pos hb] at e9; exact Or.inr e9
      · rw [if_neg hb] at e9; exact Or.inl e9
    have eb : aBs (aU p.1 (66 + 3 * x) (Int32.ofInt 1)) (aLo (aU p.1 (66 + 3 * x) (Int32.ofInt 1)) p.2.1.2) p.2.1.2 = aBo (aU p.1 (66 + 3 * x) (Int32.ofInt 1)) (Int32.ofInt (-1)) p.2.1.2 := aBs_lo k8 (fun t ht => by rw [aU_ne (by omega)]; exact w.1.own t ht)
    by_cases hh : p.1 (64 + 3 * x) = p.1 (16 + i4) ∧ p.1 (66 + 3 * x) = Int32.ofInt 0
    · have z := (g0.2 x rfl lx i4 e4 h4).2 hh
      obtain ⟨rfl, -⟩ := z
      rcases alts with ⟨v, q, r1, r2⟩ | ⟨q, r1, r2⟩ | ⟨q, r1, r2⟩
      · subst r1
        cases q
        refine zq_ok (B := aU p.1 (66 + 3 * x) (Int32.ofInt 1)) w K R (fun nx' Ms' m' => ?_) (w.1.lf lx) (by rw [aU_ne (by omega)]; exact w.2.1) (aU_ne (by omega)) r2 rfl (fun R1 => ?_)
        · have g1 := g rfl p.1 p.2.1.1 p.2.1.2 nx' p.2.2.1.1 Ms' (K.xa w m')
          have x := ((g1.2 x rfl lx i4 e4 h4).2 hh).2
          exact ⟨x.e, x.W m'.2.2.2.1 K.2.2.2.2.1⟩
        · have y := ((G2 rfl p.1 p.2.2.1.1 p.2.1.2 (R1.J w) w.1.1.2.2.1 w.1.1.2.2.2.1).2 x rfl lx i4 e4 h4).2 (⟨hh.1, fun q => by rw [hh.2] at q; exact absurd q (by decide)⟩)
          exact ⟨y.1.X, y.2.trans eb⟩
      · cases q
      · cases q
    · obtain ⟨rfl, rfl⟩ := (g0.2 x rfl lx i4 e4 h4).1 hh
      rcases alts with ⟨v, q, r1, r2⟩ | ⟨q, r1, r2⟩ | ⟨q, r1, r2⟩
      · cases q
      · cases q
      · subst r2
        exact zq_err w K R rfl (((G2 rfl p.1 p.2.2.1.1 p.2.1.2 (R.J w) w.1.1.2.2.1 w.1.1.2.2.2.1).2 x rfl lx i4 e4 h4).1 (fun q => hh ⟨q.1, hL.resolve_right q.2⟩)).2 r1 (by decide)
  · obtain ⟨rfl, rfl⟩ := g0.1 hv
    rcases alts with ⟨v, q, r1, r2⟩ | ⟨q, r1, r2⟩ | ⟨q, r1, r2⟩
    · cases q
    · subst r2
      exact zq_err w K R rfl ((G2 rfl p.1 p.2.2.1.1 p.2.1.2 (R.J w) w.1.1.2.2.1 w.1.1.2.2.2.1).1 hv).2 r1 (by decide)
    · cases q
theorem zq_14 {σ σ1 σ2 : zSg} {p : zPt} {a1 k b : Int32} (w : zPw p) (K : zC σ p) (R : zRv σ p) (G1 : p_326 0 a1 218 σ k σ1) (G2 : p_259 205 a1 σ1 b σ2) : zHld σ2 ∧ zLik σ2 k b := by
  obtain ⟨e, τ, g, alts⟩ := G1
  obtain ⟨nx, Ms, m, -⟩ := K.2.2.2.1
  have g0 := g rfl p.1 p.2.1.1 p.2.1.2 nx p.2.2.1.1 Ms (K.xa w m)
  have k6 := w.1.1.2.1
  have k8 := w.1.1.2.2.2.1
  by_cases hv : 0 ≤ a1.toInt ∧ a1.toInt < (p.2.1.2 : Int)
  · obtain ⟨ex, lx⟩ := i_of hv (by omega)
    generalize a1.toInt.toNat = x at ex lx
    subst ex
    obtain ⟨i4, h4, e4⟩ := w.1.2.2.2.2.2.1
    have hL : p.1 (66 + 3 * x) = Int32.ofInt 0 ∨ p.1 (66 + 3 * x) = Int32.ofInt 1 := by
      obtain ⟨l, -, hl'⟩ := K.2.1.2.2.1
      have e9 := hl' x (by omega)
      by_cases hb : btb l (Int32.ofNat x) = true
      · rw [if_pos hb] at e9; exact Or.inr e9
      · rw [if_neg hb] at e9; exact Or.inl e9
    have eb : aBs (aU p.1 (66 + 3 * x) (Int32.ofInt 0)) (aLo (aU p.1 (66 + 3 * x) (Int32.ofInt 0)) p.2.1.2) p.2.1.2 = aBo (aU p.1 (66 + 3 * x) (Int32.ofInt 0)) (Int32.ofInt (-1)) p.2.1.2 := aBs_lo k8 (fun t ht => by rw [aU_ne (by omega)]; exact w.1.own t ht)
    by_cases hh : p.1 (64 + 3 * x) = p.1 (16 + i4) ∧ p.1 (66 + 3 * x) = Int32.ofInt 1
    · have z := (g0.2 x rfl lx i4 e4 h4).2 hh
      obtain ⟨rfl, -⟩ := z
      rcases alts with ⟨v, q, r1, r2⟩ | ⟨q, r1, r2⟩ | ⟨q, r1, r2⟩
      · subst r1
        cases q
        refine zq_ok (B := aU p.1 (66 + 3 * x) (Int32.ofInt 0)) w K R (fun nx' Ms' m' => ?_) (w.1.lf lx) (by rw [aU_ne (by omega)]; exact w.2.1) (aU_ne (by omega)) r2 rfl (fun R1 => ?_)
        · have g1 := g rfl p.1 p.2.1.1 p.2.1.2 nx' p.2.2.1.1 Ms' (K.xa w m')
          have x := ((g1.2 x rfl lx i4 e4 h4).2 hh).2
          exact ⟨x.e, x.W m'.2.2.2.1 K.2.2.2.2.1⟩
        · have y := ((G2 rfl p.1 p.2.2.1.1 p.2.1.2 (R1.J w) w.1.1.2.2.1 w.1.1.2.2.2.1).2 x rfl lx i4 e4 h4).2 (hh)
          exact ⟨y.1.X, y.2.trans eb⟩
      · cases q
      · cases q
    · obtain ⟨rfl, rfl⟩ := (g0.2 x rfl lx i4 e4 h4).1 hh
      rcases alts with ⟨v, q, r1, r2⟩ | ⟨q, r1, r2⟩ | ⟨q, r1, r2⟩
      · cases q
      · cases q
      · subst r2
        exact zq_err w K R rfl (((G2 rfl p.1 p.2.2.1.1 p.2.1.2 (R.J w) w.1.1.2.2.1 w.1.1.2.2.2.1).2 x rfl lx i4 e4 h4).1 hh).2 r1 (by decide)
  · obtain ⟨rfl, rfl⟩ := g0.1 hv
    rcases alts with ⟨v, q, r1, r2⟩ | ⟨q, r1, r2⟩ | ⟨q, r1, r2⟩
    · cases q
    · subst r2
      exact zq_err w K R rfl ((G2 rfl p.1 p.2.2.1.1 p.2.1.2 (R.J w) w.1.1.2.2.1 w.1.1.2.2.2.1).1 hv).2 r1 (by decide)
    · cases q
theorem zq_15 {σ σ1 σ2 : zSg} {p : zPt} {k b : Int32} (w : zPw p) (K : zC σ p) (R : zRv σ p) (G1 : p_327 0 218 σ k σ1) (G2 : p_260 205 σ1 b σ2) : zHld σ2 ∧ zLik σ2 k b := by
  obtain ⟨e, τ, g, alts⟩ := G1
  obtain ⟨nx, Ms, m, -⟩ := K.2.2.2.1
  have g0 := g rfl p.1 p.2.1.1 p.2.1.2 nx p.2.2.1.1 Ms (K.xa w m)
  have k6 := w.1.1.2.1
  have k8 := w.1.1.2.2.2.1
  obtain ⟨i4, h4, e4⟩ := w.1.2.2.2.2.2.1
  have h8 := w.1.2.2.2.2.1
  rcases w.1.2.1 i4 h4 with hq | ⟨F, hF, eF⟩
  · obtain ⟨rfl, rfl⟩ := (g0 i4 e4 h4).1 hq
    rcases alts with ⟨v, q, r1, r2⟩ | ⟨q, r1, r2⟩
    · cases q
    · subst r2
      exact zq_err w K R rfl ((G2 rfl p.1 p.2.2.1.1 (R.J w) i4 e4 h4).1 hq).2 r1 (by decide)
  by_cases hh : 0 < (p.1 8).toInt ∧ (p.1 8).toInt ≤ (p.1 (40 + 4 * F)).toInt
  · have es := aPy_s h8.1 hh.2
    have z := ((g0 i4 e4 h4).2 F eF hF).2 hh
    obtain ⟨rfl, -⟩ := z
    rcases alts with ⟨v, q, r1, r2⟩ | ⟨q, r1, r2⟩
    · subst r1
      cases q
      refine zq_ok (B := aU (aU p.1 (40 + 4 * F) (aPy (p.1 (40 + 4 * F)) (p.1 8))) 8 (Int32.ofInt 0)) w K R (fun nx' Ms' m' => ?_) ((w.1.pl (by omega) (by omega) (by omega) (by omega)).q0) (by rw [aU_ne (by omega), aU_ne (by omega)]; exact w.2.1) ((aU_ne (by omega)).trans (aU_ne (by omega))) r2 rfl (fun R1 => ?_)
      · have g1 := g rfl p.1 p.2.1.1 p.2.1.2 nx' p.2.2.1.1 Ms' (K.xa w m')
        have x := (((g1 i4 e4 h4).2 F eF hF).2 hh).2
        exact ⟨x.e, x.W m'.2.2.2.1 K.2.2.2.2.1⟩
      · have y := ((G2 rfl p.1 p.2.2.1.1 (R1.J w) i4 e4 h4).2 F eF (by omega)).2 ⟨by omega, hh.2⟩
        rw [es]
        exact ⟨y.2.X, y.1⟩
    · cases q
  · obtain ⟨rfl, rfl⟩ := ((g0 i4 e4 h4).2 F eF hF).1 hh
    rcases alts with ⟨v, q, r1, r2⟩ | ⟨q, r1, r2⟩
    · cases q
    · subst r2
      exact zq_err w K R rfl (((G2 rfl p.1 p.2.2.1.1 (R.J w) i4 e4 h4).2 F eF (by omega)).1 (fun q => hh ⟨by omega, q.2⟩)).2 r1 (by decide)
theorem zq_17 {σ σ1 σ2 : zSg} {p : zPt} {a1 k b : Int32} (w : zPw p) (K : zC σ p) (R : zRv σ p) (G1 : p_328 0 a1 218 σ k σ1) (G2 : p_269 205 a1 σ1 b σ2) : zHld σ2 ∧ zLik σ2 k b := by
  obtain ⟨e, τ, g, alts⟩ := G1
  obtain ⟨nx, Ms, m, -⟩ := K.2.2.2.1
  have g0 := g rfl p.1 p.2.1.1 p.2.1.2 nx p.2.2.1.1 Ms p.2.2.2.1 (K.xa w m) K.2.2.2.2.1
  have k6 := w.1.1.2.1
  have k8 := w.1.1.2.2.2.1
  by_cases hv : 1 ≤ a1.toInt ∧ a1.toInt ≤ 100
  · obtain ⟨ex, lx⟩ := i_of (a := a1) (n := 101) (by omega) (by omega)
    have hx1 : 1 ≤ a1.toInt.toNat := by omega
    generalize a1.toInt.toNat = x at ex lx hx1
    subst ex
    have z := g0.2 x rfl hx1 (by omega)
    obtain ⟨rfl, -⟩ := z
    rcases alts with ⟨v, q, r1, r2⟩ | ⟨q, r1, r2⟩
    · subst r1
      cases q
      refine zq_ok (B := (hHs p.2.2.2.1 p.2.1.2 false p.1 x).1) w K R (fun nx' Ms' m' => ?_) (w.1.hs x) (hHs_6 w.1 w.2.1 x) (hHs_k w.1 (by omega) x) r2 rfl (fun R1 => ?_)
      · have g1 := g rfl p.1 p.2.1.1 p.2.1.2 nx' p.2.2.1.1 Ms' p.2.2.2.1 (K.xa w m') K.2.2.2.2.1
        have x9 := (g1.2 x rfl hx1 (by omega)).2
        exact x9
      · have y := (G2 rfl p.1 p.2.2.1.1 p.2.1.1 p.2.1.2 p.2.2.2.1 (R1.J w) w.1 (R1.Ev w)).2 x rfl hx1 (by omega)
        exact ⟨y.2, y.1⟩
    · cases q
  · obtain ⟨rfl, rfl⟩ := g0.1 hv
    rcases alts with ⟨v, q, r1, r2⟩ | ⟨q, r1, r2⟩
    · cases q
    · subst r2
      exact zq_err w K R rfl ((G2 rfl p.1 p.2.2.1.1 p.2.1.1 p.2.1.2 p.2.2.2.1 (R.J w) w.1 (R.Ev w)).1 hv).2 r1 (by decide)
section ZPB
variable {σ σ1 σ2 τ υ : zSg} {p : zPt} {A B : Nat → Int32} {k b v : Int32}
theorem hH.f11 {b : Nat} (K : hH σ b A) (h2 : τ.2 = σ.2) (g : ∀ c j, b ≤ c → c ≤ b + 11 → τ.1 c j = σ.1 c j) : hH τ b A := by
  obtain ⟨h1, h2', ⟨l, h3, h3'⟩, ⟨nx, h4, h4', h4''⟩, h5, h6, h7⟩ := K
  refine ⟨fun c j d hk => ?_, fun k c j hp => ?_, ⟨l, ?_, h3'⟩, ⟨nx, h4, ?_, fun i j hi hj => ?_⟩, ?_, by rw [h2]; exact h6, by rw [h2]; exact h7⟩
  · rw [g c j (by unfold hKr at hk; omega) (by unfold hKr at hk; omega)]; exact h1 c j d hk
  · rw [g c j (by unfold hPr at hp; omega) (by unfold hPr at hp; omega)]; exact h2' k c j hp
  · rw [g _ _ (by omega) (by omega)]; exact h3
  · rw [g _ _ (by omega) (by omega)]; exact h4'
  · rw [g _ _ (by omega) (by omega)]; exact h4'' i j hi hj
  · unfold hWe
    rw [g b 5 (by omega) (by omega)]
    exact h5
/-- the draft, and what the house that is now asks its law about, may change -/
theorem zC.fr2 (K : zC σ p) (h2 : τ.2 = σ.2) (h : ∀ c k, zCc c → c ≠ 20 → ¬ (21 ≤ c ∧ c ≤ 33) → τ.1 c k = σ.1 c k) (hD : ∃ D, hH τ 21 D) : zC τ p := by
  obtain ⟨k1, k2, -, ⟨nx, Ms, ⟨m1, m2, m3, m4, m5, m6, m7⟩, k4⟩, k5, k6, k7, k8, k9, k10⟩ := K
  have hl : ∀ c k, 219 ≤ c → c % 6 ≠ 5 → τ.1 c k = σ.1 c k := fun c k q1 q2 => h c k (Or.inr (Or.inr ⟨q1, q2⟩)) (by omega) (by omega)
  have hi : ∀ c k, 34 ≤ c → c < 205 → τ.1 c k = σ.1 c k := fun c k q1 q2 => h c k (Or.inr (Or.inl ⟨by omega, q2⟩)) (by omega) (by omega)
  have h8 : ∀ c k, 8 ≤ c → c ≤ 19 → τ.1 c k = σ.1 c k := fun c k q1 q2 => h c k (Or.inr (Or.inl ⟨q1, by omega⟩)) (by omega) (by omega)
  have h0 : ∀ k, τ.1 0 k = σ.1 0 k := fun k => h 0 k (Or.inl rfl) (by omega) (by omega)
  have hB : ∀ {Lo : zLaw}, wB σ Lo → wB τ Lo := fun w => w.of (by rw [h2]; exact Nat.le_refl _)
  refine ⟨k1.of (fun k _ => h0 k), k2.f11 h2 (fun c j q1 q2 => h8 c j (by omega) (by omega)), hD, ⟨nx, Ms, ⟨(hi _ _ (by omega) (by omega)).trans m1, fun i hi9 => (hi _ _ (by omega) (by omega)).trans (m2 i hi9), (hi _ _ (by omega) (by omega)).trans m3, m4, (hi _ _ (by omega) (by omega)).trans m5, m6, fun i hi9 => (m7 i hi9).fr h2 (fun c j q1 q2 => hi c j (by omega) (by omega))⟩, fun i hi9 => ⟨(k4 i hi9).1, ?_⟩⟩, k5.of h2 (h8 _ _ (by omega) (by omega)) hl, hB k6, ?_, (h0 7).trans k8, by rw [h2]; exact k9, by rw [h2]; exact k10⟩
  · have : mJ nx p.2.2.1.1 i < 12 := Nat.mod_lt _ (by omega)
    rw [hi _ _ (by omega) (by omega), h8 8 5 (by omega) (by omega)]
    exact (k4 i hi9).2
  · unfold zCi at k7 ⊢
    split at k7
    · obtain ⟨q1, B, q2⟩ := k7
      exact ⟨(h0 6).trans q1, B, q2.fr h2 (fun c j q1 q2 => hi c j (by omega) (by omega))⟩
    · obtain ⟨q1, q2, q3, q4⟩ := k7
      exact ⟨(h0 6).trans q1, q2.fr h2 (fun c j q1 q2 => hi c j (by omega) (by omega)), q3.of h2 (hi _ _ (by omega) (by omega)) hl, hB q4⟩
theorem zC.lk (K : zC σ p) (f : eFr 8 σ τ) : zC τ p := by
  obtain ⟨D, hD⟩ := K.2.2.1
  exact K.fr2 f.1 (fun c k q1 q2 q3 => f.2 c k q2 (by unfold zCc at q1; omega)) ⟨D, hD.fr f.1 (fun c j q1 q2 => f.2 c j (by omega) (by omega))⟩
theorem zC.dr (K : zC σ p) {Lo : zLaw} (D : xDa σ τ A B Lo) : zC τ p := K.fr2 D.1.1 (fun c k q1 q2 q3 => D.1.2 c k q3 (by unfold zCc at q1; omega)) ⟨B, D.2.1⟩
theorem zRv.dr (K : zRv σ p) {Lo : zLaw} (D : xDa σ τ A B Lo) {v : Value} : zRv (q_w τ 218 0 v) p := K.cls (fun c k h1 h2 => by
  rw [q_w_ne (fun e _ => by omega)]
  exact D.1.2 c k (by omega) (by omega))
theorem zq_see (w : zPw p) (K : zC σ1 p) (R : zRv σ1 p) (X : rKF σ1 σ2) : zHld σ2 := ⟨p, w, K.fr X.1 (fun c k q => X.2.1 c k (by unfold zCc at q; omega) (by unfold zCc at q; omega) (by unfold zCc at q; omega)), R.fr (fun c k q => X.2.1 c k (by unfold zRc at q; omega) (by unfold zRc at q; omega) (by unfold zRc at q; omega))⟩
theorem zq_sa (w : zPw p) (K : zC σ p) (R : zRv σ p) {Lo : zLaw} (D : xDa σ τ A B Lo) (e1 : σ1 = q_w τ 218 0 (.long v.toInt64)) (ek : k = Int32.ofInt 0) (X : zRv σ1 p → rKF σ1 σ2 ∧ b = v) : zHld σ2 ∧ zLik σ2 k b := by
  have R1 : zRv σ1 p := by rw [e1]; exact R.dr D
  obtain ⟨X, eb⟩ := X R1
  refine ⟨zq_see w (by rw [e1]; exact (K.dr D).out) R1 X, _, X.2.2, by rw [ek], fun _ => ?_⟩
  rw [X.2.1 _ _ (by omega) (by omega) (by omega), e1, eb]
  exact q_w_at _ _ _ _
end ZPB
theorem zq_33 {σ σ1 σ2 : zSg} {p : zPt} {a1 a2 k b : Int32} (w : zPw p) (K : zC σ p) (R : zRv σ p) (G1 : p_335 0 a1 a2 218 σ k σ1) (G2 : p_270 205 a1 a2 σ1 b σ2) : zHld σ2 ∧ zLik σ2 k b := by
  obtain ⟨e, τ, g, alts⟩ := G1
  have g0 := g rfl p.1 p.2.1.1 p.2.1.2 p.2.2.2.1 (K.Dp w)
  have k6 := w.1.1.2.1
  by_cases hv : 0 ≤ a1.toInt ∧ a1.toInt ≤ 200
  · by_cases hw : 0 ≤ a2.toInt ∧ a2.toInt ≤ 2
    · obtain ⟨ex, lx⟩ := i_of (a := a1) (n := 201) (by omega) (by omega)
      generalize a1.toInt.toNat = x at ex lx
      subst ex
      obtain ⟨D, d0, d1, d2⟩ := g0.2.2 x rfl (by omega) hw
      have hc : a2.toInt = 0 ∨ a2.toInt = 1 ∨ a2.toInt = 2 := by omega
      rcases hc with hc | hc | hc
      · obtain rfl := d0 hc
        rcases alts with ⟨v, q, r1, r2⟩ | ⟨q, r1, r2⟩ | ⟨q, r1, r2⟩
        · subst r1
          cases q
          refine zq_sa w K R D r2 rfl (fun R1 => ?_)
          exact (fun y => ⟨y.1, y.2.1 hc⟩) ((G2 rfl p.1 p.2.1.1 p.2.1.2 p.2.2.2.1 (R1.Dp w)).2.2 x rfl (by omega) hw)
        · cases q
        · cases q
      · obtain rfl := d1 hc
        rcases alts with ⟨v, q, r1, r2⟩ | ⟨q, r1, r2⟩ | ⟨q, r1, r2⟩
        · subst r1
          cases q
          refine zq_sa w K R D r2 rfl (fun R1 => ?_)
          exact (fun y => ⟨y.1, y.2.2.1 hc⟩) ((G2 rfl p.1 p.2.1.1 p.2.1.2 p.2.2.2.1 (R1.Dp w)).2.2 x rfl (by omega) hw)
        · cases q
        · cases q
      · obtain rfl := d2 hc
        rcases alts with ⟨v, q, r1, r2⟩ | ⟨q, r1, r2⟩ | ⟨q, r1, r2⟩
        · subst r1
          cases q
          refine zq_sa w K R D r2 rfl (fun R1 => ?_)
          exact (fun y => ⟨y.1, y.2.2.2 hc⟩) ((G2 rfl p.1 p.2.1.1 p.2.1.2 p.2.2.2.1 (R1.Dp w)).2.2 x rfl (by omega) hw)
        · cases q
        · cases q
    · obtain ⟨rfl, rfl⟩ := g0.2.1 hv hw
      rcases alts with ⟨v, q, r1, r2⟩ | ⟨q, r1, r2⟩ | ⟨q, r1, r2⟩
      · cases q
      · cases q
      · subst r2
        exact zq_err w K R rfl ((G2 rfl p.1 p.2.1.1 p.2.1.2 p.2.2.2.1 (R.Dp w)).2.1 hv hw).2 r1 (by decide)
  · obtain ⟨rfl, rfl⟩ := g0.1 hv
    rcases alts with ⟨v, q, r1, r2⟩ | ⟨q, r1, r2⟩ | ⟨q, r1, r2⟩
    · cases q
    · subst r2
      exact zq_err w K R rfl ((G2 rfl p.1 p.2.1.1 p.2.1.2 p.2.2.2.1 (R.Dp w)).1 hv).2 r1 (by decide)
    · cases q
theorem zq_34 {σ σ1 σ2 : zSg} {p : zPt} {a1 k b : Int32} (w : zPw p) (K : zC σ p) (R : zRv σ p) (G1 : p_336 0 a1 218 σ k σ1) (G2 : p_271 205 a1 σ1 b σ2) : zHld σ2 ∧ zLik σ2 k b := by
  obtain ⟨e, τ, g, alts⟩ := G1
  have g0 := g rfl p.1 p.2.1.1 p.2.1.2 p.2.2.2.1 (K.Dp w)
  have k6 := w.1.1.2.1
  by_cases hv : 1 ≤ a1.toInt ∧ a1.toInt ≤ 99
  · obtain ⟨⟨B, D⟩, r, rfl, hr⟩ := g0.2 hv
    rcases alts with ⟨v, q, r1, r2⟩ | ⟨q, r1, r2⟩
    · subst r1
      cases q
      refine zq_sa w K R D r2 rfl (fun R1 => ?_)
      exact (fun y => ⟨y.1, y.2.det hr⟩) ((G2 rfl p.1 p.2.1.1 p.2.1.2 p.2.2.2.1 (R1.Dp w)).2 hv)
    · cases q
  · obtain ⟨rfl, rfl⟩ := g0.1 hv
    rcases alts with ⟨v, q, r1, r2⟩ | ⟨q, r1, r2⟩
    · cases q
    · subst r2
      exact zq_err w K R rfl ((G2 rfl p.1 p.2.1.1 p.2.1.2 p.2.2.2.1 (R.Dp w)).1 hv).2 r1 (by decide)
theorem zq_35 {σ σ1 σ2 : zSg} {p : zPt} {a1 k b : Int32} (w : zPw p) (K : zC σ p) (R : zRv σ p) (G1 : p_337 0 a1 218 σ k σ1) (G2 : p_272 205 a1 σ1 b σ2) : zHld σ2 ∧ zLik σ2 k b := by
  obtain ⟨e, τ, g, alts⟩ := G1
  have g0 := g rfl p.1 p.2.1.1 p.2.1.2 p.2.2.2.1 (K.Dp w)
  have k6 := w.1.1.2.1
  by_cases hv : 1 ≤ a1.toInt ∧ a1.toInt ≤ 200
  · obtain ⟨ex, lx⟩ := i_of (a := a1) (n := 201) (by omega) (by omega)
    have hx1 : 1 ≤ a1.toInt.toNat := by omega
    generalize a1.toInt.toNat = x at ex lx hx1
    subst ex
    obtain ⟨⟨B, D⟩, rfl⟩ := g0.2 x rfl hx1 (by omega)
    rcases alts with ⟨v, q, r1, r2⟩ | ⟨q, r1, r2⟩
    · subst r1
      cases q
      refine zq_sa w K R D r2 rfl (fun R1 => ?_)
      exact (G2 rfl p.1 p.2.1.1 p.2.1.2 p.2.2.2.1 (R1.Dp w) w.2.1).2 x rfl hx1 (by omega)
    · cases q
  · obtain ⟨rfl, rfl⟩ := g0.1 hv
    rcases alts with ⟨v, q, r1, r2⟩ | ⟨q, r1, r2⟩
    · cases q
    · subst r2
      exact zq_err w K R rfl ((G2 rfl p.1 p.2.1.1 p.2.1.2 p.2.2.2.1 (R.Dp w) w.2.1).1 hv).2 r1 (by decide)
theorem zq_36 {σ σ1 σ2 : zSg} {p : zPt} {a1 k b : Int32} (w : zPw p) (K : zC σ p) (R : zRv σ p) (G1 : p_338 0 a1 218 σ k σ1) (G2 : p_273 205 a1 σ1 b σ2) : zHld σ2 ∧ zLik σ2 k b := by
  obtain ⟨e, τ, g, alts⟩ := G1
  have g0 := g rfl p.1 p.2.1.1 p.2.1.2 p.2.2.2.1 (K.Dp w)
  have k6 := w.1.1.2.1
  by_cases hv : 0 ≤ a1.toInt ∧ a1.toInt < (p.2.1.1 : Int)
  · obtain ⟨ex, lx⟩ := i_of hv (by omega)
    obtain ⟨⟨B, D⟩, r, rfl, hr⟩ := g0.2 _ ex lx
    have hP : ∀ (f : Nat → Nat → Int32) (i : Nat), (∀ F, a1 = Int32.ofNat F → F < p.2.1.1 → f i (40 + 4 * F) = Int32.ofInt 0) ↔ f i (40 + 4 * a1.toInt.toNat) = Int32.ofInt 0 := fun f i => ⟨fun h => h _ ex lx, fun h F eF hF => by
      have : F = a1.toInt.toNat := by rw [eF, o32 (by omega)]; omega
      rw [this]; exact h⟩
    rcases alts with ⟨v, q, r1, r2⟩ | ⟨q, r1, r2⟩
    · subst r1
      cases q
      refine zq_sa w K R D r2 rfl (fun R1 => ?_)
      exact (fun y => ⟨y.1, aFst.det (P := fun i => (hHs p.2.2.2.1 p.2.1.2 true p.1 i).1 (40 + 4 * a1.toInt.toNat) = Int32.ofInt 0) (by have := y.2; rw [show (fun i => (∀ F, a1 = Int32.ofNat F → F < p.2.1.1 → (hHs p.2.2.2.1 p.2.1.2 true p.1 i).1 (40 + 4 * F) = Int32.ofInt 0)) = (fun i => (hHs p.2.2.2.1 p.2.1.2 true p.1 i).1 (40 + 4 * a1.toInt.toNat) = Int32.ofInt 0) from funext fun i => propext (hP (fun i => (hHs p.2.2.2.1 p.2.1.2 true p.1 i).1) i)] at this; exact this) hr⟩) ((G2 rfl p.1 p.2.1.1 p.2.1.2 p.2.2.2.1 (R1.Dp w)).2 hv)
    · cases q
  · obtain ⟨rfl, rfl⟩ := g0.1 hv
    rcases alts with ⟨v, q, r1, r2⟩ | ⟨q, r1, r2⟩
    · cases q
    · subst r2
      exact zq_err w K R rfl ((G2 rfl p.1 p.2.1.1 p.2.1.2 p.2.2.2.1 (R.Dp w)).1 hv).2 r1 (by decide)
theorem zq_39 {σ σ1 σ2 : zSg} {p : zPt} {a1 a2 k b : Int32} (w : zPw p) (K : zC σ p) (R : zRv σ p) (G1 : p_339 0 a1 a2 218 σ k σ1) (G2 : p_304 205 a1 a2 σ1 b σ2) : zHld σ2 := by
  obtain ⟨e, τ, g, alts⟩ := G1
  have g0 := g rfl p.1 p.2.1.1 p.2.1.2 p.2.2.2.1 (K.Dp w)
  have k6 := w.1.1.2.1
  have see : zC σ1 p → zRv σ1 p → zHld σ2 := fun K1 R1 => by
    by_cases hv : 0 ≤ a1.toInt ∧ a1.toInt ≤ 200
    · exact zq_see w K1 R1 ((G2 rfl p.1 p.2.1.1 p.2.1.2 p.2.2.2.1 (R1.Dp w)).2 hv)
    · obtain ⟨-, rfl⟩ := (G2 rfl p.1 p.2.1.1 p.2.1.2 p.2.2.2.1 (R1.Dp w)).1 hv
      exact ⟨p, w, K1.ref rfl (fun c k q => q_w_ne (fun e _ => by omega)), R1.thr⟩
  have both : zC τ p ∧ ∀ c k, 205 ≤ c → c ≤ 217 → τ.1 c k = σ.1 c k := by
    by_cases hv : 0 ≤ a1.toInt ∧ a1.toInt ≤ 200
    · rcases (g0.2 hv).2 with rfl | ⟨B, D⟩
      · exact ⟨K, fun _ _ _ _ => rfl⟩
      · exact ⟨K.dr D, fun c k h1 h2 => D.1.2 c k (by omega) (by omega)⟩
    · obtain ⟨-, rfl⟩ := g0.1 hv
      exact ⟨K, fun _ _ _ _ => rfl⟩
  rcases alts with ⟨v, q, r1, r2⟩ | ⟨q, r1, r2⟩
  · subst r2
    exact see both.1.out (R.cls (fun c k h1 h2 => by rw [q_w_ne (fun e _ => by omega)]; exact both.2 c k h1 h2))
  · subst r2
    exact see both.1 (R.cls both.2)
theorem zq_40 {σ σ1 σ2 : zSg} {p : zPt} {a1 a2 b : Int32} (w : zPw p) (K : zC σ p) (R : zRv σ p) (G2 : p_305 205 a1 a2 σ b σ2) : zHld σ2 := by
  by_cases hv : 0 ≤ a1.toInt ∧ a1.toInt ≤ 200
  · exact zq_see w K R ((G2 rfl p.1 p.2.1.1 p.2.1.2 p.2.2.2.1 (R.Dp w)).2 hv)
  · obtain ⟨-, rfl⟩ := (G2 rfl p.1 p.2.1.1 p.2.1.2 p.2.2.2.1 (R.Dp w)).1 hv
    exact ⟨p, w, K.ref rfl (fun c k q => q_w_ne (fun e _ => by omega)), R.thr⟩
theorem zc_7 {σ σ1 σ2 : zSg} {p : zPt} {a1 a2 a3 k : Int32} (w : zPw p) (K : zC σ p) (R : zRv σ p) (G1 : p_319 0 a1 a2 a3 218 σ k σ1) : zC σ1 p ∧ zRv σ1 p := by
  obtain ⟨e, τ, g, alts⟩ := G1
  have g0 := g rfl p.1 p.2.1.1 p.2.1.2 p.2.2.2.1 K.1 K.2.1 w.1 K.2.2.2.2.1
  have k6 := w.1.1.2.1
  have k8 := w.1.1.2.2.2.1
  have f : eFr 8 σ τ := by
    by_cases hv : (0 ≤ a1.toInt ∧ a1.toInt < (p.2.1.1 : Int)) ∧ (0 ≤ a2.toInt ∧ a2.toInt < 24)
    case neg =>
      obtain ⟨-, rfl⟩ := g0.1 hv
      exact eFr.rf
    obtain ⟨ex, lx⟩ := i_of hv.1 (by omega)
    obtain ⟨ey, ly⟩ := i_of (n := 24) hv.2 (by omega)
    by_cases hw : 0 ≤ a3.toInt ∧ a3.toInt ≤ 1
    · exact ((g0.2 _ _ ex lx ey ly).2 hw).1
    · obtain ⟨-, rfl⟩ := (g0.2 _ _ ex lx ey ly).1 hw
      exact eFr.rf
  have both : zC τ p ∧ ∀ c k, 205 ≤ c → c ≤ 217 → τ.1 c k = σ.1 c k := ⟨K.lk f, fun c k h1 h2 => f.2 c k (by omega) (by omega)⟩
  rcases alts with ⟨v, q, r1, r2⟩ | ⟨q, r1, r2⟩ | ⟨q, r1, r2⟩
  · subst r2
    exact ⟨both.1.out, R.cls (fun c k h1 h2 => by rw [q_w_ne (fun e _ => by omega)]; exact both.2 c k h1 h2)⟩
  · subst r2
    exact ⟨both.1, R.cls both.2⟩
  · subst r2
    exact ⟨both.1, R.cls both.2⟩
theorem zc_8 {σ σ1 σ2 : zSg} {p : zPt} {a1 a2 k : Int32} (w : zPw p) (K : zC σ p) (R : zRv σ p) (G1 : p_320 0 a1 a2 218 σ k σ1) : zC σ1 p ∧ zRv σ1 p := by
  obtain ⟨e, τ, g, alts⟩ := G1
  have g0 := g rfl p.1 p.2.1.1 p.2.1.2 p.2.2.2.1 K.1 K.2.1 w.1 K.2.2.2.2.1
  have k6 := w.1.1.2.1
  have k8 := w.1.1.2.2.2.1
  have f : eFr 8 σ τ := by
    by_cases hv : 0 ≤ a1.toInt ∧ a1.toInt < (p.2.1.2 : Int)
    case neg =>
      obtain ⟨-, rfl⟩ := g0.1 hv
      exact eFr.rf
    obtain ⟨ex, lx⟩ := i_of hv (by omega)
    by_cases hw : 0 ≤ a2.toInt ∧ a2.toInt ≤ 3
    · exact ((g0.2 _ ex lx).2 hw).1
    · obtain ⟨-, rfl⟩ := (g0.2 _ ex lx).1 hw
      exact eFr.rf
  have both : zC τ p ∧ ∀ c k, 205 ≤ c → c ≤ 217 → τ.1 c k = σ.1 c k := ⟨K.lk f, fun c k h1 h2 => f.2 c k (by omega) (by omega)⟩
  rcases alts with ⟨v, q, r1, r2⟩ | ⟨q, r1, r2⟩ | ⟨q, r1, r2⟩
  · subst r2
    exact ⟨both.1.out, R.cls (fun c k h1 h2 => by rw [q_w_ne (fun e _ => by omega)]; exact both.2 c k h1 h2)⟩
  · subst r2
    exact ⟨both.1, R.cls both.2⟩
  · subst r2
    exact ⟨both.1, R.cls both.2⟩
end
section
/-! seed, undo, image, back, deed, law: pairs of calls keep the whole relation -/
section ZPC
variable {σ σ1 σ2 τ υ : zSg} {p : zPt} {A B : Nat → Int32} {k b v : Int32}
theorem zCi.of {im : Option ((Nat → Int32) × zLaw)} (K : zCi σ im) (h2 : τ.2 = σ.2) (h6 : τ.1 0 6 = σ.1 0 6) (h : ∀ c k, 34 ≤ c → c ≤ 46 → τ.1 c k = σ.1 c k) (hl : ∀ c k, 219 ≤ c → c % 6 ≠ 5 → τ.1 c k = σ.1 c k) : zCi τ im := by
  unfold zCi at K ⊢
  split at K
  · obtain ⟨q1, B, q2⟩ := K
    exact ⟨h6.trans q1, B, q2.fr h2 (fun c j q1 q2 => h c j (by omega) (by omega))⟩
  · obtain ⟨q1, q2, q3, q4⟩ := K
    exact ⟨h6.trans q1, q2.fr h2 (fun c j q1 q2 => h c j (by omega) (by omega)), q3.of h2 (h _ _ (by omega) (by omega)) hl, q4.of (by rw [h2]; exact Nat.le_refl _)⟩
theorem zCi.e34 {im : Option ((Nat → Int32) × zLaw)} (K : zCi σ im) : ∃ B, hH σ 34 B := by
  unfold zCi at K
  split at K
  · exact K.2
  · exact ⟨_, K.2.1⟩
theorem zRim.of {im : Option ((Nat → Int32) × zLaw)} (K : zRim σ im) (h6 : τ.1 205 6 = σ.1 205 6) (h7 : ∀ k, k < 1237 → τ.1 207 k = σ.1 207 k) : zRim τ im := by
  unfold zRim at K ⊢
  split at K
  · exact h6.trans K
  · obtain ⟨q1, q2, q3⟩ := K
    exact ⟨h6.trans q1, fun k hk => (h7 k (by omega)).trans (q2 k hk), q3.of (fun k _ q => h7 k q) rfl⟩
theorem hW.e5 {Lo : zLaw} {x y : Nat} (K : hW σ x Lo) (h2 : τ.2 = σ.2) (h5 : τ.1 y 5 = σ.1 x 5) (hl : ∀ c k, 219 ≤ c → c % 6 ≠ 5 → τ.1 c k = σ.1 c k) : hW τ y Lo := by
  unfold hW at K ⊢
  match Lo, K with
  | none, K => exact h5.trans K
  | some (L, ls, l), ⟨k1, k2, k3, k4, k5, k6⟩ => exact ⟨h5.trans k1, k2, k3, k4.fr h2 (fun c k q1 q2 q3 => hl c k (by omega) (by omega)), by rw [h2]; exact k5, k6⟩
/-- the house that is now changes, no more -/
theorem zq_43 {a1 : Int32} (w : zPw p) (K : zC σ p) (R : zRv σ p) (G1 : p_161 0 a1 σ k σ1) (G2 : p_309 205 a1 σ1 b σ2) : zHld σ2 ∧ k = b := by
  obtain ⟨ek, e1⟩ := G1 rfl K.1
  have w15 : q_i (σ.1 8 17) = p.1 15 := K.2.1.p hp_15
  subst e1
  have R1 : zRv (q_w σ 8 17 (.int a1)) p := R.cls (fun c k h1 h2 => q_w_ne (fun e _ => by omega))
  obtain ⟨eb, e2⟩ := G2 rfl p.1 R1.2.2.1
  subst e2
  refine ⟨⟨(aU p.1 15 a1, p.2), ?_, ?_, ?_⟩, by rw [ek, eb, w15]⟩
  · obtain ⟨w1, w2, w3, w4, w5⟩ := w
    exact ⟨w1.pl (by omega) (by omega) (by omega) (by omega), by show 0 ≤ (aU p.1 15 a1 6).toInt; rw [aU_ne (by omega)]; exact w2, w3, fun i hi => ⟨(w4 i hi).1, (w4 i hi).2.1, (w4 i hi).2.2.trans (aU_ne (v := a1) (i := 3) (k := 15) (by omega)).symm⟩, w5⟩
  · have K1 : zC (q_w σ 8 17 (.int a1)) (aU p.1 15 a1, p.2) := by
      obtain ⟨k1, k2, ⟨D, k3⟩, ⟨nx, Ms, m, k4⟩, k5, k6, k7, k8, k9, k10⟩ := K
      have f : ∀ c q, ¬ (c = 8 ∧ q = 17) → (q_w σ 8 17 (.int a1)).1 c q = σ.1 c q := fun c q h => q_w_ne (fun e1 e2 => h ⟨e1, e2⟩)
      refine ⟨k1.of (fun k _ => f _ _ (by omega)), k2.ww hp_15, ⟨D, k3.fr rfl (fun c j q1 q2 => f c j (by omega))⟩, ⟨nx, Ms, m.fe rfl (fun c j q1 q2 => f c j (by omega)), fun i hi => ⟨(k4 i hi).1, ?_⟩⟩, k5.of rfl (f _ _ (by omega)) (fun c k q1 q2 => f c k (by omega)), k6, k7.of rfl (f _ _ (by omega)) (fun c k q1 q2 => f c k (by omega)) (fun c k q1 q2 => f c k (by omega)), (f _ _ (by omega)).trans k8, k9, k10⟩
      rw [f _ _ (by omega), f _ _ (by omega)]
      exact (k4 i hi).2
    refine K1.ref rfl (fun c k q => ?_)
    rw [q_w_ne (fun e _ => by omega)]
    exact q_w_ne (fun e _ => by omega)
  · have f : ∀ c q, ¬ (c = 206 ∧ q = 15) → ¬ (c = 205 ∧ q = 0) → (q_w (r0 (q_w σ 8 17 (.int a1))) 206 15 (.int a1)).1 c q = (q_w σ 8 17 (.int a1)).1 c q := fun c q h1 h2 => (q_w_ne (fun e1 e2 => h1 ⟨e1, e2⟩)).trans (q_w_ne (fun e1 e2 => h2 ⟨e1, e2⟩))
    obtain ⟨⟨s1, s2, s3, s4, s5⟩, r2, r3, r4, r5, r6, r7, r8⟩ := R1
    have w0 : rW (r0 (q_w σ 8 17 (.int a1))) p.1 := r3.el (by omega)
    refine ⟨⟨(f _ _ (by omega) (by omega)).trans s1, (f _ _ (by omega) (by omega)).trans s2, (f _ _ (by omega) (by omega)).trans s3, (f _ _ (by omega) (by omega)).trans s4, (f _ _ (by omega) (by omega)).trans s5⟩, (f _ _ (by omega) (by omega)).trans r2, w0.ww, r4.of (fun k _ _ => f _ _ (by omega) (by omega)) (aU_ne (v := a1) (i := 3) (k := 15) (by omega)), (f _ _ (by omega) (by omega)).trans r5, fun i hi k hk => (f _ _ (by omega) (by omega)).trans (r6 i hi k hk), r7.of (f _ _ (by omega) (by omega)) (fun k _ => f _ _ (by omega) (by omega)), (f _ _ (by omega) (by omega)).trans r8⟩
theorem zq_44 (w : zPw p) (K : zC σ p) (R : zRv σ p) (G1 : p_162 0 σ k σ1) (G2 : p_183 205 σ1 b σ2) : zHld σ2 ∧ k = b := by
  obtain ⟨k1, k2, ⟨D, k3⟩, ⟨nx, Ms, m, k4⟩, k5, k6, k7, k8, k9, k10⟩ := id K
  have g := G1 rfl k1 rfl rfl nx p.2.2.1.1 Ms p.1 m k2
  have w3 := w.2.2.1
  by_cases hn : p.2.2.1.1 = 0
  · obtain ⟨rfl, rfl⟩ := g.1 hn
    obtain ⟨rfl, rfl⟩ := (G2 rfl R.1 p.2.2.1.1 R.2.2.2.2.1 w3).1 hn
    exact ⟨⟨p, w, K.ref rfl (fun c k q => q_w_ne (fun e _ => by omega)), R.thr (c := 0)⟩, rfl⟩
  · obtain ⟨rfl, f, m', h', e85⟩ := g.2 hn
    have R1 : zRv σ1 p := R.cls (fun c k h1 h2 => f.2 c k (by omega) (by omega))
    obtain ⟨rfl, e2⟩ := (G2 rfl R1.1 p.2.2.1.1 R1.2.2.2.2.1 w3).2 hn
    have hx := m.2.2.2.1
    have j1 : mJ nx p.2.2.1.1 (p.2.2.1.1 - 1) = (nx + 11) % 12 := by unfold mJ; omega
    have l1 := (k4 (p.2.2.1.1 - 1) (by omega))
    rw [j1] at l1
    have e85' : σ1.1 8 5 = σ.1 8 5 := e85.trans l1.2
    have hl : ∀ c k, 219 ≤ c → c % 6 ≠ 5 → σ1.1 c k = σ.1 c k := fun c k q1 q2 => f.2 c k (by omega) (by omega)
    have wl := w.2.2.2.1 (p.2.2.1.1 - 1) (by omega)
    refine ⟨⟨(p.2.2.1.2 (p.2.2.1.1 - 1), p.2.1, (p.2.2.1.1 - 1, p.2.2.1.2), p.2.2.2), ⟨wl.1, wl.2.1, (by show p.2.2.1.1 - 1 ≤ 12; omega), fun i hi => ?_, w.2.2.2.2⟩, ?_, ?_⟩, rfl⟩
    · have hi : i < p.2.2.1.1 - 1 := hi
      have q := w.2.2.2.1 i (by omega)
      exact ⟨q.1, q.2.1, q.2.2.trans wl.2.2.symm⟩
    · have K1 : zC σ1 (p.2.2.1.2 (p.2.2.1.1 - 1), p.2.1, (p.2.2.1.1 - 1, p.2.2.1.2), p.2.2.2) := by
        refine ⟨k1.of (fun k _ => f.2 _ _ (by omega) (by omega)), (by rw [← l1.1]; exact h'), ⟨D, k3.fr f.1 (fun c j q1 q2 => f.2 c j (by omega) (by omega))⟩, ⟨(nx + 11) % 12, Ms, m', fun i hi => ?_⟩, k5.of f.1 e85' hl, k6.of (by rw [f.1]; exact Nat.le_refl _), k7.of f.1 (f.2 _ _ (by omega) (by omega)) (fun c k q1 q2 => f.2 c k (by omega) (by omega)) hl, (f.2 _ _ (by omega) (by omega)).trans k8, by rw [f.1]; exact k9, by rw [f.1]; exact k10⟩
        have hi : i < p.2.2.1.1 - 1 := hi
        have ej : mJ ((nx + 11) % 12) (p.2.2.1.1 - 1) i = mJ nx p.2.2.1.1 i := by unfold mJ; omega
        show Ms (mJ ((nx + 11) % 12) (p.2.2.1.1 - 1) i) = p.2.2.1.2 i ∧ σ1.1 (49 + 13 * mJ ((nx + 11) % 12) (p.2.2.1.1 - 1) i) 5 = σ1.1 8 5
        rw [ej, e85', f.2 _ _ (by omega) (by omega)]
        exact k4 i (by omega)
      refine K1.ref (by rw [e2]; rfl) (fun c k q => ?_)
      rw [e2, rCy_ne (fun e => by omega), q_w_ne (fun e _ => by omega)]
      exact q_w_ne (fun e _ => by omega)
    · obtain ⟨⟨s1, s2, s3, s4, s5⟩, r2, r3, r4, r5, r6, r7, r8⟩ := R1
      have fr : ∀ c q, ¬ (c = 206 ∧ q < 388) → ¬ (c = 205 ∧ (q = 0 ∨ q = 7)) → σ2.1 c q = σ1.1 c q := fun c q h1 h2 => by
        rw [e2, rCy_ne (fun e => h1 ⟨e.1, by omega⟩), q_w_ne (fun e1 e2 => h2 ⟨e1, Or.inr e2⟩)]
        exact q_w_ne (fun e1 e2 => h2 ⟨e1, Or.inl e2⟩)
      refine ⟨⟨(fr _ _ (by omega) (by omega)).trans s1, (fr _ _ (by omega) (by omega)).trans s2, (fr _ _ (by omega) (by omega)).trans s3, (fr _ _ (by omega) (by omega)).trans s4, (fr _ _ (by omega) (by omega)).trans s5⟩, (fr _ _ (by omega) (by omega)).trans r2, ⟨(fr _ _ (by omega) (by omega)).trans s1, fun k hk => ?_⟩, r4.of (fun k _ _ => fr _ _ (by omega) (by omega)) wl.2.2, ?_, fun i hi k hk => ?_, r7.of (fr _ _ (by omega) (by omega)) (fun k _ => fr _ _ (by omega) (by omega)), (fr _ _ (by omega) (by omega)).trans r8⟩
      · rw [e2]
        show (if 206 = 206 ∧ 0 ≤ k ∧ k < 0 + 388 then Value.int (q_i ((q_w (q_w σ1 205 0 (.int (Int32.ofInt 0))) 205 7 (.int (Int32.ofNat (p.2.2.1.1 - 1)))).1 210 (388 * (p.2.2.1.1 - 1) + (k - 0)))) else _) = _
        rw [if_pos ⟨rfl, by omega, by omega⟩, q_w_ne (fun e _ => by omega), q_w_ne (fun e _ => by omega), Nat.sub_zero, r6 _ (by omega) k hk]
        rfl
      · rw [e2, rCy_ne (fun e => by omega)]
        exact q_w_at _ _ _ _
      · have hi : i < p.2.2.1.1 - 1 := hi
        exact (fr _ _ (by omega) (by omega)).trans (r6 i (by omega) k hk)
theorem rTx.cp {W V : Nat} {Lo : zLaw} (K : rTx σ W A Lo) (h : ∀ k, 388 ≤ k → k < 1237 → τ.1 V k = .int (q_i (σ.1 W k))) : rTx τ V A Lo := by
  unfold rTx at K ⊢
  match Lo, K with
  | none, K => exact K
  | some (L, ls, l), ⟨k1, ⟨a, b, c⟩, k3⟩ =>
    have hv : ∀ k x, 388 ≤ k → k < 1237 → σ.1 W k = .int x → τ.1 V k = .int x := fun k x h1 h2 e => by rw [h k h1 h2, e]; rfl
    refine ⟨k1, ⟨hv _ _ (by omega) (by omega) a, fun i x hx => ?_, fun i x hx => ?_⟩, k3⟩
    · have hi := (List.getElem?_eq_some_iff.mp hx).1
      have g1 := k3.1
      obtain ⟨b1, b2, b3, b4⟩ := b i x hx
      exact ⟨hv _ _ (by omega) (by omega) b1, hv _ _ (by omega) (by omega) b2, hv _ _ (by omega) (by omega) b3, hv _ _ (by omega) (by omega) b4⟩
    · have hi := (List.getElem?_eq_some_iff.mp hx).1
      have g1 := k3.2.1
      obtain ⟨c1, c2⟩ := c i x hx
      exact ⟨hv _ _ (by omega) (by omega) c1, hv _ _ (by omega) (by omega) c2⟩
theorem zq_45 (w : zPw p) (K : zC σ p) (R : zRv σ p) (G1 : p_163 0 σ σ1) (G2 : p_180 205 σ1 σ2) : zHld σ2 := by
  obtain ⟨k1, k2, ⟨D, k3⟩, ⟨nx, Ms, m, k4⟩, k5, k6, k7, k8, k9, k10⟩ := id K
  obtain ⟨B, hB⟩ := k7.e34
  obtain ⟨f, g2, g3, g4⟩ := G1 rfl k1 p.1 B k2 hB
  have R1 : zRv σ1 p := R.cls (fun c k h1 h2 => f.2 c k (by omega) (by omega))
  have e2 := G2 rfl R1.1
  have hl : ∀ c k, 219 ≤ c → c % 6 ≠ 5 → σ1.1 c k = σ.1 c k := fun c k q1 q2 => f.2 c k (by omega) (by omega)
  refine ⟨(p.1, p.2.1, p.2.2.1, p.2.2.2.1, some (p.1, p.2.2.2.1), p.2.2.2.2.2), ⟨w.1, w.2.1, w.2.2.1, w.2.2.2.1, ⟨⟨_, _, w.1⟩, w.2.1⟩⟩, ?_, ?_⟩
  · have K1 : zC σ1 (p.1, p.2.1, p.2.2.1, p.2.2.2.1, some (p.1, p.2.2.2.1), p.2.2.2.2.2) := by
      refine ⟨k1.of (fun k _ => f.2 _ _ (by omega) (by omega)), k2.fr f.1 (fun c j q1 q2 => f.2 c j (by omega) (by omega)), ⟨D, k3.fr f.1 (fun c j q1 q2 => f.2 c j (by omega) (by omega))⟩, ⟨nx, Ms, m.fe f.1 (fun c j q1 q2 => f.2 c j (by omega) (by omega)), fun i hi => ⟨(k4 i hi).1, ?_⟩⟩, k5.of f.1 (f.2 _ _ (by omega) (by omega)) hl, k6.of (by rw [f.1]; exact Nat.le_refl _), ⟨g4, g2, k5.e5 f.1 g3 hl, k6.of (by rw [f.1]; exact Nat.le_refl _)⟩, (f.2 _ _ (by omega) (by omega)).trans k8, by rw [f.1]; exact k9, by rw [f.1]; exact k10⟩
      rw [f.2 _ _ (by omega) (by omega), f.2 _ _ (by omega) (by omega)]
      exact (k4 i hi).2
    refine K1.ref (by rw [e2]; rfl) (fun c k q => ?_)
    rw [e2, q_w_ne (fun e _ => by omega), rCy_ne (fun e => by omega)]
    exact q_w_ne (fun e _ => by omega)
  · obtain ⟨⟨s1, s2, s3, s4, s5⟩, r2, r3, r4, r5, r6, r7, r8⟩ := R1
    have fr : ∀ c q, ¬ (c = 207 ∧ q < 1237) → ¬ (c = 205 ∧ (q = 0 ∨ q = 6)) → σ2.1 c q = σ1.1 c q := fun c q h1 h2 => by
      rw [e2, q_w_ne (fun e1 e2 => h2 ⟨e1, Or.inr e2⟩), rCy_ne (fun e => h1 ⟨e.1, by omega⟩)]
      exact q_w_ne (fun e1 e2 => h2 ⟨e1, Or.inl e2⟩)
    have c7 : ∀ k, k < 1237 → σ2.1 207 k = .int (q_i (σ1.1 206 k)) := fun k hk => by
      rw [e2, q_w_ne (fun e _ => by omega)]
      show (if 207 = 207 ∧ 0 ≤ k ∧ k < 0 + 1237 then Value.int (q_i ((q_w σ1 205 0 (.int (Int32.ofInt 0))).1 206 (0 + (k - 0)))) else _) = _
      rw [if_pos ⟨rfl, by omega, by omega⟩, q_w_ne (fun e _ => by omega), Nat.sub_zero, Nat.zero_add]
    refine ⟨⟨(fr _ _ (by omega) (by omega)).trans s1, (fr _ _ (by omega) (by omega)).trans s2, (fr _ _ (by omega) (by omega)).trans s3, (fr _ _ (by omega) (by omega)).trans s4, (fr _ _ (by omega) (by omega)).trans s5⟩, (fr _ _ (by omega) (by omega)).trans r2, ⟨(fr _ _ (by omega) (by omega)).trans s1, fun k hk => (fr _ _ (by omega) (by omega)).trans (r3.2 k hk)⟩, r4.of (fun k _ _ => fr _ _ (by omega) (by omega)) rfl, (fr _ _ (by omega) (by omega)).trans r5, fun i hi k hk => (fr _ _ (by omega) (by omega)).trans (r6 i hi k hk), ⟨?_, fun k hk => ?_, r4.cp (fun k _ hk => c7 k hk)⟩, (fr _ _ (by omega) (by omega)).trans r8⟩
    · rw [e2]; exact q_w_at _ _ _ _
    · rw [c7 k (by omega), r3.2 k hk]; rfl
theorem zq_46 (w : zPw p) (K : zC σ p) (R : zRv σ p) (G1 : p_164 0 σ k σ1) (G2 : p_181 205 σ1 b σ2) : zHld σ2 ∧ k = b := by
  obtain ⟨k1, k2, ⟨D, k3⟩, ⟨nx, Ms, m, k4⟩, k5, k6, k7, k8, k9, k10⟩ := id K
  obtain ⟨B, hB⟩ := k7.e34
  have g := G1 rfl k1 p.1 B k2 hB
  obtain ⟨⟨s1, s2, s3, s4, s5⟩, r2, r3, r4, r5, r6, r7, r8⟩ := id R
  match him : p.2.2.2.2.1, k7, r7 with
  | none, k7, r7 =>
    have e0 : (q_i (σ.1 0 6)).toInt = 0 := by rw [k7.1]; rfl
    obtain ⟨rfl, rfl⟩ := g.1 e0
    have r7 : σ1.1 205 6 = .int (Int32.ofInt 0) := r7
    obtain ⟨rfl, rfl⟩ := (G2 rfl R.1).1 (by rw [r7]; rfl)
    exact ⟨⟨p, w, K.ref rfl (fun c k q => q_w_ne (fun e _ => by omega)), R.thr (c := 0)⟩, rfl⟩
  | some (I, Li), ⟨i1, i2, i3, i4⟩, ⟨j1, j2, j3⟩ =>
    have w5 := w.2.2.2.2
    rw [him] at w5
    obtain ⟨⟨nf', nt', w5⟩, w6⟩ := w5
    obtain ⟨g1, f, -, g3, g4⟩ := (G1 rfl k1 p.1 I k2 i2).2 (by rw [i1]; decide)
    have g2 := ((G1 rfl k1 p.1 I k2 i2).2 (by rw [i1]; decide)).2.2.1
    subst g1
    have R1 : zRv σ1 p := R.cls (fun c k h1 h2 => f.2 c k (by omega) (by omega))
    have e6 : (q_i (σ1.1 205 6)).toInt ≠ 0 := by rw [f.2 _ _ (by omega) (by omega), j1]; decide
    obtain ⟨rfl, e2⟩ := (G2 rfl R1.1).2 e6
    have hl : ∀ c k, 219 ≤ c → c % 6 ≠ 5 → σ1.1 c k = σ.1 c k := fun c k q1 q2 => f.2 c k (by omega) (by omega)
    refine ⟨⟨(I, (nf', nt'), (0, p.2.2.1.2), Li, some (I, Li), p.2.2.2.2.2), ⟨w5, w6, Nat.zero_le _, fun i hi => absurd hi (Nat.not_lt_zero i), ⟨⟨_, _, w5⟩, w6⟩⟩, ?_, ?_⟩, rfl⟩
    · have K1 : zC σ1 (I, (nf', nt'), (0, p.2.2.1.2), Li, some (I, Li), p.2.2.2.2.2) := by
        obtain ⟨m1, m2, m3, m4, m5, m6, m7⟩ := m
        refine ⟨k1.of (fun k _ => f.2 _ _ (by omega) (by omega)), g2, ⟨D, k3.fr f.1 (fun c j q1 q2 => f.2 c j (by omega) (by omega))⟩, ⟨nx, Ms, ⟨(f.2 _ _ (by omega) (by omega)).trans m1, fun i hi => (f.2 _ _ (by omega) (by omega)).trans (m2 i hi), (f.2 _ _ (by omega) (by omega)).trans m3, m4, g4, Nat.zero_le _, fun i hi => (m7 i hi).fr f.1 (fun c j q1 q2 => f.2 c j (by omega) (by omega))⟩, fun i hi => absurd hi (Nat.not_lt_zero i)⟩, i3.e5 f.1 g3 hl, i4.of (by rw [f.1]; exact Nat.le_refl _), ⟨(f.2 _ _ (by omega) (by omega)).trans i1, i2.fr f.1 (fun c j q1 q2 => f.2 c j (by omega) (by omega)), i3.of f.1 (f.2 _ _ (by omega) (by omega)) hl, i4.of (by rw [f.1]; exact Nat.le_refl _)⟩, (f.2 _ _ (by omega) (by omega)).trans k8, by rw [f.1]; exact k9, by rw [f.1]; exact k10⟩
      refine K1.ref (by rw [e2]; rfl) (fun c k q => ?_)
      rw [e2, q_w_ne (fun e _ => by omega), rCy_ne (fun e => by omega)]
      exact q_w_ne (fun e _ => by omega)
    · have fr : ∀ c q, ¬ (c = 206 ∧ q < 1237) → ¬ (c = 205 ∧ (q = 0 ∨ q = 7)) → σ2.1 c q = σ1.1 c q := fun c q h1 h2 => by
        rw [e2, q_w_ne (fun e1 e2 => h2 ⟨e1, Or.inr e2⟩), rCy_ne (fun e => h1 ⟨e.1, by omega⟩)]
        exact q_w_ne (fun e1 e2 => h2 ⟨e1, Or.inl e2⟩)
      have u : ∀ c k, 205 ≤ c → c ≤ 217 → σ1.1 c k = σ.1 c k := fun c k h1 h2 => f.2 c k (by omega) (by omega)
      have c6 : ∀ k, k < 1237 → σ2.1 206 k = .int (q_i (σ1.1 207 k)) := fun k hk => by
        rw [e2, q_w_ne (fun e _ => by omega)]
        show (if 206 = 206 ∧ 0 ≤ k ∧ k < 0 + 1237 then Value.int (q_i ((q_w σ1 205 0 (.int (Int32.ofInt 0))).1 207 (0 + (k - 0)))) else _) = _
        rw [if_pos ⟨rfl, by omega, by omega⟩, q_w_ne (fun e _ => by omega), Nat.sub_zero, Nat.zero_add]
      refine ⟨⟨?_, ?_, ?_, ?_, ?_⟩, ?_, ⟨?_, fun k hk => ?_⟩, j3.cp (fun k _ hk => by rw [c6 k hk, u _ _ (by omega) (by omega)]), ?_, fun i hi => absurd hi (Nat.not_lt_zero i), ⟨?_, fun k hk => ?_, j3.of (fun k _ hk => by rw [fr _ _ (by omega) (by omega), u _ _ (by omega) (by omega)]) rfl⟩, ?_⟩
      · rw [fr _ _ (by omega) (by omega), u _ _ (by omega) (by omega)]; exact s1
      · rw [fr _ _ (by omega) (by omega), u _ _ (by omega) (by omega)]; exact s2
      · rw [fr _ _ (by omega) (by omega), u _ _ (by omega) (by omega)]; exact s3
      · rw [fr _ _ (by omega) (by omega), u _ _ (by omega) (by omega)]; exact s4
      · rw [fr _ _ (by omega) (by omega), u _ _ (by omega) (by omega)]; exact s5
      · rw [fr _ _ (by omega) (by omega), u _ _ (by omega) (by omega)]; exact r2
      · rw [fr _ _ (by omega) (by omega), u _ _ (by omega) (by omega)]; exact s1
      · rw [c6 k (by omega), u _ _ (by omega) (by omega), j2 k hk]; rfl
      · rw [e2]; exact q_w_at _ _ _ _
      · rw [fr _ _ (by omega) (by omega), u _ _ (by omega) (by omega)]; exact j1
      · rw [fr _ _ (by omega) (by omega), u _ _ (by omega) (by omega)]; exact j2 k hk
      · rw [fr _ _ (by omega) (by omega), u _ _ (by omega) (by omega)]; exact r8
end ZPC
end
section
/-! deed and law: pairs of calls keep the whole relation -/
section ZPD
variable {σ σ1 σ2 τ υ : zSg} {p : zPt} {A B : Nat → Int32} {nf nt : Nat} {k b v : Int32}
/-- a line of a deed keeps what holds of a house -/
theorem aI.dApp {o : dOp} (K : aI nf nt A) (h : dOK nf nt o) : aI (nf + dF1 o) (nt + dT1 o) (dApp nf nt A o) := by
  obtain ⟨⟨a0, a1, a2, a3, a4⟩, a5, a6, a7, a8, a9, a10, a11⟩ := K
  rcases h.cs with ⟨p, d, s, q, w, rfl, h9, -⟩ | ⟨f, x, y, q, w, rfl, h9⟩ | ⟨x, q, w, rfl⟩ | ⟨f, v, l, q, w, rfl, h9, h8, h7⟩ | ⟨f, x, y, q, w, rfl, h9⟩ | ⟨k, v, x, q, w, rfl, h9⟩
  · show aI (nf + 1) nt (aU (dG (aU (aU (aU (aU A (40 + 4 * nf) (Int32.ofNat p)) (41 + 4 * nf) (Int32.ofNat d)) (42 + 4 * nf) (Int32.ofNat s)) (43 + 4 * nf) w) q (Int32.ofNat nf)) 0 (Int32.ofNat (nf + 1)))
    have g : ∀ i, i ≠ 0 → ¬ (40 ≤ i ∧ i < 64) → (¬ (16 ≤ i ∧ i < 40)) → (aU (dG (aU (aU (aU (aU A (40 + 4 * nf) (Int32.ofNat p)) (41 + 4 * nf) (Int32.ofNat d)) (42 + 4 * nf) (Int32.ofNat s)) (43 + 4 * nf) w) q (Int32.ofNat nf)) 0 (Int32.ofNat (nf + 1))) i = A i := fun i h0 h1 h2 => by
      rw [aU_ne h0, dG_ne h2, aU_ne (by omega), aU_ne (by omega), aU_ne (by omega), aU_ne (by omega)]
    refine ⟨⟨aU_at, by omega, (g 1 (by omega) (by omega) (by omega)).trans a2, a3, fun t h1 h2 => (g _ (by omega) (by omega) (by omega)).trans (a4 t h1 h2)⟩, fun h hh => ?_, fun t ht => ?_, by rw [g 12 (by omega) (by omega) (by omega)]; exact a7, by rw [g 8 (by omega) (by omega) (by omega)]; exact a8, by rw [g 4 (by omega) (by omega) (by omega)]; exact a9, by rw [g 14 (by omega) (by omega) (by omega)]; exact a10, by rw [g 2 (by omega) (by omega) (by omega)]; exact a11⟩
    · rw [aU_ne (by omega)]
      unfold dG
      by_cases c : 16 ≤ 16 + h ∧ 16 + h < 40 ∧ btb q (Int32.ofNat (16 + h - 16)) = true
      · rw [if_pos c]; exact Or.inr ⟨nf, by omega, rfl⟩
      · rw [if_neg c, aU_ne (by omega), aU_ne (by omega), aU_ne (by omega), aU_ne (by omega)]
        rcases a5 h hh with e | ⟨F, hF, e⟩
        · exact Or.inl e
        · exact Or.inr ⟨F, by omega, e⟩
    · rw [g _ (by omega) (by omega) (by omega)]
      obtain ⟨F, hF, e⟩ := a6 t ht
      exact ⟨F, by omega, e⟩
  · show aI nf nt (dG A q (Int32.ofNat f))
    have g : ∀ i, ¬ (16 ≤ i ∧ i < 40) → dG A q (Int32.ofNat f) i = A i := fun i h => dG_ne h
    refine ⟨⟨(g _ (by omega)).trans a0, a1, (g _ (by omega)).trans a2, a3, fun t h1 h2 => (g _ (by omega)).trans (a4 t h1 h2)⟩, fun h hh => ?_, fun t ht => by rw [g _ (by omega)]; exact a6 t ht, by rw [g _ (by omega)]; exact a7, by rw [g _ (by omega)]; exact a8, by rw [g _ (by omega)]; exact a9, by rw [g _ (by omega)]; exact a10, by rw [g _ (by omega)]; exact a11⟩
    unfold dG
    by_cases c : 16 ≤ 16 + h ∧ 16 + h < 40 ∧ btb q (Int32.ofNat (16 + h - 16)) = true
    · rw [if_pos c]; exact Or.inr ⟨f, h9, rfl⟩
    · rw [if_neg c]; exact a5 h hh
  · show aI nf nt (dG A q (Int32.ofInt (-1)))
    have g : ∀ i, ¬ (16 ≤ i ∧ i < 40) → dG A q (Int32.ofInt (-1)) i = A i := fun i h => dG_ne h
    refine ⟨⟨(g _ (by omega)).trans a0, a1, (g _ (by omega)).trans a2, a3, fun t h1 h2 => (g _ (by omega)).trans (a4 t h1 h2)⟩, fun h hh => ?_, fun t ht => by rw [g _ (by omega)]; exact a6 t ht, by rw [g _ (by omega)]; exact a7, by rw [g _ (by omega)]; exact a8, by rw [g _ (by omega)]; exact a9, by rw [g _ (by omega)]; exact a10, by rw [g _ (by omega)]; exact a11⟩
    unfold dG
    by_cases c : 16 ≤ 16 + h ∧ 16 + h < 40 ∧ btb q (Int32.ofNat (16 + h - 16)) = true
    · rw [if_pos c]; exact Or.inl rfl
    · rw [if_neg c]; exact a5 h hh
  · show aI nf (nt + 1) (aU (aU (aU (aU A (64 + 3 * nt) (Int32.ofNat f)) (65 + 3 * nt) (Int32.ofNat v)) (66 + 3 * nt) (Int32.ofNat l)) 1 (Int32.ofNat (nt + 1)))
    have g : ∀ i, i ≠ 1 → i ≠ 64 + 3 * nt → i ≠ 65 + 3 * nt → i ≠ 66 + 3 * nt → (aU (aU (aU (aU A (64 + 3 * nt) (Int32.ofNat f)) (65 + 3 * nt) (Int32.ofNat v)) (66 + 3 * nt) (Int32.ofNat l)) 1 (Int32.ofNat (nt + 1))) i = A i := fun i h1 h2 h3 h4 => by rw [aU_ne h1, aU_ne h4, aU_ne h3, aU_ne h2]
    refine ⟨⟨(g 0 (by omega) (by omega) (by omega) (by omega)).trans a0, a1, aU_at, by omega, fun t h1 h2 => (g _ (by omega) (by omega) (by omega) (by omega)).trans (a4 t (by omega) h2)⟩, fun h hh => by rw [g _ (by omega) (by omega) (by omega) (by omega)]; exact a5 h hh, fun t ht => ?_, by rw [g 12 (by omega) (by omega) (by omega) (by omega)]; exact a7, by rw [g 8 (by omega) (by omega) (by omega) (by omega)]; exact a8, by rw [g 4 (by omega) (by omega) (by omega) (by omega)]; exact a9, by rw [g 14 (by omega) (by omega) (by omega) (by omega)]; exact a10, by rw [g 2 (by omega) (by omega) (by omega) (by omega)]; exact a11⟩
    by_cases c : t = nt
    · subst c
      refine ⟨f, h8, ?_⟩
      rw [aU_ne (by omega), aU_ne (by omega), aU_ne (by omega), aU_at]
    · rw [g _ (by omega) (by omega) (by omega) (by omega)]
      exact a6 t (by omega)
  · show aI nf nt (aU A (43 + 4 * f) (A (43 + 4 * f) ||| w))
    have K : aI nf nt A := ⟨⟨a0, a1, a2, a3, a4⟩, a5, a6, a7, a8, a9, a10, a11⟩
    exact K.pl (by omega) (by omega) (by omega) (by omega)
  · show aI nf nt (aU A k (Int32.ofNat v))
    have g : ∀ i, i ≠ k → aU A k (Int32.ofNat v) i = A i := fun i h => aU_ne h
    refine ⟨⟨(g _ (by omega)).trans a0, a1, (g _ (by omega)).trans a2, a3, fun t h1 h2 => (g _ (by omega)).trans (a4 t h1 h2)⟩, fun h hh => by rw [g _ (by omega)]; exact a5 h hh, fun t ht => by rw [g _ (by omega)]; exact a6 t ht, ?_, by rw [g _ (by omega)]; exact a8, ?_, by rw [g _ (by omega)]; exact a10, by rw [g _ (by omega)]; exact a11⟩
    · by_cases c : k = 12
      · subst c
        rw [aU_at]
        rw [o32 (show v ≤ 1000 by omega)]; omega
      · rw [g _ (by omega)]; exact a7
    · by_cases c : k = 4
      · subst c
        rw [aU_at]
        exact ⟨v, by omega, rfl⟩
      · rw [g _ (by omega)]; exact a9
theorem aI.dApps : ∀ (os : List dOp) {nf nt : Nat} {A : Nat → Int32}, aI nf nt A → dOKs os nf nt → aI (nf + dFs os) (nt + dTs os) (dApps os nf nt A)
  | [], _, _, _, K, _ => K
  | o :: r, nf, nt, A, K, h => by
    have := aI.dApps r (K.dApp h.1) h.2
    rw [Nat.add_assoc, Nat.add_assoc] at this
    exact this
/-- the tape of both sides -/
noncomputable def zTpe (σ : zSg) (b : Nat → Int) (E : Nat) : Prop := cS0 σ 1 E ∧ cb σ 1 = b ∧ σ.1 1 0 = .ref 2 ∧ σ.1 205 8 = .ref 211 ∧ rb σ 205 = b ∧ σ.1 205 9 = .int (Int32.ofNat E) ∧ E ≤ 400 ∧ rIt σ
theorem rb_of {c : Nat} (h8 : σ.1 205 8 = .ref 211) (h : ∀ q, τ.1 205 8 = σ.1 205 8 → τ.1 211 q = σ.1 211 q) (h8' : τ.1 205 8 = σ.1 205 8) : rb τ 205 = rb σ 205 := by
  funext i
  unfold rb
  rw [h8', h8]
  show (q_i (τ.1 211 i)).toInt = (q_i (σ.1 211 i)).toInt
  rw [h i h8']
theorem zq_2 {bt : Nat → Int} {E : Nat} (w : zPw p) (K : zC σ p) (R : zRv σ p) (Q : zTpe σ bt E) (G1 : p_315 0 218 σ k σ1) (G2 : p_231 205 σ1 b σ2) : zHld σ2 ∧ zLik σ2 k b := by
  obtain ⟨e, τ, g, alts⟩ := G1
  obtain ⟨t1, t2, t3, t4, t5, t6, t7, t8⟩ := Q
  obtain ⟨k1, k2, ⟨D, k3⟩, ⟨nx, Ms, m, k4⟩, k5, k6, k7, k8, k9, k10⟩ := id K
  obtain ⟨tx, htx, etx⟩ := w.1.2.2.2.2.2.2.2
  have n6 := w.1.1.2.1
  have n8 := w.1.1.2.2.2.1
  obtain ⟨f, hD, -, e85, xo⟩ := g rfl bt E p.2.1.1 p.2.1.2 tx p.1 D ⟨k1, t1, t2, t3, k2, w.1.1, etx, htx, k3⟩
  have s1e : σ1.2 = τ.2 ∧ ∀ c q, c ≠ 218 → σ1.1 c q = τ.1 c q := by
    rcases alts with ⟨v, -, -, r⟩ | ⟨-, -, r⟩ | ⟨-, -, r⟩
    · rw [r]; exact ⟨rfl, fun c q h => q_w_ne (fun e _ => h e)⟩
    · rw [r]; exact ⟨rfl, fun _ _ _ => rfl⟩
    · rw [r]; exact ⟨rfl, fun _ _ _ => rfl⟩
  have lo : ∀ c q, 205 ≤ c → c ≤ 217 → σ1.1 c q = σ.1 c q := fun c q h1 h2 => (s1e.2 c q (by omega)).trans (f.2 c q (by omega) (by omega) (by omega) (by omega))
  have R1 : zRv σ1 p := R.cls lo
  have rb1 : rb σ1 205 = bt := (rb_of (c := 0) t4 (fun q _ => lo _ _ (by omega) (by omega)) (lo _ _ (by omega) (by omega))).trans t5
  have y := G2 rfl R1.1 bt E p.2.1.1 p.2.1.2 p.1 tx ⟨(lo _ _ (by omega) (by omega)).trans t4, rb1, R1.2.2.1, (lo _ _ (by omega) (by omega)).trans t6, t7, w.1.1.1, n6, w.1.1.2.2.1, n8⟩ etx htx (fun q hq => by rw [lo _ _ (by omega) (by omega)]; exact t8 q hq)
  obtain ⟨fy, -, yo⟩ := y
  have hl : ∀ c q, 219 ≤ c → c % 6 ≠ 5 → τ.1 c q = σ.1 c q := fun c q q1 q2 => f.2 c q (by omega) (by omega) (by omega) (by omega)
  -- both sides, for any outcome: what the house, the counts, the acts, the fault are then
  have cls : ∀ (B : Nat → Int32) (cf : Nat × Nat) (n' : Nat) (y' : Int32), hH τ 8 B → τ.1 0 7 = .int y' → τ.1 47 2 = .int (Int32.ofNat n') → (n' = p.2.2.1.1 ∨ n' = 0) → zC σ1 (B, cf, (n', p.2.2.1.2), p.2.2.2.1, p.2.2.2.2.1, y') := fun B cf n' y' hB h7 h47 hn => by
    have K0 : zC τ (B, cf, (n', p.2.2.1.2), p.2.2.2.1, p.2.2.2.2.1, y') := by
      obtain ⟨m1, m2, m3, m4, m5, m6, m7⟩ := m
      refine ⟨k1.of (fun k _ => f.2 _ _ (by omega) (by omega) (by omega) (by omega)), hB, hD, ⟨nx, Ms, ⟨(f.2 _ _ (by omega) (by omega) (by omega) (by omega)).trans m1, fun i hi => (f.2 _ _ (by omega) (by omega) (by omega) (by omega)).trans (m2 i hi), (f.2 _ _ (by omega) (by omega) (by omega) (by omega)).trans m3, m4, h47, (by show n' ≤ 12; omega), fun i hi => (m7 i hi).fr f.1 (fun c j q1 q2 => f.2 c j (by omega) (by omega) (by omega) (by omega))⟩, fun i hi => ?_⟩, k5.of f.1 e85 hl, k6.of (by rw [f.1]; exact Nat.le_refl _), k7.of f.1 (f.2 _ _ (by omega) (by omega) (by omega) (by omega)) (fun c k q1 q2 => f.2 c k (by omega) (by omega) (by omega) (by omega)) hl, h7, by rw [f.1]; exact k9, by rw [f.1]; exact k10⟩
      have hi : i < n' := hi
      have en : n' = p.2.2.1.1 := by omega
      show Ms (mJ nx n' i) = p.2.2.1.2 i ∧ τ.1 (49 + 13 * mJ nx n' i) 5 = τ.1 8 5
      rw [en, e85, f.2 _ _ (by omega) (by omega) (by omega) (by omega)]
      exact k4 i (by omega)
    exact K0.fr s1e.1 (fun c q h => s1e.2 c q (by unfold zCc at h; omega))
  have ref : ∀ (B : Nat → Int32) (cf : Nat × Nat) (n' : Nat) (y' : Int32), rW σ2 B → B 3 = p.1 3 → σ2.1 205 14 = .int y' → σ2.1 205 7 = .int (Int32.ofNat n') → (n' = p.2.2.1.1 ∨ n' = 0) → zRv σ2 (B, cf, (n', p.2.2.1.2), p.2.2.2.1, p.2.2.2.2.1, y') := fun B cf n' y' hB h3 h14 h7 hn => by
    obtain ⟨⟨s1, s2, s3, s4, s5⟩, r2, r3, r4, r5, r6, r7, r8⟩ := R1
    refine ⟨⟨(fy.2 _ _ (by omega) (by omega) (by omega)).trans s1, (fy.2 _ _ (by omega) (by omega) (by omega)).trans s2, (fy.2 _ _ (by omega) (by omega) (by omega)).trans s3, (fy.2 _ _ (by omega) (by omega) (by omega)).trans s4, (fy.2 _ _ (by omega) (by omega) (by omega)).trans s5⟩, (fy.2 _ _ (by omega) (by omega) (by omega)).trans r2, hB, r4.of (fun k _ _ => fy.2 _ _ (by omega) (by omega) (by omega)) h3, h7, fun i hi k hk => ?_, r7.of (fy.2 _ _ (by omega) (by omega) (by omega)) (fun k _ => fy.2 _ _ (by omega) (by omega) (by omega)), h14⟩
    have hi : i < n' := hi
    exact (fy.2 _ _ (by omega) (by omega) (by omega)).trans (r6 i (by omega) k hk)
  have e7 : σ1.1 205 7 = .int (Int32.ofNat p.2.2.1.1) := R1.2.2.2.2.1
  have z : ∀ (q : zPt), zC σ1 q → zC σ2 q := fun q h => h.ref fy.1 (fun c k hc => fy.2 c k (by omega) (by omega) (by omega))
  have out : ∀ v : Int32, σ1 = q_w τ 218 0 (.long v.toInt64) → σ2.1 218 0 = .long v.toInt64 := fun v hv => by
    rw [fy.2 _ _ (by omega) (by omega) (by omega), hv]
    exact q_w_at _ _ _ _
  cases hd : dDeed bt E p.2.1.1 p.2.1.2 with
  | inr F =>
    rw [hd] at xo yo
    obtain ⟨rfl, x2, x3, x4⟩ := xo
    obtain ⟨y1, y2, y3, y4⟩ := yo
    rcases alts with ⟨v, q, r1, r2⟩ | ⟨q, r1, r2⟩ | ⟨q, r1, r2⟩
    · cases q
    · refine ⟨⟨(p.1, p.2.1, (p.2.2.1.1, p.2.2.1.2), p.2.2.2.1, p.2.2.2.2.1, Int32.ofNat F), w, z _ (cls p.1 p.2.1 p.2.2.1.1 _ x3 x2 (x4.trans m.2.2.2.2.1) (Or.inl rfl)), ref p.1 p.2.1 p.2.2.1.1 _ y3 rfl y2 (y4.trans e7) (Or.inl rfl)⟩, _, y1, by rw [r1], fun h => ?_⟩
      rw [r1] at h
      exact absurd h (by decide)
    · cases q
  | inl os =>
    rw [hd] at xo yo
    obtain ⟨x1, x2, x3⟩ := xo
    obtain ⟨y1, y2, y3⟩ := yo
    by_cases h12 : tx = 12
    · obtain ⟨rfl, x4, x5⟩ := x2 h12
      obtain ⟨y4, y5, y6⟩ := y2 h12
      rcases alts with ⟨v, q, r1, r2⟩ | ⟨q, r1, r2⟩ | ⟨q, r1, r2⟩
      · cases q
      · cases q
      · refine ⟨⟨(p.1, p.2.1, (p.2.2.1.1, p.2.2.1.2), p.2.2.2.1, p.2.2.2.2.1, Int32.ofInt (-1)), w, z _ (cls p.1 p.2.1 p.2.2.1.1 _ x4 x1 (x5.trans m.2.2.2.2.1) (Or.inl rfl)), ref p.1 p.2.1 p.2.2.1.1 _ y5 rfl y1 (y6.trans e7) (Or.inl rfl)⟩, _, y4, by rw [r1], fun h => ?_⟩
        rw [r1] at h
        exact absurd h (by decide)
    · obtain ⟨rfl, x4, x5⟩ := x3 (by omega)
      obtain ⟨y4, y5, y6, y7⟩ := y3 (by omega)
      have oks := dDeed_ok hd n6 n8
      have ne := fun (i : Nat) hi => dApps_ne (k := i) (A := p.1) hd n6 n8 hi
      have IB := w.1.dApps os oks
      have IC : aI (p.2.1.1 + dFs os) (p.2.1.2 + dTs os) (aU (dApps os p.2.1.1 p.2.1.2 p.1) 2 (Int32.ofNat (tx + 1))) := by
        obtain ⟨⟨a0, a1, a2, a3, a4⟩, a5, a6, a7, a8, a9, a10, a11⟩ := IB
        have g : ∀ i, i ≠ 2 → aU (dApps os p.2.1.1 p.2.1.2 p.1) 2 (Int32.ofNat (tx + 1)) i = dApps os p.2.1.1 p.2.1.2 p.1 i := fun i h => aU_ne h
        exact ⟨⟨(g _ (by omega)).trans a0, a1, (g _ (by omega)).trans a2, a3, fun t h1 h2 => (g _ (by omega)).trans (a4 t h1 h2)⟩, fun h hh => by rw [g _ (by omega)]; exact a5 h hh, fun t ht => by rw [g _ (by omega)]; exact a6 t ht, by rw [g _ (by omega)]; exact a7, by rw [g _ (by omega)]; exact a8, by rw [g _ (by omega)]; exact a9, by rw [g _ (by omega)]; exact a10, tx + 1, by omega, aU_at⟩
      rcases alts with ⟨v, q, r1, r2⟩ | ⟨q, r1, r2⟩ | ⟨q, r1, r2⟩
      · cases q
        refine ⟨⟨(aU (dApps os p.2.1.1 p.2.1.2 p.1) 2 (Int32.ofNat (tx + 1)), (p.2.1.1 + dFs os, p.2.1.2 + dTs os), (0, p.2.2.1.2), p.2.2.2.1, p.2.2.2.2.1, Int32.ofInt (-1)), ⟨IC, ?_, Nat.zero_le _, fun i hi => absurd hi (Nat.not_lt_zero i), w.2.2.2.2⟩, z _ (cls _ _ 0 _ x4 x1 x5 (Or.inr rfl)), ref _ _ 0 _ y6 ?_ y1 y7 (Or.inr rfl)⟩, _, y4, by rw [r1], fun _ => ?_⟩
        · show 0 ≤ (aU (dApps os p.2.1.1 p.2.1.2 p.1) 2 (Int32.ofNat (tx + 1)) 6).toInt
          rw [aU_ne (by omega), ne 6 (by omega)]
          exact w.2.1
        · rw [aU_ne (by omega)]; exact ne 3 (by omega)
        · rw [y5]; exact out _ r2
      · cases q
      · cases q
/-! the law -/
theorem aI.law (K : aI nf nt A) : aI nf nt (aU A 3 (Int32.ofInt 1)) := by
  have hs3 : ∀ i, i ≠ 3 → aU A 3 (Int32.ofInt 1) i = A i := fun i h => aU_ne h
  obtain ⟨⟨a0, a1, a2, a3, a4⟩, a5, a6, a7, a8, a9, a10, a11⟩ := K
  exact ⟨⟨(hs3 _ (by omega)).trans a0, a1, (hs3 _ (by omega)).trans a2, a3, fun t h1 h2 => (hs3 _ (by omega)).trans (a4 t h1 h2)⟩, fun h hh => by rw [hs3 _ (by omega)]; exact a5 h hh, fun t ht => by rw [hs3 _ (by omega)]; exact a6 t ht, by rw [hs3 _ (by omega)]; exact a7, by rw [hs3 _ (by omega)]; exact a8, by rw [hs3 _ (by omega)]; exact a9, by rw [hs3 _ (by omega)]; exact a10, by rw [hs3 _ (by omega)]; exact a11⟩
theorem hH.frl {b9 : Nat} (K : hH σ b9 A) (hl1 : τ.2.1 (b9 + 11) = σ.2.1 (b9 + 11)) (hl2 : τ.2.1 (b9 + 12) = σ.2.1 (b9 + 12)) (h : ∀ c j, b9 ≤ c → c ≤ b9 + 12 → τ.1 c j = σ.1 c j) : hH τ b9 A := by
  obtain ⟨h1, h2, ⟨l, h3, h3'⟩, ⟨nx, h4, h4', h4''⟩, h5, h6, h7⟩ := K
  refine ⟨fun c j d hk => ?_, fun k c j hp => ?_, ⟨l, ?_, h3'⟩, ⟨nx, h4, ?_, fun i j hi hj => ?_⟩, ?_, by rw [hl1]; exact h6, by rw [hl2]; exact h7⟩
  · rw [h c j (by unfold hKr at hk; omega) (by unfold hKr at hk; omega)]; exact h1 c j d hk
  · have hn := hp.no
    rw [h c j hn.2.2.2.2.2.2.2.1 hn.2.2.2.2.2.2.2.2]; exact h2 k c j hp
  · rw [h _ _ (by omega) (by omega)]; exact h3
  · rw [h _ _ (by omega) (by omega)]; exact h4'
  · rw [h _ _ (by omega) (by omega)]; exact h4'' i j hi hj
  · unfold hWe
    rw [h b9 5 (by omega) (by omega)]
    exact h5
/-- the law of a house is another one now -/
theorem hH.w5 {b9 L : Nat} (K : hH σ b9 A) (hl1 : τ.2.1 (b9 + 11) = σ.2.1 (b9 + 11)) (hl2 : τ.2.1 (b9 + 12) = σ.2.1 (b9 + 12)) (h : ∀ c j, b9 ≤ c → c ≤ b9 + 12 → ¬ (c = b9 ∧ j = 5) → τ.1 c j = σ.1 c j) (h5 : τ.1 b9 5 = .ref L) : hH τ b9 (aU A 3 (Int32.ofInt 1)) := by
  obtain ⟨h1, h2, ⟨l, h3, h3'⟩, ⟨nx, h4, h4', h4''⟩, -, h6, h7⟩ := K
  refine ⟨fun c j d hk => ?_, fun k c j hp => ?_, ⟨l, ?_, fun t ht => ?_⟩, ⟨nx, h4, ?_, fun i j hi hj => ?_⟩, Or.inr ⟨L, h5, aU_at⟩, by rw [hl1]; exact h6, by rw [hl2]; exact h7⟩
  · rw [h c j (by unfold hKr at hk; omega) (by unfold hKr at hk; omega) (by unfold hKr at hk; omega)]; exact h1 c j d hk
  · have hn := hp.no
    rw [aU_ne hn.2.1, h c j hn.2.2.2.2.2.2.2.1 hn.2.2.2.2.2.2.2.2 hn.2.2.2.2.2.2.1]; exact h2 k c j hp
  · rw [h _ _ (by omega) (by omega) (by omega)]; exact h3
  · rw [aU_ne (by omega)]; exact h3' t ht
  · rw [h _ _ (by omega) (by omega) (by omega)]; exact h4'
  · rw [h _ _ (by omega) (by omega) (by omega), aU_ne (by omega)]; exact h4'' i j hi hj
theorem cLaw.frl {L : Nat} {ls : List gLn4} {l : zSs} (K : cLaw σ L ls l) (h1 : τ.2.1 (L + 1) = σ.2.1 (L + 1)) (h2 : ∀ c k, L ≤ c → c ≤ L + 5 → τ.1 c k = σ.1 c k) : cLaw τ L ls l := by
  obtain ⟨a0, a1, a2, a3, a4, a5, a6, a7, a8⟩ := K
  refine ⟨?_, ?_, ?_, ?_, ?_, ?_, fun i x hx => ?_, by rw [h1]; exact a7, fun i x hx => ?_⟩
  · rw [h2 _ _ (by omega) (by omega)]; exact a0
  · rw [h2 _ _ (by omega) (by omega)]; exact a1
  · rw [h2 _ _ (by omega) (by omega)]; exact a2
  · rw [h2 _ _ (by omega) (by omega)]; exact a3
  · rw [h2 _ _ (by omega) (by omega)]; exact a4
  · rw [h2 _ _ (by omega) (by omega)]; exact a5
  · rw [h2 _ _ (by omega) (by omega), h2 _ _ (by omega) (by omega), h2 _ _ (by omega) (by omega)]; exact a6 i x hx
  · rw [h2 _ _ (by omega) (by omega)]; exact a8 i x hx
theorem hW.frl {b9 : Nat} {Lo : zLaw} (K : hW σ b9 Lo) (B : wB σ Lo) (hl : ∀ c, c < σ.2.2 → τ.2.1 c = σ.2.1 c) (h5 : τ.1 b9 5 = σ.1 b9 5) (h : ∀ c k, 219 ≤ c → c < σ.2.2 → τ.1 c k = σ.1 c k) : hW τ b9 Lo := by
  unfold hW at K ⊢
  unfold wB at B
  match Lo, K, B with
  | none, K, _ => exact h5.trans K
  | some (L, ls, l), ⟨k1, k2, k3, k4, k5, k6⟩, B => exact ⟨h5.trans k1, k2, k3, k4.frl (hl _ (by omega)) (fun c k q1 q2 => h c k (by omega) (by omega)), (hl _ (by omega)).trans k5, k6⟩
theorem zCi.frl {im : Option ((Nat → Int32) × zLaw)} (K : zCi σ im) (h22 : σ.2.2 ≤ τ.2.2) (h219 : 219 ≤ σ.2.2) (hl : ∀ c, c < σ.2.2 → τ.2.1 c = σ.2.1 c) (h6 : τ.1 0 6 = σ.1 0 6) (h : ∀ c k, 34 ≤ c → c ≤ 46 → τ.1 c k = σ.1 c k) (hc : ∀ c k, 219 ≤ c → c < σ.2.2 → τ.1 c k = σ.1 c k) : zCi τ im := by
  unfold zCi at K ⊢
  split at K
  · obtain ⟨q1, B, q2⟩ := K
    exact ⟨h6.trans q1, B, q2.frl (hl _ (by omega)) (hl _ (by omega)) (fun c j q1 q2 => h c j (by omega) (by omega))⟩
  · obtain ⟨q1, q2, q3, q4⟩ := K
    exact ⟨h6.trans q1, q2.frl (hl _ (by omega)) (hl _ (by omega)) (fun c j q1 q2 => h c j (by omega) (by omega)), q3.frl q4 hl (h _ _ (by omega) (by omega)) hc, q4.of h22⟩
theorem zq_3 {bt : Nat → Int} {E : Nat} (w : zPw p) (K : zC σ p) (R : zRv σ p) (Q : cLw σ 0 1 3 8 47 7 4 5 6 2 bt E) (Q2 : rA σ 205 206 bt E) (h8 : σ.1 205 8 = .ref 211) (hs : k.toInt = 0 → σ1.2.2 = σ.2.2 + 6 ∧ σ1.2.1 (σ.2.2 + 2) = 32) (G1 : p_316w 0 218 σ k σ1) (G2 : p_232 205 σ1 b σ2) : zHld σ2 ∧ zLik σ2 k b := by
  obtain ⟨e, τ, g, alts⟩ := G1
  obtain ⟨g, gw'⟩ := g
  obtain ⟨f, -, Rs, hR, xo⟩ := g 1 3 8 47 7 4 5 6 2 bt E Q
  obtain ⟨k1, k2, ⟨D, k3⟩, ⟨nx, Ms, m, k4⟩, k5, k6, k7, k8, k9, k10⟩ := id K
  have s1e : σ1.2 = τ.2 ∧ ∀ c q, c ≠ 218 → σ1.1 c q = τ.1 c q := by
    rcases alts with ⟨v, -, -, r⟩ | ⟨-, -, r⟩
    · rw [r]; exact ⟨rfl, fun c q h => q_w_ne (fun e _ => h e)⟩
    · rw [r]; exact ⟨rfl, fun _ _ _ => rfl⟩
  have fr : ∀ c q, c < σ.2.2 → c ≠ 218 → ¬ (c = 0 ∧ q = 7) → ¬ (1 ≤ c ∧ c ≤ 7) → ¬ (c = 8 ∧ q = 5) → ¬ (c = 47 ∧ q = 2) → σ1.1 c q = σ.1 c q := fun c q h0 h1 h2 h3 h4 h5 => (s1e.2 c q h1).trans (f.2.2 c q h0 h2 (by omega) (by omega) (by omega) (by omega) (by omega) (by omega) h4 h5)
  have ln : ∀ c, c < σ.2.2 → σ1.2.1 c = σ.2.1 c := fun c h => by rw [s1e.1]; exact f.2.1 c h
  have lo : ∀ c q, 205 ≤ c → c ≤ 217 → σ1.1 c q = σ.1 c q := fun c q h1 h2 => fr c q (by omega) (by omega) (by omega) (by omega) (by omega) (by omega)
  have R1 : zRv σ1 p := R.cls lo
  have Q1 : rA σ1 205 206 bt E := by
    obtain ⟨a1, a2, a3, a4, a5, a6, a7, a8, D9, a9, a10⟩ := Q2
    have l8 := lo 205 8 (by omega) (by omega)
    exact ⟨by rw [l8]; exact a1, (rb_of (c := 0) h8 (fun q _ => lo _ _ (by omega) (by omega)) l8).trans a2, (lo _ _ (by omega) (by omega)).trans a3, a4, by rw [l8]; exact a5, (ln _ (by omega)).trans a6, (lo _ _ (by omega) (by omega)).trans a7, a8, D9, a9, (lo _ _ (by omega) (by omega)).trans a10⟩
  obtain ⟨fy, -, Rs', hR', yo⟩ := G2 206 bt E Q1
  cases hR.det hR'
  have fr2 : ∀ c q, ¬ (c = 205 ∧ (q = 0 ∨ q = 7 ∨ (9 ≤ q ∧ q ≤ 14) ∨ q = 16)) → ¬ (c = 206 ∧ (q = 3 ∨ 388 ≤ q)) → σ2.1 c q = σ1.1 c q := fun c q h1 h2 => fy.2 c q h1 h2
  have h0 : ∀ q, q ≠ 7 → σ1.1 0 q = σ.1 0 q := fun q h => fr 0 q (by omega) (by omega) (by omega) (by omega) (by omega) (by omega)
  have hc : ∀ c q, 219 ≤ c → c < σ.2.2 → σ1.1 c q = σ.1 c q := fun c q h1 h2 => fr c q h2 (by omega) (by omega) (by omega) (by omega) (by omega)
  have h3 : ∀ c q, 9 ≤ c → c ≤ 204 → c ≠ 47 → σ1.1 c q = σ.1 c q := fun c q h1 h2 h4 => fr c q (by omega) (by omega) (by omega) (by omega) (by omega) (by omega)
  have z : ∀ (q : zPt), zC σ1 q → zC σ2 q := fun q h => h.ref fy.1 (fun c k hc => fr2 c k (by omega) (by omega))
  have m47 : ∀ n', σ1.1 47 2 = .int (Int32.ofNat n') → n' ≤ 12 → mM σ1 nx n' Ms := fun n' e hn => by
    obtain ⟨m1, m2, m3, m4, m5, m6, m7⟩ := m
    exact ⟨(fr _ _ (by omega) (by omega) (by omega) (by omega) (by omega) (by omega)).trans m1, fun i hi => (h3 _ _ (by omega) (by omega) (by omega)).trans (m2 i hi), (fr _ _ (by omega) (by omega) (by omega) (by omega) (by omega) (by omega)).trans m3, m4, e, hn, fun i hi => (m7 i hi).frl (ln _ (by omega)) (ln _ (by omega)) (fun c j q1 q2 => h3 c j (by omega) (by omega) (by omega))⟩
  have h22 : σ.2.2 ≤ σ1.2.2 := by rw [s1e.1]; exact f.1
  have ci : zCi σ1 p.2.2.2.2.1 := k7.frl h22 k9 ln (h0 6 (by omega)) (fun c k h1 h2 => h3 c k (by omega) (by omega) (by omega)) hc
  have dD : ∃ D, hH σ1 21 D := ⟨D, k3.frl (ln _ (by omega)) (ln _ (by omega)) (fun c j q1 q2 => h3 c j (by omega) (by omega) (by omega))⟩
  have sk : xSk σ1 := k1.of (fun q _ => h0 q (by omega))
  obtain ⟨⟨s1, s2, s3, s4, s5⟩, r2, r3, r4, r5, r6, r7, r8⟩ := R1
  have skr : rSk σ2 := ⟨(fr2 _ _ (by omega) (by omega)).trans s1, (fr2 _ _ (by omega) (by omega)).trans s2, (fr2 _ _ (by omega) (by omega)).trans s3, (fr2 _ _ (by omega) (by omega)).trans s4, (fr2 _ _ (by omega) (by omega)).trans s5⟩
  have im2 : zRim σ2 p.2.2.2.2.1 := r7.of (fr2 _ _ (by omega) (by omega)) (fun k _ => fr2 _ _ (by omega) (by omega))
  have ac2 : ∀ i, i < p.2.2.1.1 → ∀ k, k < 388 → σ2.1 210 (388 * i + k) = .int (p.2.2.1.2 i k) := fun i hi k hk => (fr2 _ _ (by omega) (by omega)).trans (r6 i hi k hk)
  cases Rs with
  | inr F =>
    obtain ⟨rfl, x1, x2, x3⟩ := xo
    obtain ⟨y1, y2, y3, y4, y5⟩ := yo
    obtain ⟨z1, z2, z3⟩ := gw' 1 3 8 47 7 4 5 6 2 bt E Q rfl
    rcases alts with ⟨v, q, -, -⟩ | ⟨-, r1, r2'⟩
    · cases q
    subst r2'
    refine ⟨⟨(p.1, p.2.1, (p.2.2.1.1, p.2.2.1.2), p.2.2.2.1, p.2.2.2.2.1, Int32.ofNat F), w, z _ ⟨sk, k2.fr z1 (fun c j q1 q2 => ?_), dD, ⟨nx, Ms, m47 _ (z3.trans m.2.2.2.2.1) w.2.2.1, fun i hi => ⟨(k4 i hi).1, ?_⟩⟩, k5.frl k6 ln z2 hc, k6.of (by rw [z1]; exact Nat.le_refl _), ci, x2, by rw [z1]; exact k9, by rw [z1]; exact k10⟩, ⟨skr, (fr2 _ _ (by omega) (by omega)).trans r2, ⟨skr.1, fun k hk => (y5 k (by omega)).trans (r3.2 k hk)⟩, r4.of (fun k _ hk => y5 k hk) rfl, y4.trans r5, ac2, im2, y3⟩⟩, _, y2, by rw [r1], fun h => ?_⟩
    · by_cases q5 : c = 8 ∧ j = 5
      · rw [q5.1, q5.2]; exact z2
      · exact fr c j (by omega) (by omega) (by omega) (by omega) q5 (by omega)
    · have l12 : mJ nx p.2.2.1.1 i < 12 := Nat.mod_lt _ (by omega)
      show σ1.1 (49 + 13 * mJ nx p.2.2.1.1 i) 5 = σ1.1 8 5
      rw [h3 _ _ (by omega) (by omega) (by omega), z2]
      exact (k4 i hi).2
    · rw [r1] at h
      exact absurd h (by decide)
  | inl q =>
    obtain ⟨ls, l⟩ := q
    obtain ⟨rfl, x1, x2, x3, x4, x5, x6⟩ := xo
    obtain ⟨y1, y2, y3, y4, y5, y6, y7, y8⟩ := yo
    rcases alts with ⟨v, q, r1, r2'⟩ | ⟨q, -, -⟩
    case inr => cases q
    cases q
    obtain ⟨hs1, hs2⟩ := hs (by rw [r1]; rfl)
    have gw := hR.wf x1 x2
    have e85 : σ1.1 8 5 = .ref σ.2.2 := (s1e.2 8 5 (by omega)).trans x4
    have cl : cLaw σ1 σ.2.2 ls l := x6.frl (by rw [s1e.1]) (fun c k q1 q2 => s1e.2 c k (by omega))
    have hB : hH σ1 8 (aU p.1 3 (Int32.ofInt 1)) := k2.w5 (ln _ (by omega)) (ln _ (by omega)) (fun c j q1 q2 q3 => fr c j (by omega) (by omega) (by omega) (by omega) (by omega) (by omega)) e85
    have hs3 : ∀ i, i ≠ 3 → aU p.1 3 (Int32.ofInt 1) i = p.1 i := fun i h => aU_ne h
    refine ⟨⟨(aU p.1 3 (Int32.ofInt 1), p.2.1, (0, p.2.2.1.2), some (σ.2.2, ls, l), p.2.2.2.2.1, Int32.ofInt (-1)), ⟨?_, ?_, Nat.zero_le _, fun i hi => absurd hi (Nat.not_lt_zero i), w.2.2.2.2⟩, z _ ⟨sk, hB, dD, ⟨nx, Ms, m47 0 ((s1e.2 _ _ (by omega)).trans x5) (by omega), fun i hi => absurd hi (Nat.not_lt_zero i)⟩, ⟨e85, k9, k10, cl, hs2, gw⟩, (by show σ.2.2 + 6 ≤ σ1.2.2; omega), ci, (s1e.2 _ _ (by omega)).trans x3, by omega, by omega⟩, ⟨skr, (fr2 _ _ (by omega) (by omega)).trans r2, ⟨skr.1, fun k hk => ?_⟩, ⟨(show aU p.1 3 (Int32.ofInt 1) 3 = _ from aU_at), y8, gw⟩, y5, fun i hi => absurd hi (Nat.not_lt_zero i), im2, y4⟩⟩, _, y3, by rw [r1], fun _ => ?_⟩
    · exact w.1.law
    · show 0 ≤ (aU p.1 3 (Int32.ofInt 1) 6).toInt
      rw [hs3 _ (by omega)]; exact w.2.1
    · by_cases q3 : k = 3
      · subst q3
        show σ2.1 206 3 = .int (aU p.1 3 (Int32.ofInt 1) 3)
        rw [aU_at]; exact y6
      · show σ2.1 206 k = .int (aU p.1 3 (Int32.ofInt 1) k)
        rw [hs3 _ q3, fr2 _ _ (by omega) (by omega)]; exact r3.2 k hk
    · rw [fr2 _ _ (by omega) (by omega), r2', y1]
      exact q_w_at _ _ _ _
end ZPD
end
section
/-! does and thing: the class and the reference answer alike -/
end
section
/-! holds, changes, gaps: the class and the reference answer alike -/
end
section
/-! every further specification, closed; printed with wip/gen/gen_do.py -/
theorem sq_229d {sx : zX} : zEe sx 229 3 qP_229d := sd_229 sq_203 sq_228 sq_220
theorem sq_230d {sx : zX} : zEe sx 230 2 qP_230d := sd_230 sq_210 sq_202 sq_229d sq_201
theorem sq_9 {sx : zX} : zEe sx 9 2 qP_9 := sp_9 
theorem sq_10 {sx : zX} : zEe sx 10 1 qP_10 := sp_10 
theorem sq_103 {sx : zX} : zEe sx 103 1 qP_103 := sp_103 
theorem sq_106 {sx : zX} : zEe sx 106 2 qP_106 := sp_106 
theorem sq_12 {sx : zX} : zEe sx 12 4 qP_12 := sp_12 sq_10
theorem sq_13 {sx : zX} : zEe sx 13 3 qP_13 := sp_13 sq_9
theorem sq_29 {sx : zX} : zEe sx 29 3 qP_29 := sp_29 
theorem sq_104 {sx : zX} : zEe sx 104 4 qP_104 := sp_104 sq_103 sq_106
theorem sq_312 {sx : zX} : zEe sx 312 2 qP_312 := sp_312 
theorem sq_6 {sx : zX} : zEe sx 6 1 qP_6 := sp_6 sq_96 sq_92 sq_312
theorem sq_5 {sx : zX} : zEe sx 5 2 qP_5 := sp_5 sq_96
theorem sq_4 {sx : zX} : zEe sx 4 2 qP_4 := sp_4 sq_5 sq_92 sq_96 sq_91 sq_104
theorem sq_3 {sx : zX} : zEe sx 3 2 qP_3 := sp_3 sq_92 sq_96 sq_12 sq_91 sq_6 sq_13 sq_29
theorem sq_2 {sx : zX} : zEe sx 2 2 qP_2 := sp_2 sq_91 sq_90 sq_96
theorem sq_1 {sx : zX} : zEe sx 1 2 qP_1 := sp_1 sq_10 sq_103 sq_91 sq_2 sq_5 sq_6 sq_13 sq_29 sq_4 sq_3
theorem sq_0 {sx : zX} : zEe sx 0 2 qP_0 := sp_0 sq_87 sq_89 sq_88 sq_90 sq_1 sq_94
theorem sq_8 {sx : zX} : zEe sx 8 2 qP_8 := sp_8 
theorem sq_101 {sx : zX} : zEe sx 101 2 qP_101 := sp_101 
theorem sq_56 {sx : zX} : zEe sx 56 2 qP_56 := sp_56 
theorem sq_23 {sx : zX} : zEe sx 23 2 qP_23 := sp_23 sq_8 sq_101 sq_56
theorem sq_180 {sx : zX} : zEe sx 180 1 qP_180 := sp_180 
theorem sq_181 {sx : zX} : zEe sx 181 1 qP_181 := sp_181 
theorem sq_266 {sx : zX} : zEe sx 266 1 qP_266 := sp_266 
theorem sq_267 {sx : zX} : zEe sx 267 1 qP_267 := sp_267 
theorem sq_183 {sx : zX} : zEe sx 183 1 qP_183 := sp_183 
theorem sq_182 {sx : zX} : zEe sx 182 1 qP_182 := sp_182 
theorem sq_231 {sx : zX} : zEe sx 231 1 qP_231 := sp_231 sq_230d sq_176
theorem sq_62 {sx : zX} : zEe sx 62 2 qP_62 := sp_62 sq_23
theorem sq_63 {sx : zX} : zEe sx 63 2 qP_63 := sp_63 sq_23
theorem sq_120 {sx : zX} : zEe sx 120 1 qP_120 := sp_120 sq_23 sq_0 sq_64
theorem sq_163 {sx : zX} : zEe sx 163 1 qP_163 := sp_163 sq_23
theorem sq_164 {sx : zX} : zEe sx 164 1 qP_164 := sp_164 sq_23 sq_64
theorem sq_162 {sx : zX} : zEe sx 162 1 qP_162 := sp_162 sq_63
theorem sq_161 {sx : zX} : zEe sx 161 2 qP_161 := sp_161 
theorem sq_166 {sx : zX} : zEe sx 166 2 qP_166 := sp_166 
theorem sq_169 {sx : zX} : zEe sx 169 3 qP_169 := sp_169 
theorem sq_170 {sx : zX} : zEe sx 170 4 qP_170 := sp_170 
theorem sq_171 {sx : zX} : zEe sx 171 3 qP_171 := sp_171 
theorem sq_172 {sx : zX} : zEe sx 172 2 qP_172 := sp_172 
theorem sq_14 {sx : zX} : zEe sx 14 3 qP_14 := sp_14 sq_9
theorem sq_16 {sx : zX} : zEe sx 16 2 qP_16 := sp_16 sq_9
theorem sq_17 {sx : zX} : zEe sx 17 3 qP_17 := sp_17 sq_9
theorem sq_18 {sx : zX} : zEe sx 18 3 qP_18 := sp_18 sq_9
theorem sq_26 {sx : zX} : zEe sx 26 2 qP_26 := sp_26 sq_312
theorem sq_27 {sx : zX} : zEe sx 27 1 qP_27 := sp_27 sq_26
theorem sq_102 {sx : zX} : zEe sx 102 2 qP_102 := sp_102 
theorem sq_105 {sx : zX} : zEe sx 105 2 qP_105 := sp_105 
theorem sq_107 {sx : zX} : zEe sx 107 2 qP_107 := sp_107 
theorem sq_109 {sx : zX} : zEe sx 109 2 qP_109 := sp_109 
theorem sq_108 {sx : zX} : zEe sx 108 1 qP_108 := sp_108 sq_109
theorem sq_177 {sx : zX} : zEe sx 177 3 qP_177 := sp_177 
theorem sq_188 {sx : zX} : zEe sx 188 1 qP_188 := sp_188 sq_186
theorem sq_190 {sx : zX} : zEe sx 190 3 qP_190 := sp_190 sq_189
theorem sq_193 {sx : zX} : zEe sx 193 3 qP_193 := sp_193 sq_192
theorem sq_191 {sx : zX} : zEe sx 191 3 qP_191 := sp_191 sq_190 sq_178
theorem sq_194 {sx : zX} : zEe sx 194 2 qP_194 := sp_194 sq_193
theorem sq_195 {sx : zX} : zEe sx 195 2 qP_195 := sp_195 sq_184 sq_177
theorem sq_196 {sx : zX} : zEe sx 196 2 qP_196 := sp_196 sq_185 sq_177
theorem sq_197 {sx : zX} : zEe sx 197 1 qP_197 := sp_197 sq_177
theorem sq_130 {sx : zX} : zEe sx 130 2 qP_130 := sp_130 sq_166 sq_172 sq_62
theorem sq_134 {sx : zX} : zEe sx 134 1 qP_134 := sp_134 sq_62
theorem sq_167 {sx : zX} : zEe sx 167 2 qP_167 := sp_167 sq_9
theorem sq_168 {sx : zX} : zEe sx 168 2 qP_168 := sp_168 sq_102
theorem sq_129 {sx : zX} : zEe sx 129 3 qP_129 := sp_129 sq_166 sq_171 sq_172 sq_62
theorem sq_128 {sx : zX} : zEe sx 128 3 qP_128 := sp_128 sq_166 sq_167 sq_172 sq_62 sq_17 sq_16
theorem sq_127 {sx : zX} : zEe sx 127 3 qP_127 := sp_127 sq_166 sq_167 sq_171 sq_172 sq_62 sq_17 sq_18 sq_16
theorem sq_131 {sx : zX} : zEe sx 131 2 qP_131 := sp_131 sq_168 sq_27 sq_172 sq_62 sq_106 sq_108 sq_105
theorem sq_132 {sx : zX} : zEe sx 132 2 qP_132 := sp_132 sq_168 sq_27 sq_172 sq_62 sq_107 sq_108 sq_105
theorem sq_133 {sx : zX} : zEe sx 133 1 qP_133 := sp_133 sq_27 sq_172 sq_62 sq_17 sq_16
theorem sq_261 {sx : zX} : zEe sx 261 1 qP_261 := sp_261 sq_182
theorem sq_256 {sx : zX} : zEe sx 256 2 qP_256 := sp_256 sq_197 sq_176 sq_186 sq_182
theorem sq_309 {sx : zX} : zEe sx 309 2 qP_309 := sp_309 
theorem sq_254 {sx : zX} : zEe sx 254 3 qP_254 := sp_254 sq_186
theorem sq_253 {sx : zX} : zEe sx 253 3 qP_253 := sp_253 sq_197 sq_176 sq_195 sq_186 sq_190 sq_182 sq_189
theorem sq_255 {sx : zX} : zEe sx 255 3 qP_255 := sp_255 sq_197 sq_176 sq_186 sq_182 sq_254
theorem sq_252 {sx : zX} : zEe sx 252 3 qP_252 := sp_252 sq_197 sq_176 sq_195 sq_186 sq_190 sq_182 sq_189
theorem sq_233 {sx : zX} : zEe sx 233 1 qP_233 := sp_233 sq_185 sq_194
theorem sq_234 {sx : zX} : zEe sx 234 2 qP_234 := sp_234 sq_185 sq_178 sq_193
theorem sq_257 {sx : zX} : zEe sx 257 3 qP_257 := sp_257 sq_182 sq_192 sq_233 sq_234
theorem sq_258 {sx : zX} : zEe sx 258 2 qP_258 := sp_258 sq_196 sq_176 sq_193 sq_188 sq_194 sq_257
theorem sq_259 {sx : zX} : zEe sx 259 2 qP_259 := sp_259 sq_196 sq_176 sq_193 sq_188 sq_194 sq_257
theorem sq_260 {sx : zX} : zEe sx 260 1 qP_260 := sp_260 sq_188 sq_176 sq_190 sq_182 sq_189
theorem sq_45 {sx : zX} : zEe sx 45 2 qP_45 := sp_45 
theorem sq_44 {sx : zX} : zEe sx 44 3 qP_44 := sp_44 
theorem sq_43 {sx : zX} : zEe sx 43 4 qP_43 := sp_43 sq_45 sq_44
theorem sq_42 {sx : zX} : zEe sx 42 3 qP_42 := sp_42 sq_43
theorem sq_33 {sx : zX} : zEe sx 33 3 qP_33 := sp_33 sq_108 sq_14
theorem sq_30 {sx : zX} : zEe sx 30 3 qP_30 := sp_30 sq_9 sq_33 sq_42
theorem sq_31 {sx : zX} : zEe sx 31 3 qP_31 := sp_31 sq_9 sq_33 sq_42
theorem sq_32 {sx : zX} : zEe sx 32 2 qP_32 := sp_32 sq_102 sq_33 sq_42
theorem sq_235 {sx : zX} : zEe sx 235 1 qP_235 := sp_235 
theorem sq_236 {sx : zX} : zEe sx 236 5 qP_236 := sp_236 sq_233 sq_234 sq_235 sq_191
theorem sq_237 {sx : zX} : zEe sx 237 4 qP_237 := sp_237 sq_236
theorem sq_238 {sx : zX} : zEe sx 238 4 qP_238 := sp_238 sq_237
theorem sq_239 {sx : zX} : zEe sx 239 3 qP_239 := sp_239 sq_190 sq_238
theorem sq_240 {sx : zX} : zEe sx 240 3 qP_240 := sp_240 sq_190 sq_238
theorem sq_241 {sx : zX} : zEe sx 241 2 qP_241 := sp_241 sq_193 sq_238
theorem sq_39 {sx : zX} : zEe sx 39 1 qP_39 := sp_39 
theorem sq_40 {sx : zX} : zEe sx 40 2 qP_40 := sp_40 
theorem sq_57 {sx : zX} : zEe sx 57 6 qP_57 := sp_57 
theorem sq_35 {sx : zX} : zEe sx 35 2 qP_35 := sp_35 sq_39 sq_40 sq_57
theorem sq_36 {sx : zX} : zEe sx 36 1 qP_36 := sp_36 
theorem sq_37 {sx : zX} : zEe sx 37 2 qP_37 := sp_37 sq_105 sq_32 sq_17 sq_107 sq_57
theorem sq_34 {sx : zX} : zEe sx 34 2 qP_34 := sp_34 sq_27 sq_36 sq_37 sq_35 sq_30 sq_31
theorem sq_135 {sx : zX} : zEe sx 135 2 qP_135 := sp_135 sq_170 sq_62 sq_34
theorem sq_198 {sx : zX} : zEe sx 198 2 qP_198 := sp_198 
theorem sq_262 {sx : zX} : zEe sx 262 4 qP_262 := sp_262 
theorem sq_263 {sx : zX} : zEe sx 263 2 qP_263 := sp_263 sq_198 sq_262
theorem sq_264 {sx : zX} : zEe sx 264 2 qP_264 := sp_264 sq_185 sq_193 sq_194 sq_241 sq_189 sq_190 sq_192 sq_262
theorem sq_265 {sx : zX} : zEe sx 265 2 qP_265 := sp_265 sq_188 sq_187 sq_264 sq_263 sq_239 sq_240
theorem sq_268 {sx : zX} : zEe sx 268 3 qP_268 := sp_268 sq_265
theorem sq_269 {sx : zX} : zEe sx 269 2 qP_269 := sp_269 sq_177 sq_176 sq_182 sq_268
theorem sq_125 {sx : zX} : zEe sx 125 4 qP_125 := sp_125 sq_167 sq_166 sq_169 sq_31 sq_30
theorem sq_126 {sx : zX} : zEe sx 126 3 qP_126 := sp_126 sq_168 sq_169 sq_105 sq_32
theorem sq_151 {sx : zX} : zEe sx 151 3 qP_151 := sp_151 sq_170 sq_169 sq_23 sq_27 sq_34
theorem sq_152 {sx : zX} : zEe sx 152 2 qP_152 := sp_152 sq_170 sq_23 sq_34
theorem sq_154 {sx : zX} : zEe sx 154 2 qP_154 := sp_154 sq_167 sq_23 sq_16 sq_34
theorem sq_153 {sx : zX} : zEe sx 153 2 qP_153 := sp_153 sq_170 sq_23 sq_34
theorem sq_38 {sx : zX} : zEe sx 38 3 qP_38 := sp_38 sq_39 sq_26 sq_40
theorem sq_19 {sx : zX} : zEe sx 19 1 qP_19 := sp_19 
theorem sq_157 {sx : zX} : zEe sx 157 3 qP_157 := sp_157 sq_170 sq_23 sq_38 sq_19 sq_34
theorem sq_270 {sx : zX} : zEe sx 270 3 qP_270 := sp_270 sq_177 sq_176 sq_266 sq_268 sq_188 sq_267
theorem sq_271 {sx : zX} : zEe sx 271 2 qP_271 := sp_271 sq_177 sq_176 sq_266 sq_267 sq_265
theorem sq_273 {sx : zX} : zEe sx 273 2 qP_273 := sp_273 sq_195 sq_176 sq_266 sq_267 sq_190 sq_265
theorem sq_272 {sx : zX} : zEe sx 272 2 qP_272 := sp_272 sq_177 sq_176 sq_266 sq_267 sq_265
theorem sq_303 {sx : zX} : zEe sx 303 1 qP_303 := sp_303 sq_184 sq_190
theorem sq_304 {sx : zX} : zEe sx 304 3 qP_304 := sp_304 sq_177 sq_176 sq_266 sq_268 sq_267 sq_303
theorem sq_305 {sx : zX} : zEe sx 305 3 qP_305 := sp_305 sq_177 sq_176 sq_266 sq_268 sq_267
theorem sq_315 {sx : zX} : zEe sx 315 2 qP_315 := sp_315 sq_120
theorem sq_319 {sx : zX} : zEe sx 319 5 qP_319 := sp_319 sq_125
theorem sq_320 {sx : zX} : zEe sx 320 4 qP_320 := sp_320 sq_126
theorem sq_321 {sx : zX} : zEe sx 321 4 qP_321 := sp_321 sq_127
theorem sq_322 {sx : zX} : zEe sx 322 4 qP_322 := sp_322 sq_128
theorem sq_323 {sx : zX} : zEe sx 323 4 qP_323 := sp_323 sq_129
theorem sq_324 {sx : zX} : zEe sx 324 3 qP_324 := sp_324 sq_130
theorem sq_325 {sx : zX} : zEe sx 325 3 qP_325 := sp_325 sq_131
theorem sq_326 {sx : zX} : zEe sx 326 3 qP_326 := sp_326 sq_132
theorem sq_327 {sx : zX} : zEe sx 327 2 qP_327 := sp_327 sq_133
theorem sq_328 {sx : zX} : zEe sx 328 3 qP_328 := sp_328 sq_135
theorem sq_335 {sx : zX} : zEe sx 335 4 qP_335 := sp_335 sq_151
theorem sq_336 {sx : zX} : zEe sx 336 3 qP_336 := sp_336 sq_152
theorem sq_337 {sx : zX} : zEe sx 337 3 qP_337 := sp_337 sq_153
theorem sq_338 {sx : zX} : zEe sx 338 3 qP_338 := sp_338 sq_154
theorem sq_339 {sx : zX} : zEe sx 339 4 qP_339 := sp_339 sq_157
theorem sq_121w {sx : zX} : zEe sx 121 1 qP_121w := sp_121w sq_47 sq_48 sq_64
theorem sq_316w {sx : zX} : zEe sx 316 2 qP_316w := sp_316w sq_121w
theorem sq_122 {sx : zX} : zEe sx 122 1 qP_122 := sp_122 
theorem sq_209 {sx : zX} : zEe sx 209 1 qP_209 := sp_209 
end
section
/-! a call that touches nothing of the whole relation keeps it; the fault -/
theorem zq_4 {σ σ1 σ2 : zSg} {p : zPt} {k b : Int32} (w : zPw p) (K : zC σ p) (R : zRv σ p) (G1 : p_122 0 σ k σ1) (G2 : p_209 205 σ1 b σ2) : zHld σ2 ∧ k = b := by
  obtain ⟨rfl, e1⟩ := G1
  obtain ⟨rfl, e2⟩ := G2
  refine ⟨⟨p, w, K.ref rfl (fun c k q => q_w_ne (fun e _ => by omega)), R.thr (c := 0)⟩, ?_⟩
  have h1 : σ1.1 0 7 = .int p.2.2.2.2.2 := K.2.2.2.2.2.2.2.1
  have h2 : σ1.1 205 14 = .int p.2.2.2.2.2 := R.2.2.2.2.2.2.2
  rw [e1, e2, h1, h2]
theorem zsh_n {T : zTy} {e : zE} (h : z_sh T e) : q_n e = if T.1 = 0 then 0 else T.2.2.1 := by
  obtain ⟨k, c', n, rs⟩ := T
  match k, e, h with
  | 0, .inr (c, fs), _ => rfl
  | 1, .inl (0, (m, .inl _)), h => exact h
  | 2, .inl (1, (m, .inl _)), h => exact h
  | 3, .inl (2, (m, .inr (.inl _))), h => exact h
  | 4, .inl (3, (m, .inr (.inr (.inr (.inr _))))), h => exact h
theorem zvl_n {h : zH} {c : Nat} {e : zE} (he : h[c]? = some e) : zvl h c = q_n e := by
  unfold zvl
  rw [he]
  obtain ⟨t, n, x⟩ | ⟨c, fs⟩ := e <;> rfl
theorem za2 {ty ty' : List Nat} {h h' : zH} (T : zTY z_tt ty h) (T' : zTY z_tt ty' h') (X : zExt ty ty') (hl : h'.length = h.length) : (za h').2 = (za h).2 := by
  have e : zvl h' = zvl h := funext fun c => by
    by_cases hc : c < h.length
    · have hc' : c < ty.length := by rw [T.1]; exact hc
      have ht : ty[c]? = some ty[c] := List.getElem?_eq_getElem hc'
      have e1 : h[c]? = some h[c] := List.getElem?_eq_getElem hc
      have hc2 : c < h'.length := by omega
      have e2 : h'[c]? = some h'[c] := List.getElem?_eq_getElem hc2
      rw [zvl_n e1, zvl_n e2, zsh_n (T.2.2 c _ _ ht e1).1, zsh_n (T'.2.2 c _ _ (X c _ ht) e2).1]
    · unfold zvl
      rw [List.getElem?_eq_none (by omega), List.getElem?_eq_none (by omega)]
  exact Prod.ext e hl
/-- behind the first 219 cells there are laws alone -/
noncomputable def zLwt (ty : List Nat) : Prop := ∀ c t : Nat, 219 ≤ c → c % 6 ≠ 5 → ty[c]? = some t → 100 ≤ t
theorem zLwt.keep {ty ty' : List Nat} {h h' : zH} (L : zLwt ty) (T : zTY z_tt ty h) (T' : zTY z_tt ty' h') (X : zExt ty ty') (hl : h'.length = h.length) : zLwt ty' := fun c t h1 h2 ht => by
  have hc : c < ty.length := by
    have := (List.getElem?_eq_some_iff.mp ht).1
    rw [T'.1, hl, ← T.1] at this
    exact this
  have e : ty[c]? = some ty[c] := List.getElem?_eq_getElem hc
  have := X c _ e
  rw [ht] at this
  cases this
  exact L c _ h1 h2 e
noncomputable def zqOKm (m : zMod) : Bool := decide (m.1 < 100) && (!([1, 8, 9, 10, 11, 12, 13, 14, 16, 17, 18, 25].elem m.1) && ((decide (m.1 ≠ 20) || (decide (m.2.2 < 1) || ((decide (7 < m.2.1) && decide (m.2.2 < 14)) || ((decide (14 < m.2.1) && decide (m.2.2 < 17)) || decide (17 < m.2.1))))) && (decide (m.1 ≠ 21 ∧ m.1 ≠ 22) || decide (1236 < m.2.1))))
noncomputable def zqOK (ms : List zMod) : Bool := ms.all zqOKm
theorem zty1_c : (List.range 205).all (fun c => decide (c ≠ 0 ∧ c < 8) || [1, 8, 9, 10, 11, 12, 13, 14, 16, 17, 18].elem (zty1.getD c 0)) = true := by decide +kernel
theorem zv_out {h : zH} {c k : Nat} (hc : h.length ≤ c) : zv h c k = .null := by
  unfold zv
  rw [List.getElem?_eq_none hc]
theorem zHld.keep {ms : List zMod} {ty ty' : List Nat} {h h' : zH} (H : zHld (za h)) (T : zTY z_tt ty h) (T' : zTY z_tt ty' h') (X0 : zExt zty1 ty) (X : zExt ty ty') (L : zLwt ty) (F : zFm ms ty h h') (hl : h'.length = h.length) (hm : zqOK ms = true) : zHld (za h') := by
  obtain ⟨p, w, K, R⟩ := H
  have hok := fun m hm9 => List.all_eq_true.mp hm m hm9
  have no : ∀ t k, (100 ≤ t ∨ [1, 8, 9, 10, 11, 12, 13, 14, 16, 17, 18, 25].elem t = true) → ¬ zIn ms t k := by
    rintro t k ht ⟨m, hm9, m1, -⟩
    have := hok m hm9
    unfold zqOKm at this
    rw [Bool.and_eq_true, Bool.and_eq_true, decide_eq_true_eq, Bool.not_eq_true'] at this
    rw [m1] at this
    rcases ht with ht | ht
    · omega
    · rw [ht] at this
      exact absurd this.2.1 (by decide)
  have no20 : ∀ k, ((1 ≤ k ∧ k ≤ 7) ∨ k = 14 ∨ k = 17) → ¬ zIn ms 20 k := by
    rintro k hk ⟨m, hm9, m1, m2, m3⟩
    have := hok m hm9
    unfold zqOKm at this
    simp only [Bool.and_eq_true, Bool.or_eq_true, decide_eq_true_eq] at this
    omega
  have no21 : ∀ t k, t = 21 ∨ t = 22 → k < 1237 → ¬ zIn ms t k := by
    rintro t k ht hk ⟨m, hm9, m1, m2, m3⟩
    have := hok m hm9
    unfold zqOKm at this
    simp only [Bool.and_eq_true, Bool.or_eq_true, decide_eq_true_eq] at this
    omega
  refine ⟨p, w, K.fr (za2 T T' X hl) (fun c k hc => ?_), R.fr (fun c k hc => ?_)⟩
  · by_cases h205 : c < 205
    · have h1 := List.all_eq_true.mp zty1_c c (List.mem_range.mpr h205)
      rw [Bool.or_eq_true, decide_eq_true_eq] at h1
      have h2 : [1, 8, 9, 10, 11, 12, 13, 14, 16, 17, 18].elem (zty1.getD c 0) = true := h1.resolve_left (by unfold zCc at hc; omega)
      have hlen : c < zty1.length := by rw [show zty1.length = 219 from by decide +kernel]; omega
      have ht : ty[c]? = some (zty1.getD c 0) := X0 _ _ (by rw [List.getD_eq_getElem?_getD, List.getElem?_eq_getElem hlen]; rfl)
      refine zv_keep T T' F ht (no _ k (Or.inr ?_))
      have h3 := List.elem_iff.mp h2
      refine List.elem_iff.mpr ?_
      simp only [List.mem_cons, List.not_mem_nil, or_false] at h3 ⊢
      omega
    · have h3 : 219 ≤ c ∧ c % 6 ≠ 5 := by unfold zCc at hc; omega
      by_cases hb : c < h.length
      · have hc' : c < ty.length := by rw [T.1]; exact hb
        have ht : ty[c]? = some ty[c] := List.getElem?_eq_getElem hc'
        exact zv_keep T T' F ht (no _ k (Or.inl (L c _ h3.1 h3.2 ht)))
      · show zv h' c k = zv h c k
        rw [zv_out (by omega), zv_out (by omega)]
  · have t205 : ty[205]? = some 20 := X0 205 20 (by decide +kernel)
    have t206 : ty[206]? = some 21 := X0 206 21 (by decide +kernel)
    have t207 : ty[207]? = some 22 := X0 207 22 (by decide +kernel)
    have t210 : ty[210]? = some 25 := X0 210 25 (by decide +kernel)
    rcases hc with ⟨rfl, hk⟩ | ⟨rfl, hk⟩ | ⟨rfl, hk⟩ | rfl
    · exact zv_keep T T' F t205 (no20 k hk)
    · exact zv_keep T T' F t206 (no21 _ k (Or.inl rfl) hk)
    · exact zv_keep T T' F t207 (no21 _ k (Or.inr rfl) hk)
    · exact zv_keep T T' F t210 (no _ k (Or.inr (by decide)))
/-- the tape, as the readers of a deed want it -/
theorem zv_int {ty : List Nat} {h : zH} {c t n k : Nat} (T : zTY z_tt ty h) (ht : ty[c]? = some t) (hk : (z_tt t).1 = 1) (hn : (z_tt t).2.2.1 = n) (hkn : k < n) : ∃ x, zv h c k = .int x := by
  obtain ⟨f, he⟩ := zcell1 T ht hk hn
  exact ⟨f k, by rw [zv_at he, z_rd0, if_pos hkn]; rfl⟩
theorem zTpe_of {ty : List Nat} {h : zH} {E : Nat} (T : zTY z_tt ty h) (X : zExt zty1 ty) (S : zSkl h) (hE : E ≤ 400) (h1 : zv h 1 1 = .int (Int32.ofNat E)) (h9 : zv h 205 9 = .int (Int32.ofNat E)) (Y : zByq h) : zTpe (za h) (rb (za h) 205) E := by
  have p10 : zv h 1 0 = .ref 2 := S.at (1, 0, 2) (by decide +kernel)
  have q10 : q_r ((za h).1 1 0) = 2 := by show q_r (zv h 1 0) = 2; rw [p10]; rfl
  refine ⟨⟨by rw [q10]; decide, h1, hE, fun k => ⟨(Y k).1, (Y k).2.1⟩⟩, funext fun k => (Y k).2.2.symm, p10, S.at (205, 8, 211) (by decide +kernel), rfl, h9, hE, fun k hk => zv_int T (X 206 21 (by decide +kernel)) rfl (n := 2086) rfl (by omega)⟩
end
section
/-! a run of a method that makes no cells; printed with wip/gen/gen_dq.py -/
noncomputable def zBadj : List Nat := [7, 22, 41, 46, 48, 55, 61, 84, 100, 117, 121, 179, 314, 316, 343]
noncomputable def zNa (j : Nat) : Bool := !(zBadj.elem j)
noncomputable def zNai (i : zI) : Bool := decide (i.1 ≠ 47 ∧ i.1 ≠ 48 ∧ i.1 ≠ 49 ∧ i.1 ≠ 70) && (decide (i.1 ≠ 54 ∧ i.1 ≠ 55 ∧ i.1 ≠ 72 ∧ i.1 ≠ 56 ∧ i.1 ≠ 73) || zNa i.2.1)
theorem zNa_all : (List.range z_cs.length).all (fun j => zBadj.elem j || (z_cs.getD j []).all zNai) = true := by decide +kernel
noncomputable def zLnq (o : zNop) : Prop := ∀ (sx : zX) (d a b : Nat) (c : Int) (k : Nat) (l : zL) (st : List Value) (h : zH) (k' : Nat) (l' : zL) (st' : List Value) (h' : zH) (x y : Nat), o sx d a b c k l st h = some (k', l', st', h', x, y) → h'.length = h.length
theorem zlq0 {k k' : Nat} {l l' : zL} {st st' : List Value} {h h' : zH} {x y : Nat} (e : zn k l st h = some (k', l', st', h', x, y)) : h'.length = h.length := by
  obtain ⟨-, -, -, rfl, -⟩ := zn_inj e
  rfl
theorem zlq1 {k k' i : Nat} {l l' : zL} {st st' : List Value} {h h' : zH} {v : zE} {x y : Nat} (e : zn k l st (h.set i v) = some (k', l', st', h', x, y)) : h'.length = h.length := by
  obtain ⟨-, -, -, rfl, -⟩ := zn_inj e
  rw [List.length_set]
theorem zlq_no : zLnq z_no := fun _ _ _ _ _ _ _ _ _ _ _ _ _ _ _ e => by cases e
theorem zlq_const : zLnq zo_const := by
  intro sx d a b c k l st h k' l' st' h' x y e
  unfold zo_const at e
  repeat' split at e
  all_goals first
    | exact zlq0 e
    | exact zlq1 e
    | cases e
theorem zlq_iload : zLnq zo_iload := by
  intro sx d a b c k l st h k' l' st' h' x y e
  unfold zo_iload at e
  repeat' split at e
  all_goals first
    | exact zlq0 e
    | exact zlq1 e
    | cases e
theorem zlq_aload : zLnq zo_aload := by
  intro sx d a b c k l st h k' l' st' h' x y e
  unfold zo_aload at e
  repeat' split at e
  all_goals first
    | exact zlq0 e
    | exact zlq1 e
    | cases e
theorem zlq_lload : zLnq zo_lload := by
  intro sx d a b c k l st h k' l' st' h' x y e
  unfold zo_lload at e
  repeat' split at e
  all_goals first
    | exact zlq0 e
    | exact zlq1 e
    | cases e
theorem zlq_istore : zLnq zo_istore := by
  intro sx d a b c k l st h k' l' st' h' x y e
  unfold zo_istore at e
  repeat' split at e
  all_goals first
    | exact zlq0 e
    | exact zlq1 e
    | cases e
theorem zlq_astore : zLnq zo_astore := by
  intro sx d a b c k l st h k' l' st' h' x y e
  unfold zo_astore at e
  repeat' split at e
  all_goals first
    | exact zlq0 e
    | exact zlq1 e
    | cases e
theorem zlq_lstore : zLnq zo_lstore := by
  intro sx d a b c k l st h k' l' st' h' x y e
  unfold zo_lstore at e
  repeat' split at e
  all_goals first
    | exact zlq0 e
    | exact zlq1 e
    | cases e
theorem zlq_iinc : zLnq zo_iinc := by
  intro sx d a b c k l st h k' l' st' h' x y e
  unfold zo_iinc at e
  repeat' split at e
  all_goals first
    | exact zlq0 e
    | exact zlq1 e
    | cases e
theorem zlq_iadd : zLnq zo_iadd := by
  intro sx d a b c k l st h k' l' st' h' x y e
  unfold zo_iadd at e
  repeat' split at e
  all_goals first
    | exact zlq0 e
    | exact zlq1 e
    | cases e
theorem zlq_isub : zLnq zo_isub := by
  intro sx d a b c k l st h k' l' st' h' x y e
  unfold zo_isub at e
  repeat' split at e
  all_goals first
    | exact zlq0 e
    | exact zlq1 e
    | cases e
theorem zlq_imul : zLnq zo_imul := by
  intro sx d a b c k l st h k' l' st' h' x y e
  unfold zo_imul at e
  repeat' split at e
  all_goals first
    | exact zlq0 e
    | exact zlq1 e
    | cases e
theorem zlq_idiv : zLnq zo_idiv := by
  intro sx d a b c k l st h k' l' st' h' x y e
  unfold zo_idiv at e
  repeat' split at e
  all_goals first
    | exact zlq0 e
    | exact zlq1 e
    | cases e
theorem zlq_irem : zLnq zo_irem := by
  intro sx d a b c k l st h k' l' st' h' x y e
  unfold zo_irem at e
  repeat' split at e
  all_goals first
    | exact zlq0 e
    | exact zlq1 e
    | cases e
theorem zlq_ishl : zLnq zo_ishl := by
  intro sx d a b c k l st h k' l' st' h' x y e
  unfold zo_ishl at e
  repeat' split at e
  all_goals first
    | exact zlq0 e
    | exact zlq1 e
    | cases e
theorem zlq_ishr : zLnq zo_ishr := by
  intro sx d a b c k l st h k' l' st' h' x y e
  unfold zo_ishr at e
  repeat' split at e
  all_goals first
    | exact zlq0 e
    | exact zlq1 e
    | cases e
theorem zlq_iushr : zLnq zo_iushr := by
  intro sx d a b c k l st h k' l' st' h' x y e
  unfold zo_iushr at e
  repeat' split at e
  all_goals first
    | exact zlq0 e
    | exact zlq1 e
    | cases e
theorem zlq_iand : zLnq zo_iand := by
  intro sx d a b c k l st h k' l' st' h' x y e
  unfold zo_iand at e
  repeat' split at e
  all_goals first
    | exact zlq0 e
    | exact zlq1 e
    | cases e
theorem zlq_ior : zLnq zo_ior := by
  intro sx d a b c k l st h k' l' st' h' x y e
  unfold zo_ior at e
  repeat' split at e
  all_goals first
    | exact zlq0 e
    | exact zlq1 e
    | cases e
theorem zlq_ixor : zLnq zo_ixor := by
  intro sx d a b c k l st h k' l' st' h' x y e
  unfold zo_ixor at e
  repeat' split at e
  all_goals first
    | exact zlq0 e
    | exact zlq1 e
    | cases e
theorem zlq_i2l : zLnq zo_i2l := by
  intro sx d a b c k l st h k' l' st' h' x y e
  unfold zo_i2l at e
  repeat' split at e
  all_goals first
    | exact zlq0 e
    | exact zlq1 e
    | cases e
theorem zlq_l2i : zLnq zo_l2i := by
  intro sx d a b c k l st h k' l' st' h' x y e
  unfold zo_l2i at e
  repeat' split at e
  all_goals first
    | exact zlq0 e
    | exact zlq1 e
    | cases e
theorem zlq_i2b : zLnq zo_i2b := by
  intro sx d a b c k l st h k' l' st' h' x y e
  unfold zo_i2b at e
  repeat' split at e
  all_goals first
    | exact zlq0 e
    | exact zlq1 e
    | cases e
theorem zlq_ladd : zLnq zo_ladd := by
  intro sx d a b c k l st h k' l' st' h' x y e
  unfold zo_ladd at e
  repeat' split at e
  all_goals first
    | exact zlq0 e
    | exact zlq1 e
    | cases e
theorem zlq_lmul : zLnq zo_lmul := by
  intro sx d a b c k l st h k' l' st' h' x y e
  unfold zo_lmul at e
  repeat' split at e
  all_goals first
    | exact zlq0 e
    | exact zlq1 e
    | cases e
theorem zlq_ldiv : zLnq zo_ldiv := by
  intro sx d a b c k l st h k' l' st' h' x y e
  unfold zo_ldiv at e
  repeat' split at e
  all_goals first
    | exact zlq0 e
    | exact zlq1 e
    | cases e
theorem zlq_lconst : zLnq zo_lconst := by
  intro sx d a b c k l st h k' l' st' h' x y e
  unfold zo_lconst at e
  repeat' split at e
  all_goals first
    | exact zlq0 e
    | exact zlq1 e
    | cases e
theorem zlq_lcmp : zLnq zo_lcmp := by
  intro sx d a b c k l st h k' l' st' h' x y e
  unfold zo_lcmp at e
  repeat' split at e
  all_goals first
    | exact zlq0 e
    | exact zlq1 e
    | cases e
theorem zlq_dup : zLnq zo_dup := by
  intro sx d a b c k l st h k' l' st' h' x y e
  unfold zo_dup at e
  repeat' split at e
  all_goals first
    | exact zlq0 e
    | exact zlq1 e
    | cases e
theorem zlq_dup2 : zLnq zo_dup2 := by
  intro sx d a b c k l st h k' l' st' h' x y e
  unfold zo_dup2 at e
  repeat' split at e
  all_goals first
    | exact zlq0 e
    | exact zlq1 e
    | cases e
theorem zlq_pop : zLnq zo_pop := by
  intro sx d a b c k l st h k' l' st' h' x y e
  unfold zo_pop at e
  repeat' split at e
  all_goals first
    | exact zlq0 e
    | exact zlq1 e
    | cases e
theorem zlq_goto : zLnq zo_goto := by
  intro sx d a b c k l st h k' l' st' h' x y e
  unfold zo_goto at e
  repeat' split at e
  all_goals first
    | exact zlq0 e
    | exact zlq1 e
    | cases e
theorem zlq_if : zLnq zo_if := by
  intro sx d a b c k l st h k' l' st' h' x y e
  unfold zo_if at e
  repeat' split at e
  all_goals first
    | exact zlq0 e
    | exact zlq1 e
    | cases e
theorem zlq_icmp : zLnq zo_icmp := by
  intro sx d a b c k l st h k' l' st' h' x y e
  unfold zo_icmp at e
  repeat' split at e
  all_goals first
    | exact zlq0 e
    | exact zlq1 e
    | cases e
theorem zlq_ifnn : zLnq zo_ifnn := by
  intro sx d a b c k l st h k' l' st' h' x y e
  unfold zo_ifnn at e
  repeat' split at e
  all_goals first
    | exact zlq0 e
    | exact zlq1 e
    | cases e
theorem zlq_lald : zLnq zo_lald := by
  intro sx d a b c k l st h k' l' st' h' x y e
  unfold zo_lald at e
  repeat' split at e
  all_goals first
    | exact zlq0 e
    | exact zlq1 e
    | cases e
theorem zlq_tsw : zLnq zo_tsw := by
  intro sx d a b c k l st h k' l' st' h' x y e
  unfold zo_tsw at e
  repeat' split at e
  all_goals first
    | exact zlq0 e
    | exact zlq1 e
    | cases e
theorem zlq_lsw2 : zLnq zo_lsw2 := by
  intro sx d a b c k l st h k' l' st' h' x y e
  unfold zo_lsw2 at e
  repeat' split at e
  all_goals first
    | exact zlq0 e
    | exact zlq1 e
    | cases e
theorem zlq_get : zLnq zo_get := by
  intro sx d a b c k l st h k' l' st' h' x y e
  unfold zo_get at e
  repeat' split at e
  all_goals first
    | exact zlq0 e
    | exact zlq1 e
    | cases e
theorem zlq_put : zLnq zo_put := by
  intro sx d a b c k l st h k' l' st' h' x y e
  unfold zo_put at e
  repeat' split at e
  all_goals first
    | exact zlq0 e
    | exact zlq1 e
    | cases e
theorem zlq_iald : zLnq zo_iald := by
  intro sx d a b c k l st h k' l' st' h' x y e
  unfold zo_iald at e
  repeat' split at e
  all_goals first
    | exact zlq0 e
    | exact zlq1 e
    | cases e
theorem zlq_iast : zLnq zo_iast := by
  intro sx d a b c k l st h k' l' st' h' x y e
  unfold zo_iast at e
  repeat' split at e
  all_goals first
    | exact zlq0 e
    | exact zlq1 e
    | cases e
theorem zlq_bald : zLnq zo_bald := by
  intro sx d a b c k l st h k' l' st' h' x y e
  unfold zo_bald at e
  repeat' split at e
  all_goals first
    | exact zlq0 e
    | exact zlq1 e
    | cases e
theorem zlq_bast : zLnq zo_bast := by
  intro sx d a b c k l st h k' l' st' h' x y e
  unfold zo_bast at e
  repeat' split at e
  all_goals first
    | exact zlq0 e
    | exact zlq1 e
    | cases e
theorem zlq_last : zLnq zo_last := by
  intro sx d a b c k l st h k' l' st' h' x y e
  unfold zo_last at e
  repeat' split at e
  all_goals first
    | exact zlq0 e
    | exact zlq1 e
    | cases e
theorem zlq_aald : zLnq zo_aald := by
  intro sx d a b c k l st h k' l' st' h' x y e
  unfold zo_aald at e
  repeat' split at e
  all_goals first
    | exact zlq0 e
    | exact zlq1 e
    | cases e
theorem zlq_aast : zLnq zo_aast := by
  intro sx d a b c k l st h k' l' st' h' x y e
  unfold zo_aast at e
  repeat' split at e
  all_goals first
    | exact zlq0 e
    | exact zlq1 e
    | cases e
theorem zlq_alen : zLnq zo_alen := by
  intro sx d a b c k l st h k' l' st' h' x y e
  unfold zo_alen at e
  repeat' split at e
  all_goals first
    | exact zlq0 e
    | exact zlq1 e
    | cases e
theorem zlq_oinit : zLnq zo_oinit := by
  intro sx d a b c k l st h k' l' st' h' x y e
  unfold zo_oinit at e
  repeat' split at e
  all_goals first
    | exact zlq0 e
    | exact zlq1 e
    | cases e
theorem zlq_ldcs : zLnq zo_ldcs := by
  intro sx d a b c k l st h k' l' st' h' x y e
  unfold zo_ldcs at e
  repeat' split at e
  all_goals first
    | exact zlq0 e
    | exact zlq1 e
    | cases e
theorem zlq_slength : zLnq zo_slength := by
  intro sx d a b c k l st h k' l' st' h' x y e
  unfold zo_slength at e
  repeat' split at e
  all_goals first
    | exact zlq0 e
    | exact zlq1 e
    | cases e
theorem zlq_scharAt : zLnq zo_scharAt := by
  intro sx d a b c k l st h k' l' st' h' x y e
  unfold zo_scharAt at e
  repeat' split at e
  all_goals first
    | exact zlq0 e
    | exact zlq1 e
    | cases e
theorem zlq_acopy : zLnq zo_acopy := by
  intro sx d a b c k l st h k' l' st' h' x y e
  unfold zo_acopy at e
  repeat' split at e
  all_goals first
    | exact zlq0 e
    | exact zlq1 e
    | cases e
theorem zlq_null : zLnq zo_null := by
  intro sx d a b c k l st h k' l' st' h' x y e
  unfold zo_null at e
  repeat' split at e
  all_goals first
    | exact zlq0 e
    | exact zlq1 e
    | cases e
theorem zlq_sald : zLnq zo_sald := by
  intro sx d a b c k l st h k' l' st' h' x y e
  unfold zo_sald at e
  repeat' split at e
  all_goals first
    | exact zlq0 e
    | exact zlq1 e
    | cases e
theorem zlq_slen : zLnq zo_slen := by
  intro sx d a b c k l st h k' l' st' h' x y e
  unfold zo_slen at e
  repeat' split at e
  all_goals first
    | exact zlq0 e
    | exact zlq1 e
    | cases e
theorem zlq_min : zLnq zo_min := by
  intro sx d a b c k l st h k' l' st' h' x y e
  unfold zo_min at e
  repeat' split at e
  all_goals first
    | exact zlq0 e
    | exact zlq1 e
    | cases e
theorem zlq_max : zLnq zo_max := by
  intro sx d a b c k l st h k' l' st' h' x y e
  unfold zo_max at e
  repeat' split at e
  all_goals first
    | exact zlq0 e
    | exact zlq1 e
    | cases e
theorem zlq_cast : zLnq zo_cast := by
  intro sx d a b c k l st h k' l' st' h' x y e
  unfold zo_cast at e
  repeat' split at e
  all_goals first
    | exact zlq0 e
    | exact zlq1 e
    | cases e
theorem zlq_all : ∀ o, (o ≠ 47 ∧ o ≠ 48 ∧ o ≠ 49 ∧ o ≠ 70) → zLnq (z_ops.getD o z_no)
  | 0, _ => zlq_const
  | 1, _ => zlq_iload
  | 2, _ => zlq_aload
  | 3, _ => zlq_lload
  | 4, _ => zlq_istore
  | 5, _ => zlq_astore
  | 6, _ => zlq_lstore
  | 7, _ => zlq_iinc
  | 8, _ => zlq_iadd
  | 9, _ => zlq_isub
  | 10, _ => zlq_imul
  | 11, _ => zlq_idiv
  | 12, _ => zlq_irem
  | 13, _ => zlq_ishl
  | 14, _ => zlq_ishr
  | 15, _ => zlq_iushr
  | 16, _ => zlq_iand
  | 17, _ => zlq_ior
  | 18, _ => zlq_ixor
  | 19, _ => zlq_i2l
  | 20, _ => zlq_l2i
  | 21, _ => zlq_i2b
  | 22, _ => zlq_ladd
  | 23, _ => zlq_lmul
  | 24, _ => zlq_ldiv
  | 25, _ => zlq_lconst
  | 26, _ => zlq_lcmp
  | 27, _ => zlq_dup
  | 28, _ => zlq_dup2
  | 29, _ => zlq_pop
  | 30, _ => zlq_goto
  | 31, _ => zlq_if
  | 32, _ => zlq_icmp
  | 33, _ => zlq_ifnn
  | 34, _ => zlq_lald
  | 35, _ => zlq_tsw
  | 36, _ => zlq_lsw2
  | 37, _ => zlq_get
  | 38, _ => zlq_put
  | 39, _ => zlq_iald
  | 40, _ => zlq_iast
  | 41, _ => zlq_bald
  | 42, _ => zlq_bast
  | 43, _ => zlq_last
  | 44, _ => zlq_aald
  | 45, _ => zlq_aast
  | 46, _ => zlq_alen
  | 47, h => absurd rfl h.1
  | 48, h => absurd rfl h.2.1
  | 49, h => absurd rfl h.2.2.1
  | 50, _ => zlq_no
  | 51, _ => zlq_no
  | 52, _ => zlq_no
  | 53, _ => zlq_no
  | 54, _ => zlq_no
  | 55, _ => zlq_no
  | 56, _ => zlq_no
  | 57, _ => zlq_oinit
  | 58, _ => zlq_ldcs
  | 59, _ => zlq_slength
  | 60, _ => zlq_scharAt
  | 61, _ => zlq_acopy
  | 62, _ => zlq_no
  | 63, _ => zlq_null
  | 64, _ => zlq_no
  | 65, _ => zlq_sald
  | 66, _ => zlq_slen
  | 67, _ => zlq_min
  | 68, _ => zlq_max
  | 69, _ => zlq_no
  | 70, h => absurd rfl h.2.2.2
  | 71, _ => zlq_cast
  | n + 72, _ => zlq_no
theorem z_run_lenq (sx : zX) : ∀ (n d j k : Nat) (lo : zL) (st : List Value) (h : zH) (o : zO) (h' : zH) (x y : Nat), zNa j = true → z_run sx n d j k lo st h = some (o, h', x, y) → h'.length = h.length := by
  intro n
  induction n with
  | zero => intro d j k lo st h o h' x y _ hr; rw [z_run] at hr; cases hr
  | succ n ih =>
    intro d j k lo st h o h' x y hj hr
    rw [z_run] at hr
    cases hM : z_ms[j]? with
    | none => rw [hM] at hr; cases hr
    | some M =>
    cases hC : z_cs[j]? with
    | none => rw [hM, hC] at hr; cases hr
    | some cs =>
    cases hH : z_hs[j]? with
    | none => rw [hM, hC, hH] at hr; cases hr
    | some hs =>
    rw [hM, hC, hH] at hr
    dsimp only at hr
    cases hk : cs[k]? with
    | none => rw [hk] at hr; cases hr
    | some i =>
    have hno : zNai i = true := by
      have h1 := List.all_eq_true.mp zNa_all j (List.mem_range.mpr (List.getElem?_eq_some_iff.mp hC).1)
      unfold zNa at hj
      rw [Bool.not_eq_true'] at hj
      rw [hj, Bool.false_or, List.getD_eq_getElem?_getD, hC] at h1
      exact List.all_eq_true.mp h1 i (List.mem_of_getElem? hk)
    unfold zNai at hno
    rw [Bool.and_eq_true, Bool.or_eq_true, decide_eq_true_eq, decide_eq_true_eq] at hno
    obtain ⟨n1, n3⟩ := hno
    rw [hk] at hr
    dsimp only at hr
    cases hf : z_fin M i d st with
    | some w =>
      rw [hf] at hr
      obtain ⟨w1, w2, w3⟩ := w
      simp only [Option.some.injEq, Prod.mk.injEq] at hr
      obtain ⟨-, rfl, -⟩ := hr
      rfl
    | none =>
    rw [hf] at hr
    dsimp only at hr
    cases hc : z_cal i d st h with
    | some w =>
      obtain ⟨j', as, rest⟩ := w
      have hj' : zNa j' = true := by
        have e1 := (z_cal_in hc).1
        have e2 := z_cal_no e1
        have e3 : j' = i.2.1 := by
          clear hr
          unfold z_cal0 at e1
          repeat' split at e1
          all_goals first
            | (simp only [Option.some.injEq, Prod.mk.injEq] at e1; exact e1.1.symm)
            | cases e1
        rw [e3]
        rcases n3 with n3 | n3
        · omega
        · exact n3
      rw [hc] at hr
      dsimp only at hr
      cases hin : z_run sx n (d - 1) j' 0 (lv_args 0 as) [] h with
      | none => rw [hin] at hr; cases hr
      | some w =>
      obtain ⟨oi, h1, x1, y1⟩ := w
      rw [hin] at hr
      have k1 := ih _ _ _ _ _ _ _ _ _ _ hj' hin
      cases oi with
      | inl v =>
        dsimp only at hr
        obtain ⟨a, b, e1, e2, e3⟩ := z_mapadd hr
        have k2 := ih _ _ _ _ _ _ _ _ _ _ hj e1
        omega
      | inr E =>
        dsimp only at hr
        by_cases hi : i.1 = 54
        case neg => rw [if_neg hi] at hr; cases hr
        rw [if_pos hi] at hr
        cases hfd : hs.find? (fun q => q.2.2.2.2.1 == E) with
        | some q =>
          rw [hfd] at hr
          dsimp only at hr
          obtain ⟨a, b, e1, e2, e3⟩ := z_mapadd hr
          have k2 := ih _ _ _ _ _ _ _ _ _ _ hj e1
          omega
        | none =>
          rw [hfd] at hr
          dsimp only at hr
          split at hr
          · simp only [Option.some.injEq, Prod.mk.injEq] at hr
            obtain ⟨-, rfl, rfl, -⟩ := hr
            exact k1
          · cases hr
    | none =>
    rw [hc] at hr
    dsimp only at hr
    cases ho : (z_ops.getD i.1 z_no) sx d i.2.1 i.2.2.1 i.2.2.2 k lo st h with
    | none => rw [ho] at hr; cases hr
    | some w =>
    obtain ⟨k', lo', st', h1, x1, y1⟩ := w
    rw [ho] at hr
    dsimp only at hr
    have k1 := zlq_all i.1 n1 _ _ _ _ _ _ _ _ _ _ _ _ _ _ _ ho
    obtain ⟨a, b, e1, e2, e3⟩ := z_mapadd hr
    have k2 := ih _ _ _ _ _ _ _ _ _ _ hj e1
    omega
theorem z_ok.lenq {sx : zX} {d j k : Nat} {lo : zL} {st : List Value} {h : zH} {Ψ : zO → zH → Nat → Nat → Prop} (hj : zNa j = true) (H : z_ok sx d j k lo st h Ψ) : z_ok sx d j k lo st h (fun o h' x y => Ψ o h' x y ∧ h'.length = h.length) := by
  obtain ⟨n, o, h', x, y, e, q⟩ := H
  exact ⟨n, o, h', x, y, e, q, z_run_lenq sx n d j k lo st h o h' x y hj e⟩
end
section
/-! the new law's cells: their types, and how many there are -/
theorem zpt {ty : List Nat} {h : zH} {c t k r q : Nat} {a b lo hi : Int} (T : zTY z_tt ty h) (ht : ty[c]? = some t) (hv : zv h c k = .ref r) (hq : q = 2 ∨ q = 3) (hr : (a, b, (q, lo, hi)) ∈ (z_tt t).2.2.2) (h1 : a ≤ (k : Int)) (h2 : (k : Int) ≤ b) : ∃ t', ty[r]? = some t' ∧ lo ≤ (t' : Int) ∧ (t' : Int) ≤ hi := by
  obtain ⟨e, he, hs, hG⟩ := zcell T ht
  rw [zv_at he] at hv
  cases hz : z_rd e k with
  | none => rw [hz] at hv; cases hv
  | some v =>
    rw [hz] at hv
    have hv : v = .ref r := hv
    subst hv
    have g := hG k _ hz _ hr h1 h2
    rcases hq with rfl | rfl
    · obtain ⟨i, t', e1, e2, e3, e4⟩ := g
      cases e1
      exact ⟨t', e2, e3, e4⟩
    · rcases g with g | ⟨i, t', e1, e2, e3, e4⟩
      · cases g
      · cases e1
        exact ⟨t', e2, e3, e4⟩
theorem ztt100b {t : Nat} (h1 : 100 ≤ t) (h2 : t ≤ 112) : (z_tt t).2.2.2 = [(0, 0, (0, ((t - 100 : Nat) : Int), ((t - 100 : Nat) : Int))), (1, 2, (2, ((t + 40 : Nat) : Int), ((t + 40 : Nat) : Int))), (3, 3, (2, ((t + 20 : Nat) : Int), ((t + 20 : Nat) : Int))), (4, 4, (2, 1000, 1400)), (5, 5, (2, 34, 34))] := by
  unfold z_tt
  rw [if_neg (by omega), if_pos ⟨h1, h2⟩]
theorem zlaw_new {ty ty1 : List Nat} {h h1 : zH} {k : Int32} {E : Nat} {bt : Nat → Int} (T : zTY z_tt ty h) (T1 : zTY z_tt ty1 h1) (X0 : zExt zty1 ty) (X : zExt ty ty1) (L0 : zLwt ty) (hm : h.length % 6 = 3) (hl : h1.length ≤ h.length + 6) (Q : cLw (za h) 0 1 3 8 47 7 4 5 6 2 bt E) (G1 : p_316w 0 218 (za h) k (za h1)) : zLwt ty1 ∧ (k.toInt = 0 → (za h1).2.2 = (za h).2.2 + 6 ∧ (za h1).2.1 ((za h).2.2 + 2) = 32) := by
  obtain ⟨e, τ, ⟨g, gw⟩, alts⟩ := G1
  obtain ⟨f, -, Rs, hR, xo⟩ := g 1 3 8 47 7 4 5 6 2 bt E Q
  cases Rs with
  | inr F =>
    obtain ⟨rfl, x1, x2, x3⟩ := xo
    rcases alts with ⟨v, q, -, -⟩ | ⟨-, r1, r2⟩
    · cases q
    · have hl' : h1.length = h.length := by
        have e1 : (za h1).2.2 = (za h).2.2 := by rw [r2]; exact x3
        exact e1
      exact ⟨L0.keep T T1 X hl', fun q => by rw [r1] at q; exact absurd q (by decide)⟩
  | inl q =>
    obtain ⟨ls, l⟩ := q
    obtain ⟨rfl, x1, x2, x3, x4, x5, y0, y1, y2, y3, y4, y5, -⟩ := xo
    rcases alts with ⟨v, q, r1, r2⟩ | ⟨q, -, -⟩
    case inr => cases q
    have hL : 219 ≤ h.length := by
      rw [← T.1]
      exact (List.getElem?_eq_some_iff.mp (X0 218 33 (by decide +kernel))).1
    have hv : ∀ c q, c ≠ 218 → zv h1 c q = τ.1 c q := fun c q hc => by
      have e1 : (za h1).1 c q = τ.1 c q := by rw [r2]; exact q_w_ne (fun e _ => hc e)
      exact e1
    obtain ⟨tL, a1, a2, a3⟩ := zpt (q := 3) (a := 5) (b := 5) (lo := 100) (hi := 112) T1 (X _ _ (X0 8 8 (by decide +kernel))) ((hv 8 5 (by omega)).trans x4) (Or.inr rfl) (by decide +kernel) (by decide) (by decide)
    have tt := ztt100b (t := tL) (by omega) (by omega)
    have hs : ((za h).2.2 : Nat) = h.length := rfl
    rw [hs] at a1 y1 y2 y3 y4 y5
    obtain ⟨t3, b1, b2, b3⟩ := zpt (q := 2) (a := 1) (b := 2) (lo := ((tL + 40 : Nat) : Int)) (hi := ((tL + 40 : Nat) : Int)) T1 a1 ((hv _ 1 (by omega)).trans y1) (Or.inl rfl) (by rw [tt]; simp) (by decide) (by decide)
    obtain ⟨t4, c1, c2, c3⟩ := zpt (q := 2) (a := 1) (b := 2) (lo := ((tL + 40 : Nat) : Int)) (hi := ((tL + 40 : Nat) : Int)) T1 a1 ((hv _ 2 (by omega)).trans y2) (Or.inl rfl) (by rw [tt]; simp) (by decide) (by decide)
    obtain ⟨t5, d1, d2, d3⟩ := zpt (q := 2) (a := 3) (b := 3) (lo := ((tL + 20 : Nat) : Int)) (hi := ((tL + 20 : Nat) : Int)) T1 a1 ((hv _ 3 (by omega)).trans y3) (Or.inl rfl) (by rw [tt]; simp) (by decide) (by decide)
    obtain ⟨t1, g1, g2, g3⟩ := zpt (q := 2) (a := 4) (b := 4) (lo := 1000) (hi := 1400) T1 a1 ((hv _ 4 (by omega)).trans y4) (Or.inl rfl) (by rw [tt]; simp) (by decide) (by decide)
    obtain ⟨t2, i1, i2, i3⟩ := zpt (q := 2) (a := 5) (b := 5) (lo := 34) (hi := 34) T1 a1 ((hv _ 5 (by omega)).trans y5) (Or.inl rfl) (by rw [tt]; simp) (by decide) (by decide)
    have l5 : h.length + 5 < h1.length := by
      rw [← T1.1]
      exact (List.getElem?_eq_some_iff.mp d1).1
    have e2 : t2 = 34 := by omega
    subst e2
    refine ⟨fun c t q1 q2 ht => ?_, fun _ => ⟨(show h1.length = h.length + 6 by omega), zvl_of T1 i1 rfl rfl⟩⟩
    by_cases hc : c < h.length
    · have hc' : c < ty.length := by rw [T.1]; exact hc
      have e : ty[c]? = some ty[c] := List.getElem?_eq_getElem hc'
      have := X c _ e
      rw [ht] at this
      cases this
      exact L0 c _ q1 q2 e
    · have hc1 : c < h1.length := by
        rw [← T1.1]
        exact (List.getElem?_eq_some_iff.mp ht).1
      have h5 : c = h.length ∨ c = h.length + 1 ∨ c = h.length + 3 ∨ c = h.length + 4 ∨ c = h.length + 5 := by omega
      rcases h5 with rfl | rfl | rfl | rfl | rfl
      · rw [a1] at ht; cases ht; omega
      · rw [g1] at ht; cases ht; omega
      · rw [b1] at ht; cases ht; omega
      · rw [c1] at ht; cases ht; omega
      · rw [d1] at ht; cases ht; omega
end
section
/-! THE LAW: what holds at its loop's head, and its steps; printed with wip/gen/gen_law.py -/
theorem zJ_343 : zJ3 343 z_m343 z_c343 z_h343 := ⟨rfl, rfl, rfl⟩
theorem zJ_344 : zJ3 344 z_m344 z_c344 z_h344 := ⟨rfl, rfl, rfl⟩
noncomputable def zLxt (ty : List Nat) (h : zH) (ax am ao : Nat) : Prop := (ax = 0 ∧ am = 205 ∧ ao = 218) ∧ zExt zty1 ty ∧ zSkl h ∧ zByq h
theorem zLxt.keep {ms : List zMod} {ty ty' : List Nat} {h h' : zH} {ax am ao : Nat} (L : zLxt ty h ax am ao) (T : zTY z_tt ty h) (T' : zTY z_tt ty' h') (X : zExt ty ty') (F : zFm ms ty h h') (hm : (zskOK ms && zby3 ms) = true) : zLxt ty' h' ax am ao := by
  obtain ⟨c, X0, S, Y⟩ := L
  rw [Bool.and_eq_true] at hm
  have S' := S.keep T T' F X0 hm.1
  exact ⟨c, fun a t ha => X a t (X0 a t ha), S', Y.keep S S' T T' F X0 hm.2⟩
theorem zcell3 {ty : List Nat} {h : zH} {a t n : Nat} (T : zTY z_tt ty h) (ht : ty[a]? = some t) (hk : (z_tt t).1 = 3) (hn : (z_tt t).2.2.1 = n) : ∃ f : Nat → Int64, h[a]? = some (.inl (2, (n, .inr (.inl f)))) := by
  obtain ⟨e, he, hs, -⟩ := zcell T ht
  obtain ⟨f, rfl⟩ := zsh3 hs hk
  exact ⟨f, by rw [he, hn]⟩
theorem zthr {sx : zX} {d a : Nat} {h : zH} {fs : List Value} {t : Int32} (he : h[a]? = some (.inr (9, fs))) (hf : fs[0]? = some (.int t)) : z_ok sx d 344 0 (lv_args 0 [.ref a]) [] h (fun o h' x y => o = .inl (some (.int t)) ∧ h' = h ∧ x = 0 ∧ y = 0) := by
  refine zh_ald zJ_344 (a := 0) (b := 0) (z := 0) rfl (k' := 1) rfl rfl ?_
  refine zh_get zJ_344 (z := 0) rfl (k' := 2) rfl he hf ?_
  exact zh_iret zJ_344 (a := 0) (b := 0) (z := 0) rfl (Or.inl rfl) ⟨rfl, rfl, rfl, rfl⟩
theorem zlg_self (x : Int64) : z_cmp 0 (lg_cmp x x) 0 = true := by
  have e : lg_cmp x x = 0 := by
    unfold lg_cmp
    rw [if_neg (fun h => Int64.lt_irrefl h), if_pos rfl]
  rw [e]
  rfl
noncomputable def zIvw (ty : List Nat) (h : zH) (ax am ao : Nat) (N : Int) : Prop := zTY z_tt ty h ∧ zE1 ty h ∧ ty[ax]? = some 1 ∧ ty[am]? = some 20 ∧ ty[ao]? = some 33 ∧ zTp ty h ax N ∧ zMp h am N ∧ 0 ≤ N ∧ N ≤ 400 ∧ zLxt ty h ax am ao ∧ zLwt ty
noncomputable def zIw (ty : List Nat) (h : zH) (ax am ao : Nat) (N : Int) : Prop := zTY z_tt ty h ∧ zE1 ty h ∧ ty[ax]? = some 1 ∧ ty[am]? = some 20 ∧ ty[ao]? = some 33 ∧ zTp ty h ax N ∧ zMp h am N ∧ 0 ≤ N ∧ N ≤ 400 ∧ zLxt ty h ax am ao ∧ zLwt ty ∧ zHld (za h)
noncomputable def zLv (lo : zL) (ax am ao i : Nat) : Prop := z_get lo 0 = some (.ref zS) ∧ z_get lo 1 = some (.ref ax) ∧ z_get lo 2 = some (.ref am) ∧ z_get lo 3 = some (.ref ao) ∧ ∃ x : Int32, z_get lo 4 = some (.int x) ∧ x.toInt = (i : Int)
theorem zIw.v {ty : List Nat} {h : zH} {ax am ao : Nat} {N : Int} (I : zIw ty h ax am ao N) : zIvw ty h ax am ao N := ⟨I.1, I.2.1, I.2.2.1, I.2.2.2.1, I.2.2.2.2.1, I.2.2.2.2.2.1, I.2.2.2.2.2.2.1, I.2.2.2.2.2.2.2.1, I.2.2.2.2.2.2.2.2.1, I.2.2.2.2.2.2.2.2.2.1, I.2.2.2.2.2.2.2.2.2.2.1⟩
theorem zIvw.w {ty : List Nat} {h : zH} {ax am ao : Nat} {N : Int} (I : zIvw ty h ax am ao N) (H : zHld (za h)) : zIw ty h ax am ao N := ⟨I.1, I.2.1, I.2.2.1, I.2.2.2.1, I.2.2.2.2.1, I.2.2.2.2.2.1, I.2.2.2.2.2.2.1, I.2.2.2.2.2.2.2.1, I.2.2.2.2.2.2.2.2.1, I.2.2.2.2.2.2.2.2.2.1, I.2.2.2.2.2.2.2.2.2.2, H⟩
theorem zIw.lx {ty : List Nat} {h : zH} {ax am ao : Nat} {N : Int} (I : zIw ty h ax am ao N) : zLxt ty h ax am ao := I.2.2.2.2.2.2.2.2.2.1
theorem zIw.lt {ty : List Nat} {h : zH} {ax am ao : Nat} {N : Int} (I : zIw ty h ax am ao N) : zLwt ty := I.2.2.2.2.2.2.2.2.2.2.1
theorem zIw.hd {ty : List Nat} {h : zH} {ax am ao : Nat} {N : Int} (I : zIw ty h ax am ao N) : zHld (za h) := I.2.2.2.2.2.2.2.2.2.2.2
theorem zIw.b2 {ty : List Nat} {h : zH} {ax am ao : Nat} {N : Int} (I : zIw ty h ax am ao N) : N ≤ 400 := I.2.2.2.2.2.2.2.2.1
theorem zIvw.keep {ms : List zMod} {ty ty' : List Nat} {h h' : zH} {ax am ao : Nat} {N : Int} (I : zIvw ty h ax am ao N) (X : zExt ty ty') (T' : zTY z_tt ty' h') (E' : zE1 ty' h') (F : zFm ms ty h h') (n1 : ¬ zIn ms 1 0) (n2 : ¬ zIn ms 2 1) (n3 : ¬ zIn ms 20 9) (n4 : (zskOK ms && zby3 ms) = true) (hl : h'.length = h.length) : zIvw ty' h' ax am ao N := by
  obtain ⟨T, E, ha, hm, ho, P, Q, b1, b2, L, Lt⟩ := I
  exact ⟨T', E', X ax 1 ha, X am 20 hm, X ao 33 ho, P.keep ha T' X F n1 n2, Q.keep hm T' X F n3, b1, b2, L.keep T T' X F n4, Lt.keep T T' X hl⟩
theorem zIw.keep {ms : List zMod} {ty ty' : List Nat} {h h' : zH} {ax am ao : Nat} {N : Int} (I : zIw ty h ax am ao N) (X : zExt ty ty') (T' : zTY z_tt ty' h') (E' : zE1 ty' h') (F : zFm ms ty h h') (n1 : ¬ zIn ms 1 0) (n2 : ¬ zIn ms 2 1) (n3 : ¬ zIn ms 20 9) (n4 : (zskOK ms && zby3 ms) = true) (hl : h'.length = h.length) (n5 : zqOK ms = true) : zIw ty' h' ax am ao N := (I.v.keep X T' E' F n1 n2 n3 n4 hl).w (I.hd.keep I.1 T' I.lx.2.1 X I.lt F hl n5)
theorem zLv.set {lo : zL} {ax am ao i b : Nat} {v : Int32} (L : zLv lo ax am ao i) (hb : 4 < b) : zLv (z_set1 lo b (.int v)) ax am ao i := by
  obtain ⟨g0, g1, g2, g3, x, g4, ex⟩ := L
  exact ⟨zget_set1_ne g0 (by omega) rfl, zget_set1_ne g1 (by omega) rfl, zget_set1_ne g2 (by omega) rfl, zget_set1_ne g3 (by omega) rfl, x, zget_set1_ne g4 (by omega) rfl, ex⟩
section ZLW
variable {sx : zX} {d k : Nat} {lo : zL} {st rest : List Value} {h : zH} {Ψ : zO → zH → Nat → Nat → Prop} {ax am ao i : Nat}
theorem zcal72 {j' n : Nat} {c : Int} {xs : List Value} {M' : zMi} (hd : 0 < d) (hst : st = xs ++ rest) (hx : xs.length = n) (hz : z_cat rest ≤ 8) (hM : z_ms[j']? = some M') (hl : (lg_sl xs.reverse).length ≤ M'.2.2.2.1) : z_cal (72, j', n, c) d st h = some (j', xs.reverse, rest) := by
  subst hst
  have h0 : z_cal0 (72, j', n, c) d (xs ++ rest) h = some (j', xs.reverse, rest) := by
    unfold z_cal0
    have e1 : ¬ (d = 0 ∨ (xs ++ rest).length < n) := by
      rw [List.length_append]
      omega
    have e2 : (xs ++ rest).drop n = rest := by rw [← hx]; exact List.drop_left
    have e3 : (xs ++ rest).take n = xs := by rw [← hx]; exact List.take_left
    dsimp only
    rw [if_neg e1, e2, e3, if_pos hz]
    rfl
  unfold z_cal
  rw [h0]
  dsimp only
  rw [hM]
  dsimp only
  rw [if_pos hl]
/-- a number of the script -/
theorem zscr (k k1 k2 k3 k4 k5 : Nat) {m : Int} (M : Nat) (i0 : z_c343[k]? = some (2, 0, 0, 0)) (i1 : z_c343[k1]? = some (1, 4, 0, 0)) (i2 : z_c343[k2]? = some (0, 0, 0, m)) (i3 : z_c343[k3]? = some (8, 0, 0, 0)) (i4 : z_c343[k4]? = some (65, 0, 0, 0)) (e1 : k + 1 = k1) (e2 : k1 + 1 = k2) (e3 : k2 + 1 = k3) (e4 : k3 + 1 = k4) (e5 : k4 + 1 = k5) (em : m = (M : Int)) (hm : M ≤ 5) (Lv : zLv lo ax am ao i) (hi : i + 6 ≤ sx.1) (hL : sx.1 ≤ 3072) (kk : ∀ v : Int32, v = sx.2 (i + M) → z_ok sx d 343 k5 lo (.int v :: st) h Ψ) : z_ok sx d 343 k lo st h Ψ := by
  obtain ⟨g0, -, -, -, x, g4, ex⟩ := Lv
  refine zh_ald zJ_343 i0 e1 g0 ?_
  refine zh_ild zJ_343 i1 e2 g4 ?_
  refine zh zJ_343 i2 rfl (k' := k3) (lo' := lo) (st' := .int (Int32.ofInt m) :: .int x :: .ref zS :: st) (h' := h) (by rw [← e3]; rfl) ?_
  refine zh zJ_343 i3 rfl (k' := k4) (lo' := lo) (st' := .int (x + Int32.ofInt m) :: .ref zS :: st) (h' := h) (by rw [← e4]; rfl) ?_
  have ei : (x + Int32.ofInt m).toInt = ((i + M : Nat) : Int) := by
    rw [zI_add ex (zI_c (by omega) (by omega)) (by omega) (by omega)]
    omega
  refine zh zJ_343 i4 rfl (k' := k5) (lo' := lo) (st' := .int (sx.2 (i + M)) :: st) (h' := h) ?_ (kk _ rfl)
  show zo_sald sx d 0 0 0 k4 lo (.int (x + Int32.ofInt m) :: .ref zS :: st) h = _
  unfold zo_sald
  dsimp only
  rw [if_pos ⟨rfl, (z_inn (by omega) (by omega)).1⟩, znat ei, e5]
/-- a truth value -/
theorem zboo (k k1 k2 k3 k4 : Nat) {u : Int32} (i0 : z_c343[k]? = some (31, k3, 0, 0)) (i1 : z_c343[k1]? = some (0, 0, 0, 1)) (i2 : z_c343[k2]? = some (30, k4, 0, 0)) (i3 : z_c343[k3]? = some (0, 0, 0, 0)) (e1 : k + 1 = k1) (e2 : k1 + 1 = k2) (e4 : k3 + 1 = k4) (kk : ∀ v : Int32, (0 ≤ v.toInt ∧ v.toInt ≤ 1) → v = (if z_cmp 0 u 0 = true then Int32.ofInt 0 else Int32.ofInt 1) → z_ok sx d 343 k4 lo (.int v :: st) h Ψ) : z_ok sx d 343 k lo (.int u :: st) h Ψ := by
  refine zh_if zJ_343 i0 (fun q => ?_) (fun q => ?_)
  · exact zh zJ_343 i3 rfl (k' := k4) (lo' := lo) (st' := .int (Int32.ofInt 0) :: st) (h' := h) (by rw [← e4]; rfl) (kk _ (by decide) (if_pos q).symm)
  · rw [e1]
    refine zh zJ_343 i1 rfl (k' := k2) (lo' := lo) (st' := .int (Int32.ofInt 1) :: st) (h' := h) (by rw [← e2]; rfl) ?_
    exact zh zJ_343 i2 rfl (k' := k4) (lo' := lo) (st' := .int (Int32.ofInt 1) :: st) (h' := h) rfl (kk _ (by decide) (if_neg q).symm)
/-- a call whose run is known, with what it costs -/
theorem zlrun {k' j' : Nat} {as : List Value} {i : zI} {Φ : zO → zH → Nat → Nat → Prop} (hi : z_c343[k]? = some i) (hk : k + 1 = k') (hn : i.1 ≠ 50 ∧ i.1 ≠ 51 ∧ i.1 ≠ 52 ∧ i.1 ≠ 53 ∧ i.1 ≠ 62) (hc : z_cal i d st h = some (j', as, rest)) (R : z_ok sx (d - 1) j' 0 (lv_args 0 as) [] h Φ) (kk : ∀ o h' x y, Φ o h' x y → h'.length ≤ h.length + x → ∃ v, o = .inl v ∧ z_ok sx d 343 k' lo (v.toList ++ rest) h' (fun o h9 a b => Ψ o h9 (a + x) (b + y))) : z_ok sx d 343 k lo st h Ψ := by
  refine z_ok.call zJ_343.1 zJ_343.2.1 zJ_343.2.2 hi (z_fin_no hn) hc (z_ok.imp (z_ok.len R) (fun o h' x y q => ?_))
  obtain ⟨v, rfl, h9⟩ := kk o h' x y q.1 q.2
  rw [← hk] at h9
  exact h9
/-- a call by a contract that answers an int, or nothing -/
theorem zlcon {ty : List Nat} {N : Int} {k' j' : Nat} {as : List Value} {i : zI} {ct : zCt} (I : zIw ty h ax am ao N) (hi : z_c343[k]? = some i) (hk : k + 1 = k') (hn : i.1 ≠ 50 ∧ i.1 ≠ 51 ∧ i.1 ≠ 52 ∧ i.1 ≠ 53 ∧ i.1 ≠ 62) (hc : z_cal i d st h = some (j', as, rest)) (V : zVd z_tt zE1 ct) (hj : zcJ ct = j') (hd : zcD ct + 1 ≤ d) (he : zcE ct = []) (hno : (zcM ct).all (fun m => decide (m.1 ≠ 1 ∨ (0 : Int) < m.2.1) && (decide (m.1 ≠ 2 ∨ (1 : Int) < m.2.1) && decide (m.1 ≠ 20 ∨ (9 : Int) < m.2.1 ∨ m.2.2 < (9 : Int)))) = true) (hn4 : (zskOK (zcM ct) && zby3 (zcM ct)) = true) (hn5 : zqOK (zcM ct) = true) (hna : zNa j' = true) (hA : zAg ty (zcA ct) as) (kk : ∀ ty' h' v x y, zIw ty' h' ax am ao N → zRt ty' (zcR ct) v → x ≤ (zcK ct).1 → y ≤ (zcK ct).2.1 → h'.length ≤ h.length + x → z_ok sx d 343 k' lo (v.toList ++ rest) h' (fun o h9 a b => Ψ o h9 (a + x) (b + y))) : z_ok sx d 343 k lo st h Ψ := by
  subst hj
  refine zlrun hi hk hn hc (z_ok.lenq hna (V sx (d - 1) ty h as (by omega) I.1 I.2.1 hA)) (fun o h' x y q hl => ?_)
  obtain ⟨⟨ty', q1, q2, q3, q4, q5⟩, hq⟩ := q
  have key := List.all_eq_true.mp hno
  have nin : ∀ t i : Nat, (t = 1 ∧ i = 0) ∨ (t = 2 ∧ i = 1) ∨ (t = 20 ∧ i = 9) → ¬ zIn (zcM ct) t i := by
    rintro t i ht ⟨m, hm, m1, m2, m3⟩
    have := key m hm
    simp only [Bool.and_eq_true, decide_eq_true_eq] at this
    omega
  cases o with
  | inl v =>
    obtain ⟨q5, q6, q7⟩ := q5
    exact ⟨v, rfl, kk ty' h' v x y (I.keep q1 q2 q3 q4 (nin 1 0 (Or.inl ⟨rfl, rfl⟩)) (nin 2 1 (Or.inr (Or.inl ⟨rfl, rfl⟩))) (nin 20 9 (Or.inr (Or.inr ⟨rfl, rfl⟩))) hn4 hq hn5) q5 q6 q7 hl⟩
  | inr e =>
    rw [he] at q5
    exact absurd q5.1 List.not_mem_nil
theorem zlcq {ty : List Nat} {N : Int} {k' j' : Nat} {as : List Value} {i : zI} {ct : zCt} {P : zPp} (I : zIvw ty h ax am ao N) (hi : z_c343[k]? = some i) (hk : k + 1 = k') (hn : i.1 ≠ 50 ∧ i.1 ≠ 51 ∧ i.1 ≠ 52 ∧ i.1 ≠ 53 ∧ i.1 ≠ 62) (hc : z_cal i d st h = some (j', as, rest)) (V : zVd z_tt zE1 ct) (hj : zcJ ct = j') (hd : zcD ct + 1 ≤ d) (he : zcE ct = []) (hno : (zcM ct).all (fun m => decide (m.1 ≠ 1 ∨ (0 : Int) < m.2.1) && (decide (m.1 ≠ 2 ∨ (1 : Int) < m.2.1) && decide (m.1 ≠ 20 ∨ (9 : Int) < m.2.1 ∨ m.2.2 < (9 : Int)))) = true) (hn4 : (zskOK (zcM ct) && zby3 (zcM ct)) = true) (hna : zNa j' = true) (hA : zAg ty (zcA ct) as) (S : zEe sx j' as.length P) (hq1 : q_c1 as = true) (kk : ∀ ty' h' v x y, zIvw ty' h' ax am ao N → zRt ty' (zcR ct) v → P as (za h) (.inl v) (za h') → x ≤ (zcK ct).1 → y ≤ (zcK ct).2.1 → h'.length ≤ h.length + x → z_ok sx d 343 k' lo (v.toList ++ rest) h' (fun o h9 a b => Ψ o h9 (a + x) (b + y))) : z_ok sx d 343 k lo st h Ψ := by
  subst hj
  refine zlrun hi hk hn hc (z_ok.lenq hna (S.ok (zTY_kh I.1) rfl hq1 (V sx (d - 1) ty h as (by omega) I.1 I.2.1 hA))) (fun o h' x y q hl => ?_)
  obtain ⟨⟨⟨ty', q1, q2, q3, q4, q5⟩, -, g⟩, hq⟩ := q
  have key := List.all_eq_true.mp hno
  have nin : ∀ t i : Nat, (t = 1 ∧ i = 0) ∨ (t = 2 ∧ i = 1) ∨ (t = 20 ∧ i = 9) → ¬ zIn (zcM ct) t i := by
    rintro t i ht ⟨m, hm, m1, m2, m3⟩
    have := key m hm
    simp only [Bool.and_eq_true, decide_eq_true_eq] at this
    omega
  cases o with
  | inl v =>
    obtain ⟨q5, q6, q7⟩ := q5
    exact ⟨v, rfl, kk ty' h' v x y (I.keep q1 q2 q3 q4 (nin 1 0 (Or.inl ⟨rfl, rfl⟩)) (nin 2 1 (Or.inr (Or.inl ⟨rfl, rfl⟩))) (nin 20 9 (Or.inr (Or.inr ⟨rfl, rfl⟩))) hn4 hq) q5 g q6 q7 hl⟩
  | inr e =>
    rw [he] at q5
    exact absurd q5.1 List.not_mem_nil
noncomputable def zKc (sx : zX) (d ax am ao i : Nat) (h : zH) (Ψ : zO → zH → Nat → Nat → Prop) : Prop := ∀ (ty' : List Nat) (lo' : zL) (h' : zH) (N' : Int) (x y : Nat), zIw ty' h' ax am ao N' → zLv lo' ax am ao i → x ≤ 7 → y ≤ 1000 → h'.length ≤ h.length + x → z_ok sx d 343 936 lo' [] h' (fun o h9 a b => Ψ o h9 (a + x) (b + y))
theorem zKc.use {ty' : List Nat} {lo' : zL} {h' : zH} {N' : Int} {x1 y1 x2 y2 : Nat} (K : zKc sx d ax am ao i h Ψ) (I : zIw ty' h' ax am ao N') (Lv : zLv lo' ax am ao i) (hx : x2 + x1 ≤ 7) (hy : y2 + y1 ≤ 1000) (hl : h'.length ≤ h.length + (x2 + x1)) : z_ok sx d 343 936 lo' [] h' (fun o h9 a b => (fun o h9 a b => Ψ o h9 (a + x1) (b + y1)) o h9 (a + x2) (b + y2)) :=
  z_ok.imp (K ty' lo' h' N' (x2 + x1) (y2 + y1) I Lv hx hy hl) (fun o h9 a b q => by
    show Ψ o h9 (a + x2 + x1) (b + y2 + y1)
    rw [Nat.add_assoc, Nat.add_assoc]
    exact q)
theorem zgoto {k' : Nat} (hi : z_c343[k]? = some (30, k', 0, 0)) (kk : z_ok sx d 343 k' lo st h Ψ) : z_ok sx d 343 k lo st h Ψ := zh zJ_343 hi rfl (k' := k') (lo' := lo) (st' := st) (h' := h) rfl kk
theorem zpop {k' : Nat} {v : Int32} (hi : z_c343[k]? = some (29, 0, 0, 0)) (hk : k + 1 = k') (kk : z_ok sx d 343 k' lo st h Ψ) : z_ok sx d 343 k lo (.int v :: st) h Ψ := zh zJ_343 hi rfl (k' := k') (lo' := lo) (st' := st) (h' := h) (by rw [← hk]; rfl) kk
end ZLW
end
