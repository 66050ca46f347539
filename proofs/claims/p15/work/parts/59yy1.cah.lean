section
/-! what the class sees of hours ahead, exact; printed with wip/gen/gen_dk.py -/
noncomputable def xDr (σ σ' : zSg) : Prop := σ'.2 = σ.2 ∧ ∀ c k, ¬ (21 ≤ c ∧ c ≤ 33) → ¬ (219 ≤ c ∧ c % 6 = 5) → σ'.1 c k = σ.1 c k
noncomputable def xDp (σ : zSg) (A : Nat → Int32) (nf nt : Nat) (Lo : Option (Nat × List gLn4 × zSs)) : Prop := xSk σ ∧ hH σ 8 A ∧ (∃ D, hH σ 21 D) ∧ aI nf nt A ∧ hW σ 8 Lo
noncomputable def xDa (σ τ : zSg) (A B : Nat → Int32) (Lo : Option (Nat × List gLn4 × zSs)) : Prop := xDr σ τ ∧ hH τ 21 B ∧ hW τ 21 Lo
section XDR
variable {σ τ υ : zSg} {A B B' : Nat → Int32} {nf nt : Nat} {Lo : Option (Nat × List gLn4 × zSs)}
theorem xDr.rf : xDr σ σ := ⟨rfl, fun _ _ _ _ => rfl⟩
theorem xDr.tr (h1 : xDr σ τ) (h2 : xDr τ υ) : xDr σ υ := ⟨h2.1.trans h1.1, fun c k q1 q2 => (h2.2 c k q1 q2).trans (h1.2 c k q1 q2)⟩
theorem xDr.sk (R : xDr σ τ) (K : xSk σ) : xSk τ := K.of (fun k _ => R.2 0 k (by omega) (by omega))
theorem hEF.d (f : hEF 21 σ τ) : xDr σ τ := ⟨f.1, fun c k q1 q2 => f.2 c k (by omega) q2⟩
theorem xDp.cp (K : xDp σ A nf nt Lo) (G : p_23 21 8 σ τ) : xDa σ τ A A Lo := by
  obtain ⟨k1, k2, ⟨D, k3⟩, k4, k5⟩ := K
  have I := G (by unfold dsj; omega) k3.ks k2.ks k2.ii
  obtain ⟨g1, g2⟩ := I.hH k2 k3
  have f : xDr σ τ := ⟨I.1, fun c k q1 q2 => I.fr (by omega)⟩
  refine ⟨f, g1, ?_⟩
  unfold hW at k5 ⊢
  match Lo, k5 with
  | none, k5 => exact g2.trans k5
  | some (L, ls, l), ⟨w1, w2, w3, w4, w5, w6⟩ => exact ⟨g2.trans w1, w2, w3, w4.fr f.1 (fun c k q1 q2 q3 => f.2 c k (by omega) (by omega)), by rw [f.1]; exact w5, w6⟩
theorem xDa.st (K : xDa σ τ A B Lo) (f : hEF 21 τ υ) (h : hH υ 21 B') : xDa σ υ A B' Lo := ⟨K.1.tr f.d, h, K.2.2.ef f (by omega)⟩
end XDR
/-- the first of 0 to 200 that is so; none -/
noncomputable def aFst (P : Nat → Prop) (r : Int32) : Prop := (∃ n, n ≤ 200 ∧ r = Int32.ofNat n ∧ P n ∧ ∀ i, i < n → ¬ P i) ∨ (r = Int32.ofInt (-1) ∧ ∀ i, i ≤ 200 → ¬ P i)
theorem aFst.det {P : Nat → Prop} {r s : Int32} (h : aFst P r) (h' : aFst P s) : r = s := by
  rcases h with ⟨n, h1, h2, h3, h4⟩ | ⟨h1, h2⟩ <;> rcases h' with ⟨m, g1, g2, g3, g4⟩ | ⟨g1, g2⟩
  · have : n = m := by
      refine Decidable.byContradiction fun q => ?_
      by_cases w : n < m
      · exact g4 n w h3
      · exact h4 m (by omega) g3
    rw [h2, g2, this]
  · exact absurd h3 (g2 n h1)
  · exact absurd g3 (h2 m g1)
  · rw [h1, g1]
theorem zJ_125 : zJ3 125 z_m125 z_c125 z_h125 := ⟨rfl, rfl, rfl⟩
noncomputable def p_125 (a : Nat) (f h w : Int32) (σ : zSg) (e : Int32 ⊕ Nat) (σ' : zSg) : Prop := a = 0 → ∀ A nf nt Lo, xSk σ → hH σ 8 A → aI nf nt A → hW σ 8 Lo → (¬ ((0 ≤ f.toInt ∧ f.toInt < (nf : Int)) ∧ (0 ≤ h.toInt ∧ h.toInt < 24)) → e = .inr 2 ∧ σ' = σ) ∧ (∀ F n, f = Int32.ofNat F → F < nf → h = Int32.ofNat n → n < 24 → (¬ (0 ≤ w.toInt ∧ w.toInt ≤ 1) → e = .inr 3 ∧ σ' = σ) ∧ ((0 ≤ w.toInt ∧ w.toInt ≤ 1) → eFr 8 σ σ' ∧ e = .inl (if w.toInt = 0 then A (42 + 4 * F) + eSm Lo (eFa A nt F n) 0 else A (41 + 4 * F) + eSm Lo (eFa A nt F n) 1)))
theorem sp_125_ennnt (a0 : Nat) (a1 : Int32) (a2 : Int32) (a3 : Int32) (σ : zSg) (τ1 : zSg) (τ2 : zSg) (τ3 : zSg) (τ5 : zSg) (r5 : Int32) (g1 : p_167 a0 a1 σ (.inl 0) τ1) (g2 : p_166 a0 a2 τ1 (.inl 0) τ2) (g3 : p_169 a0 a3 (Int32.ofInt (1)) τ2 (.inl 0) τ3) (h4 : a3.toInt ≠ (0 : Int)) (g5 : p_31 (q_r (τ3.1 a0 2)) a1 a2 τ3 r5 τ5) :
    p_125 (a0) (a1) (a2) (a3) σ (.inl r5) τ5 := by
  rintro rfl A nf nt Lo S K I W
  have q8 := S.q.2.1
  have k6 := I.1.2.1
  have k8 := I.1.2.2.2.1
  have q3 : (Int32.ofInt 3).toInt = 3 := rfl
  obtain ⟨rfl, g1⟩ := g1
  have u1 := (g1 rfl S A nf K I.1.1 I.1.2.1)
  have u := u1.1 rfl
  obtain ⟨rfl, v, -⟩ := g2
  have v := v rfl
  obtain ⟨rfl, w, -⟩ := g3
  have w := w rfl
  refine ⟨fun q => absurd ⟨u, v⟩ q, fun F n eF hF en hn => ⟨fun q => absurd w q, fun _ => ?_⟩⟩
  subst eF en
  rw [q8] at g5
  obtain ⟨f4, x4⟩ := g5 (by omega) A nf nt F n Lo K I.1 W rfl hF rfl hn
  exact ⟨f4, by rw [if_neg h4, x4]⟩
theorem sp_125_ennnf (a0 : Nat) (a1 : Int32) (a2 : Int32) (a3 : Int32) (σ : zSg) (τ1 : zSg) (τ2 : zSg) (τ3 : zSg) (τ6 : zSg) (r6 : Int32) (g1 : p_167 a0 a1 σ (.inl 0) τ1) (g2 : p_166 a0 a2 τ1 (.inl 0) τ2) (g3 : p_169 a0 a3 (Int32.ofInt (1)) τ2 (.inl 0) τ3) (h4 : a3.toInt = (0 : Int)) (g6 : p_30 (q_r (τ3.1 a0 2)) a1 a2 τ3 r6 τ6) :
    p_125 (a0) (a1) (a2) (a3) σ (.inl r6) τ6 := by
  rintro rfl A nf nt Lo S K I W
  have q8 := S.q.2.1
  have k6 := I.1.2.1
  have k8 := I.1.2.2.2.1
  have q3 : (Int32.ofInt 3).toInt = 3 := rfl
  obtain ⟨rfl, g1⟩ := g1
  have u1 := (g1 rfl S A nf K I.1.1 I.1.2.1)
  have u := u1.1 rfl
  obtain ⟨rfl, v, -⟩ := g2
  have v := v rfl
  obtain ⟨rfl, w, -⟩ := g3
  have w := w rfl
  refine ⟨fun q => absurd ⟨u, v⟩ q, fun F n eF hF en hn => ⟨fun q => absurd w q, fun _ => ?_⟩⟩
  subst eF en
  rw [q8] at g6
  obtain ⟨f4, x4⟩ := g6 (by omega) A nf nt F n Lo K I.1 W rfl hF rfl hn
  exact ⟨f4, by rw [if_pos h4, x4]⟩
theorem sp_125_ennx3_ (a0 : Nat) (a1 : Int32) (a2 : Int32) (a3 : Int32) (σ : zSg) (τ1 : zSg) (τ2 : zSg) (τ3 : zSg) (g1 : p_167 a0 a1 σ (.inl 0) τ1) (g2 : p_166 a0 a2 τ1 (.inl 0) τ2) (g3 : p_169 a0 a3 (Int32.ofInt (1)) τ2 (.inr 3) τ3) :
    p_125 (a0) (a1) (a2) (a3) σ (.inr 3) τ3 := by
  rintro rfl A nf nt Lo S K I W
  have q8 := S.q.2.1
  have k6 := I.1.2.1
  have k8 := I.1.2.2.2.1
  have q3 : (Int32.ofInt 3).toInt = 3 := rfl
  obtain ⟨rfl, g1⟩ := g1
  have u1 := (g1 rfl S A nf K I.1.1 I.1.2.1)
  have u := u1.1 rfl
  obtain ⟨rfl, v, -⟩ := g2
  have v := v rfl
  obtain ⟨rfl, -, w⟩ := g3
  have w := w rfl
  exact ⟨fun q => absurd ⟨u, v⟩ q, fun F n eF hF en hn => ⟨fun _ => ⟨rfl, rfl⟩, fun q => absurd q w⟩⟩
theorem sp_125_enx2_ (a0 : Nat) (a1 : Int32) (a2 : Int32) (a3 : Int32) (σ : zSg) (τ1 : zSg) (τ2 : zSg) (g1 : p_167 a0 a1 σ (.inl 0) τ1) (g2 : p_166 a0 a2 τ1 (.inr 2) τ2) :
    p_125 (a0) (a1) (a2) (a3) σ (.inr 2) τ2 := by
  rintro rfl A nf nt Lo S K I W
  have q8 := S.q.2.1
  have k6 := I.1.2.1
  have k8 := I.1.2.2.2.1
  have q3 : (Int32.ofInt 3).toInt = 3 := rfl
  obtain ⟨rfl, g1⟩ := g1
  have u1 := (g1 rfl S A nf K I.1.1 I.1.2.1)
  have u := u1.1 rfl
  obtain ⟨rfl, -, v⟩ := g2
  have v := v rfl
  exact ⟨fun _ => ⟨rfl, rfl⟩, fun F n eF hF en hn => absurd (by rw [en, o32 (by omega)]; omega) v⟩
theorem sp_125_ex2_ (a0 : Nat) (a1 : Int32) (a2 : Int32) (a3 : Int32) (σ : zSg) (τ1 : zSg) (g1 : p_167 a0 a1 σ (.inr 2) τ1) :
    p_125 (a0) (a1) (a2) (a3) σ (.inr 2) τ1 := by
  rintro rfl A nf nt Lo S K I W
  have q8 := S.q.2.1
  have k6 := I.1.2.1
  have k8 := I.1.2.2.2.1
  have q3 : (Int32.ofInt 3).toInt = 3 := rfl
  obtain ⟨rfl, g1⟩ := g1
  have u1 := (g1 rfl S A nf K I.1.1 I.1.2.1)
  have u := u1.2 rfl
  exact ⟨fun _ => ⟨rfl, rfl⟩, fun F n eF hF en hn => absurd (by rw [eF, o32 (by omega)]; omega) u⟩
noncomputable def qP_125 : zPp := fun as σ o σ' => match as with
  | [a0, a1, a2, a3] => (∃ r, o = .inl (some (.int r)) ∧ p_125 (q_r a0) (q_i a1) (q_i a2) (q_i a3) σ (.inl r) σ') ∨ (o = .inr 2 ∧ p_125 (q_r a0) (q_i a1) (q_i a2) (q_i a3) σ (.inr 2) σ') ∨ (o = .inr 3 ∧ p_125 (q_r a0) (q_i a1) (q_i a2) (q_i a3) σ (.inr 3) σ')
  | _ => True
set_option maxRecDepth 100000 in
theorem sp_125 {sx : zX} (S167 : zEe sx 167 2 qP_167) (S166 : zEe sx 166 2 qP_166) (S169 : zEe sx 169 3 qP_169) (S31 : zEe sx 31 3 qP_31) (S30 : zEe sx 30 3 qP_30) : zEe sx 125 4 qP_125 := by
  refine zfle zJ_125 (sps := [(167, 2, qP_167), (166, 2, qP_166), (169, 3, qP_169), (31, 3, qP_31), (30, 3, qP_30)]) (fun q hq => by
    simp only [List.mem_cons, List.not_mem_nil, or_false] at hq
    rcases hq with rfl | rfl | rfl | rfl | rfl
    · exact S167
    · exact S166
    · exact S169
    · exact S31
    · exact S30) (fun as σ hl => ?_)
  match as, hl with
  | [a0, a1, a2, a3], _ =>
  refine ⟨[], 400, ?_, ?_⟩
  · exact fun q hq => absurd hq List.not_mem_nil
  · refine fun o1 τ1 g1 => ?_
    rcases g1 with ⟨rfl, g1⟩ | ⟨rfl, g1⟩
    · refine fun o2 τ2 g2 => ?_
      rcases g2 with ⟨rfl, g2⟩ | ⟨rfl, g2⟩
      · refine fun o3 τ3 g3 => ?_
        rcases g3 with ⟨rfl, g3⟩ | ⟨rfl, g3⟩
        · refine And.intro (fun h4 => ?_) (fun h4 => ?_)
          · refine fun o5 τ5 g5 => ?_
            obtain ⟨r5, rfl, g5⟩ := g5
            exact Or.inl ⟨_, rfl, sp_125_ennnt (q_r a0) (q_i a1) (q_i a2) (q_i a3) σ τ1 τ2 τ3 τ5 r5 g1 g2 g3 (cm1t h4) g5⟩
          · refine fun o6 τ6 g6 => ?_
            obtain ⟨r6, rfl, g6⟩ := g6
            exact Or.inl ⟨_, rfl, sp_125_ennnf (q_r a0) (q_i a1) (q_i a2) (q_i a3) σ τ1 τ2 τ3 τ6 r6 g1 g2 g3 (cm1f h4) g6⟩
        · exact Or.inr (Or.inr (⟨rfl, sp_125_ennx3_ (q_r a0) (q_i a1) (q_i a2) (q_i a3) σ τ1 τ2 τ3 g1 g2 g3⟩))
      · exact Or.inr (Or.inl (⟨rfl, sp_125_enx2_ (q_r a0) (q_i a1) (q_i a2) (q_i a3) σ τ1 τ2 g1 g2⟩))
    · exact Or.inr (Or.inl (⟨rfl, sp_125_ex2_ (q_r a0) (q_i a1) (q_i a2) (q_i a3) σ τ1 g1⟩))
theorem zJ_126 : zJ3 126 z_m126 z_c126 z_h126 := ⟨rfl, rfl, rfl⟩
noncomputable def p_126 (a : Nat) (t w : Int32) (σ : zSg) (e : Int32 ⊕ Nat) (σ' : zSg) : Prop := a = 0 → ∀ A nf nt Lo, xSk σ → hH σ 8 A → aI nf nt A → hW σ 8 Lo → (¬ (0 ≤ t.toInt ∧ t.toInt < (nt : Int)) → e = .inr 2 ∧ σ' = σ) ∧ (∀ T, t = Int32.ofNat T → T < nt → (¬ (0 ≤ w.toInt ∧ w.toInt ≤ 3) → e = .inr 3 ∧ σ' = σ) ∧ ((0 ≤ w.toInt ∧ w.toInt ≤ 3) → eFr 8 σ σ' ∧ (w.toInt = 0 → e = .inl (A (64 + 3 * T))) ∧ (w.toInt = 1 → e = .inl (A (65 + 3 * T))) ∧ (w.toInt = 2 → e = .inl (A (66 + 3 * T))) ∧ (w.toInt = 3 → ∀ F n, A (64 + 3 * T) = Int32.ofNat F → F < nf → A 4 = Int32.ofNat n → n < 24 → e = .inl (A 11 * A (65 + 3 * T) + eSm Lo (eFa A nt F n) 2))))
theorem sp_126_enns0_ (a0 : Nat) (a1 : Int32) (a2 : Int32) (σ : zSg) (τ1 : zSg) (τ2 : zSg) (g1 : p_168 a0 a1 σ (.inl 0) τ1) (g2 : p_169 a0 a2 (Int32.ofInt (3)) τ1 (.inl 0) τ2) (h3 : a2.toInt = 0) (h4 : 0 ≤ a1.toInt ∧ a1.toInt < (τ2.2.1 (q_r (τ2.1 (q_r (τ2.1 (q_r (τ2.1 a0 2)) 2)) 0)) : Int)) :
    p_126 (a0) (a1) (a2) σ (.inl (q_i (τ2.1 (q_r (τ2.1 (q_r (τ2.1 (q_r (τ2.1 a0 2)) 2)) 0)) a1.toNatClampNeg))) τ2 := by
  rintro rfl A nf nt Lo S K I W
  have q8 := S.q.2.1
  have k6 := I.1.2.1
  have k8 := I.1.2.2.2.1
  have q3 : (Int32.ofInt 3).toInt = 3 := rfl
  obtain ⟨rfl, g1⟩ := g1
  have u1 := (g1 rfl S A nt K I.1.2.2.1 I.1.2.2.2.1)
  have u := u1.1 rfl
  obtain ⟨rfl, w, -⟩ := g2
  have w := w rfl
  refine ⟨fun q => absurd u q, fun T et hT => ⟨fun q => absurd w q, fun _ => ?_⟩⟩
  subst et
  have t8 : T < 8 := by omega
  have d2 := K.k hk_2
  have nT : (Int32.ofNat T).toNatClampNeg = T := o32n (by omega)
  have d0 := K.k hk_t0
  have wo := K.p (hp_o t8)
  simp only [q8, d2, d0, nT, wo]
  exact ⟨eFr.rf, fun _ => trivial, fun q => absurd q (by omega), fun q => absurd q (by omega), fun q => absurd q (by omega)⟩
theorem sp_126_enns1_ (a0 : Nat) (a1 : Int32) (a2 : Int32) (σ : zSg) (τ1 : zSg) (τ2 : zSg) (g1 : p_168 a0 a1 σ (.inl 0) τ1) (g2 : p_169 a0 a2 (Int32.ofInt (3)) τ1 (.inl 0) τ2) (h3 : a2.toInt ≠ 0) (h5 : a2.toInt = 1) (h6 : 0 ≤ a1.toInt ∧ a1.toInt < (τ2.2.1 (q_r (τ2.1 (q_r (τ2.1 (q_r (τ2.1 a0 2)) 2)) 1)) : Int)) :
    p_126 (a0) (a1) (a2) σ (.inl (q_i (τ2.1 (q_r (τ2.1 (q_r (τ2.1 (q_r (τ2.1 a0 2)) 2)) 1)) a1.toNatClampNeg))) τ2 := by
  rintro rfl A nf nt Lo S K I W
  have q8 := S.q.2.1
  have k6 := I.1.2.1
  have k8 := I.1.2.2.2.1
  have q3 : (Int32.ofInt 3).toInt = 3 := rfl
  obtain ⟨rfl, g1⟩ := g1
  have u1 := (g1 rfl S A nt K I.1.2.2.1 I.1.2.2.2.1)
  have u := u1.1 rfl
  obtain ⟨rfl, w, -⟩ := g2
  have w := w rfl
  refine ⟨fun q => absurd u q, fun T et hT => ⟨fun q => absurd w q, fun _ => ?_⟩⟩
  subst et
  have t8 : T < 8 := by omega
  have d2 := K.k hk_2
  have nT : (Int32.ofNat T).toNatClampNeg = T := o32n (by omega)
  have d0 := K.k hk_t1
  have wo := K.p (hp_b t8)
  simp only [q8, d2, d0, nT, wo]
  exact ⟨eFr.rf, fun q => absurd q (by omega), fun _ => trivial, fun q => absurd q (by omega), fun q => absurd q (by omega)⟩
theorem sp_126_enns2_t (a0 : Nat) (a1 : Int32) (a2 : Int32) (σ : zSg) (τ1 : zSg) (τ2 : zSg) (τ8 : zSg) (r8 : Int32) (g1 : p_168 a0 a1 σ (.inl 0) τ1) (g2 : p_169 a0 a2 (Int32.ofInt (3)) τ1 (.inl 0) τ2) (h3 : a2.toInt ≠ 0) (h5 : a2.toInt ≠ 1) (h7 : a2.toInt = 2) (g8 : p_105 (q_r (τ2.1 (q_r (τ2.1 a0 2)) 2)) a1 τ2 r8 τ8) (h9 : r8.toInt = (0 : Int)) :
    p_126 (a0) (a1) (a2) σ (.inl (Int32.ofInt (0))) τ8 := by
  rintro rfl A nf nt Lo S K I W
  have q8 := S.q.2.1
  have k6 := I.1.2.1
  have k8 := I.1.2.2.2.1
  have q3 : (Int32.ofInt 3).toInt = 3 := rfl
  obtain ⟨rfl, g1⟩ := g1
  have u1 := (g1 rfl S A nt K I.1.2.2.1 I.1.2.2.2.1)
  have u := u1.1 rfl
  obtain ⟨rfl, w, -⟩ := g2
  have w := w rfl
  refine ⟨fun q => absurd u q, fun T et hT => ⟨fun q => absurd w q, fun _ => ?_⟩⟩
  subst et
  have t8 : T < 8 := by omega
  have d2 := K.k hk_2
  have nT : (Int32.ofNat T).toNatClampNeg = T := o32n (by omega)
  simp only [q8, d2] at g8
  obtain ⟨e3, g3⟩ := g8
  subst e3
  have x3 := g3 8 A rfl K T rfl t8
  rw [x3] at h9
  have hL : A (66 + 3 * T) = Int32.ofInt 0 ∨ A (66 + 3 * T) = Int32.ofInt 1 := by
    obtain ⟨l, -, hl'⟩ := K.2.2.1
    have e9 := hl' T t8
    by_cases hb : btb l (Int32.ofNat T) = true
    · rw [if_pos hb] at e9; exact Or.inr e9
    · rw [if_neg hb] at e9; exact Or.inl e9
  refine ⟨eFr.rf, fun q => absurd q (by omega), fun q => absurd q (by omega), fun _ => ?_, fun q => absurd q (by omega)⟩
  rcases hL with h | h
  · first
    | (rw [h] at h9; exact absurd rfl h9)
    | rw [h]
  · first
    | (rw [h] at h9; exact absurd h9 (by decide))
    | rw [h]
theorem sp_126_enns2_f (a0 : Nat) (a1 : Int32) (a2 : Int32) (σ : zSg) (τ1 : zSg) (τ2 : zSg) (τ8 : zSg) (r8 : Int32) (g1 : p_168 a0 a1 σ (.inl 0) τ1) (g2 : p_169 a0 a2 (Int32.ofInt (3)) τ1 (.inl 0) τ2) (h3 : a2.toInt ≠ 0) (h5 : a2.toInt ≠ 1) (h7 : a2.toInt = 2) (g8 : p_105 (q_r (τ2.1 (q_r (τ2.1 a0 2)) 2)) a1 τ2 r8 τ8) (h9 : r8.toInt ≠ (0 : Int)) :
    p_126 (a0) (a1) (a2) σ (.inl (Int32.ofInt (1))) τ8 := by
  rintro rfl A nf nt Lo S K I W
  have q8 := S.q.2.1
  have k6 := I.1.2.1
  have k8 := I.1.2.2.2.1
  have q3 : (Int32.ofInt 3).toInt = 3 := rfl
  obtain ⟨rfl, g1⟩ := g1
  have u1 := (g1 rfl S A nt K I.1.2.2.1 I.1.2.2.2.1)
  have u := u1.1 rfl
  obtain ⟨rfl, w, -⟩ := g2
  have w := w rfl
  refine ⟨fun q => absurd u q, fun T et hT => ⟨fun q => absurd w q, fun _ => ?_⟩⟩
  subst et
  have t8 : T < 8 := by omega
  have d2 := K.k hk_2
  have nT : (Int32.ofNat T).toNatClampNeg = T := o32n (by omega)
  simp only [q8, d2] at g8
  obtain ⟨e3, g3⟩ := g8
  subst e3
  have x3 := g3 8 A rfl K T rfl t8
  rw [x3] at h9
  have hL : A (66 + 3 * T) = Int32.ofInt 0 ∨ A (66 + 3 * T) = Int32.ofInt 1 := by
    obtain ⟨l, -, hl'⟩ := K.2.2.1
    have e9 := hl' T t8
    by_cases hb : btb l (Int32.ofNat T) = true
    · rw [if_pos hb] at e9; exact Or.inr e9
    · rw [if_neg hb] at e9; exact Or.inl e9
  refine ⟨eFr.rf, fun q => absurd q (by omega), fun q => absurd q (by omega), fun _ => ?_, fun q => absurd q (by omega)⟩
  rcases hL with h | h
  · first
    | (rw [h] at h9; exact absurd rfl h9)
    | rw [h]
  · first
    | (rw [h] at h9; exact absurd h9 (by decide))
    | rw [h]
theorem sp_126_ennd (a0 : Nat) (a1 : Int32) (a2 : Int32) (σ : zSg) (τ1 : zSg) (τ2 : zSg) (τ10 : zSg) (r10 : Int32) (g1 : p_168 a0 a1 σ (.inl 0) τ1) (g2 : p_169 a0 a2 (Int32.ofInt (3)) τ1 (.inl 0) τ2) (h3 : a2.toInt ≠ 0) (h5 : a2.toInt ≠ 1) (h7 : a2.toInt ≠ 2) (g10 : p_32 (q_r (τ2.1 a0 2)) a1 τ2 r10 τ10) :
    p_126 (a0) (a1) (a2) σ (.inl r10) τ10 := by
  rintro rfl A nf nt Lo S K I W
  have q8 := S.q.2.1
  have k6 := I.1.2.1
  have k8 := I.1.2.2.2.1
  have q3 : (Int32.ofInt 3).toInt = 3 := rfl
  obtain ⟨rfl, g1⟩ := g1
  have u1 := (g1 rfl S A nt K I.1.2.2.1 I.1.2.2.2.1)
  have u := u1.1 rfl
  obtain ⟨rfl, w, -⟩ := g2
  have w := w rfl
  refine ⟨fun q => absurd u q, fun T et hT => ⟨fun q => absurd w q, fun _ => ?_⟩⟩
  subst et
  have t8 : T < 8 := by omega
  have d2 := K.k hk_2
  have nT : (Int32.ofNat T).toNatClampNeg = T := o32n (by omega)
  have hw : a2.toInt = 3 := by omega
  rw [q8] at g10
  obtain ⟨i4, h4, e4⟩ := I.2.2.2.2.2.1
  obtain ⟨F0, hF0, eF0⟩ := I.2.2.1 T hT
  obtain ⟨f3, x3⟩ := g10 (by omega) A nf nt F0 i4 T Lo K I.1 W rfl hT eF0 hF0 e4 h4
  refine ⟨f3, fun q => absurd q (by omega), fun q => absurd q (by omega), fun q => absurd q (by omega), fun _ F n eF hF en hn => ?_⟩
  have e1 := congrArg Int32.toInt (eF0.symm.trans eF)
  have e2 := congrArg Int32.toInt (e4.symm.trans en)
  rw [o32 (by omega), o32 (by omega)] at e1 e2
  have r1 : F0 = F := by omega
  have r2 : i4 = n := by omega
  rw [x3, r1, r2]
theorem sp_126_enx3_ (a0 : Nat) (a1 : Int32) (a2 : Int32) (σ : zSg) (τ1 : zSg) (τ2 : zSg) (g1 : p_168 a0 a1 σ (.inl 0) τ1) (g2 : p_169 a0 a2 (Int32.ofInt (3)) τ1 (.inr 3) τ2) :
    p_126 (a0) (a1) (a2) σ (.inr 3) τ2 := by
  rintro rfl A nf nt Lo S K I W
  have q8 := S.q.2.1
  have k6 := I.1.2.1
  have k8 := I.1.2.2.2.1
  have q3 : (Int32.ofInt 3).toInt = 3 := rfl
  obtain ⟨rfl, g1⟩ := g1
  have u1 := (g1 rfl S A nt K I.1.2.2.1 I.1.2.2.2.1)
  have u := u1.1 rfl
  obtain ⟨rfl, -, w⟩ := g2
  have w := w rfl
  exact ⟨fun q => absurd u q, fun T et hT => ⟨fun _ => ⟨rfl, rfl⟩, fun q => absurd q w⟩⟩
theorem sp_126_ex2_ (a0 : Nat) (a1 : Int32) (a2 : Int32) (σ : zSg) (τ1 : zSg) (g1 : p_168 a0 a1 σ (.inr 2) τ1) :
    p_126 (a0) (a1) (a2) σ (.inr 2) τ1 := by
  rintro rfl A nf nt Lo S K I W
  have q8 := S.q.2.1
  have k6 := I.1.2.1
  have k8 := I.1.2.2.2.1
  have q3 : (Int32.ofInt 3).toInt = 3 := rfl
  obtain ⟨rfl, g1⟩ := g1
  have u1 := (g1 rfl S A nt K I.1.2.2.1 I.1.2.2.2.1)
  have u := u1.2 rfl
  exact ⟨fun _ => ⟨rfl, rfl⟩, fun T et hT => absurd (by rw [et, o32 (by omega)]; omega) u⟩
noncomputable def qP_126 : zPp := fun as σ o σ' => match as with
  | [a0, a1, a2] => (∃ r, o = .inl (some (.int r)) ∧ p_126 (q_r a0) (q_i a1) (q_i a2) σ (.inl r) σ') ∨ (o = .inr 2 ∧ p_126 (q_r a0) (q_i a1) (q_i a2) σ (.inr 2) σ') ∨ (o = .inr 3 ∧ p_126 (q_r a0) (q_i a1) (q_i a2) σ (.inr 3) σ')
  | _ => True
set_option maxRecDepth 100000 in
theorem sp_126 {sx : zX} (S168 : zEe sx 168 2 qP_168) (S169 : zEe sx 169 3 qP_169) (S105 : zEe sx 105 2 qP_105) (S32 : zEe sx 32 2 qP_32) : zEe sx 126 3 qP_126 := by
  refine zfle zJ_126 (sps := [(168, 2, qP_168), (169, 3, qP_169), (105, 2, qP_105), (32, 2, qP_32)]) (fun q hq => by
    simp only [List.mem_cons, List.not_mem_nil, or_false] at hq
    rcases hq with rfl | rfl | rfl | rfl
    · exact S168
    · exact S169
    · exact S105
    · exact S32) (fun as σ hl => ?_)
  match as, hl with
  | [a0, a1, a2], _ =>
  refine ⟨[], 400, ?_, ?_⟩
  · exact fun q hq => absurd hq List.not_mem_nil
  · refine fun o1 τ1 g1 => ?_
    rcases g1 with ⟨rfl, g1⟩ | ⟨rfl, g1⟩
    · refine fun o2 τ2 g2 => ?_
      rcases g2 with ⟨rfl, g2⟩ | ⟨rfl, g2⟩
      · refine And.intro (fun h3 => ?_) (fun h3 => ?_)
        · refine fun h4 => ?_
          exact Or.inl ⟨_, rfl, sp_126_enns0_ (q_r a0) (q_i a1) (q_i a2) σ τ1 τ2 g1 g2 h3 (q_inp h4)⟩
        refine And.intro (fun h5 => ?_) (fun h5 => ?_)
        · refine fun h6 => ?_
          exact Or.inl ⟨_, rfl, sp_126_enns1_ (q_r a0) (q_i a1) (q_i a2) σ τ1 τ2 g1 g2 h3 h5 (q_inp h6)⟩
        refine And.intro (fun h7 => ?_) (fun h7 => ?_)
        · refine fun o8 τ8 g8 => ?_
          obtain ⟨r8, rfl, g8⟩ := g8
          refine And.intro (fun h9 => ?_) (fun h9 => ?_)
          · exact Or.inl ⟨_, rfl, sp_126_enns2_t (q_r a0) (q_i a1) (q_i a2) σ τ1 τ2 τ8 r8 g1 g2 h3 h5 h7 g8 (cm0t h9)⟩
          · exact Or.inl ⟨_, rfl, sp_126_enns2_f (q_r a0) (q_i a1) (q_i a2) σ τ1 τ2 τ8 r8 g1 g2 h3 h5 h7 g8 (cm0f h9)⟩
        refine fun o10 τ10 g10 => ?_
        obtain ⟨r10, rfl, g10⟩ := g10
        exact Or.inl ⟨_, rfl, sp_126_ennd (q_r a0) (q_i a1) (q_i a2) σ τ1 τ2 τ10 r10 g1 g2 h3 h5 h7 g10⟩
      · exact Or.inr (Or.inr (⟨rfl, sp_126_enx3_ (q_r a0) (q_i a1) (q_i a2) σ τ1 τ2 g1 g2⟩))
    · exact Or.inr (Or.inl (⟨rfl, sp_126_ex2_ (q_r a0) (q_i a1) (q_i a2) σ τ1 g1⟩))
theorem zJ_151 : zJ3 151 z_m151 z_c151 z_h151 := ⟨rfl, rfl, rfl⟩
noncomputable def p_151 (a : Nat) (n w : Int32) (σ : zSg) (e : Int32 ⊕ Nat) (σ' : zSg) : Prop := a = 0 → ∀ A nf nt Lo, xDp σ A nf nt Lo → (¬ (0 ≤ n.toInt ∧ n.toInt ≤ 200) → e = .inr 0 ∧ σ' = σ) ∧ ((0 ≤ n.toInt ∧ n.toInt ≤ 200) → ¬ (0 ≤ w.toInt ∧ w.toInt ≤ 2) → e = .inr 3 ∧ σ' = σ) ∧ (∀ N, n = Int32.ofNat N → N ≤ 200 → (0 ≤ w.toInt ∧ w.toInt ≤ 2) → xDa σ σ' A (hHs Lo nt true A N).1 Lo ∧ (w.toInt = 0 → e = .inl ((hHs Lo nt true A N).1 6)) ∧ (w.toInt = 1 → e = .inl ((hHs Lo nt true A N).1 7)) ∧ (w.toInt = 2 → e = .inl ((hHs Lo nt true A N).1 (16 + hN (hHs Lo nt true A N).1))))
noncomputable def i_151 (a : Nat) (n w : Int32) (σ : zSg) (l0 : Nat) (l1 l2 l3 : Int32) (τ : zSg) : Prop := l0 = a ∧ l1 = n ∧ l2 = w ∧ (a = 0 → ∀ A nf nt Lo, xDp σ A nf nt Lo → ∃ N, (0 ≤ w.toInt ∧ w.toInt ≤ 2) ∧ n = Int32.ofNat N ∧ N ≤ 200 ∧ ∃ i, i ≤ N ∧ l3 = Int32.ofNat i ∧ xDa σ τ A (hHs Lo nt true A i).1 Lo)
theorem sp_151_enn (a0 : Nat) (a1 : Int32) (a2 : Int32) (σ : zSg) (τ1 : zSg) (τ2 : zSg) (τ3 : zSg) (g1 : p_170 a0 a1 (Int32.ofInt (0)) (Int32.ofInt (200)) σ (.inl 0) τ1) (g2 : p_169 a0 a2 (Int32.ofInt (2)) τ1 (.inl 0) τ2) (g3 : p_23 (q_r (τ2.1 a0 3)) (q_r (τ2.1 a0 2)) τ2 τ3) :
    i_151 a0 a1 a2 σ a0 a1 a2 (Int32.ofInt (0)) τ3 := by
  refine ⟨rfl, rfl, rfl, ?_⟩
  rintro rfl A nf nt Lo K
  have z0 : (Int32.ofInt 0).toInt = 0 := rfl
  have z1 : (Int32.ofInt 1).toInt = 1 := rfl
  have z2 : (Int32.ofInt 2).toInt = 2 := rfl
  have z99 : (Int32.ofInt 99).toInt = 99 := rfl
  have z200 : (Int32.ofInt 200).toInt = 200 := rfl
  obtain ⟨rfl, u, -⟩ := g1
  have u := u rfl
  obtain ⟨rfl, v, -⟩ := g2
  have v := v rfl
  have q0 := K.1.q
  rw [q0.2.1, q0.2.2.1] at g3
  exact ⟨a1.toInt.toNat, by omega, Int32.toInt_inj.mp (by rw [o32 (by omega)]; omega), by omega, 0, Nat.zero_le _, rfl, K.cp g3⟩
theorem sp_151_enx3_ (a0 : Nat) (a1 : Int32) (a2 : Int32) (σ : zSg) (τ1 : zSg) (τ2 : zSg) (g1 : p_170 a0 a1 (Int32.ofInt (0)) (Int32.ofInt (200)) σ (.inl 0) τ1) (g2 : p_169 a0 a2 (Int32.ofInt (2)) τ1 (.inr 3) τ2) :
    p_151 (a0) (a1) (a2) σ (.inr 3) τ2 := by
  rintro rfl A nf nt Lo K
  have z0 : (Int32.ofInt 0).toInt = 0 := rfl
  have z1 : (Int32.ofInt 1).toInt = 1 := rfl
  have z2 : (Int32.ofInt 2).toInt = 2 := rfl
  have z99 : (Int32.ofInt 99).toInt = 99 := rfl
  have z200 : (Int32.ofInt 200).toInt = 200 := rfl
  obtain ⟨rfl, u, -⟩ := g1
  have u := u rfl
  obtain ⟨rfl, -, v⟩ := g2
  have v := v rfl
  exact ⟨fun q => absurd u (by omega), fun _ _ => ⟨rfl, rfl⟩, fun N e h q => absurd q (by omega)⟩
theorem sp_151_ex0_ (a0 : Nat) (a1 : Int32) (a2 : Int32) (σ : zSg) (τ1 : zSg) (g1 : p_170 a0 a1 (Int32.ofInt (0)) (Int32.ofInt (200)) σ (.inr 0) τ1) :
    p_151 (a0) (a1) (a2) σ (.inr 0) τ1 := by
  rintro rfl A nf nt Lo K
  have z0 : (Int32.ofInt 0).toInt = 0 := rfl
  have z1 : (Int32.ofInt 1).toInt = 1 := rfl
  have z2 : (Int32.ofInt 2).toInt = 2 := rfl
  have z99 : (Int32.ofInt 99).toInt = 99 := rfl
  have z200 : (Int32.ofInt 200).toInt = 200 := rfl
  obtain ⟨rfl, -, u⟩ := g1
  have u := u rfl
  exact ⟨fun _ => ⟨rfl, rfl⟩, fun q => absurd q (by omega), fun N e h => absurd (by rw [e, o32 (by omega)]; omega) u⟩
theorem sp_151_c16_ts0_ (a0 : Nat) (a1 : Int32) (a2 : Int32) (σ : zSg) (l0 : Nat) (l1 : Int32) (l2 : Int32) (l3 : Int32) (τ : zSg) (hI : i_151 a0 a1 a2 σ l0 l1 l2 l3 τ) (h4 : l3.toInt ≥ l1.toInt) (h5 : l2.toInt = 0) :
    p_151 (a0) (a1) (a2) σ (.inl (q_i (τ.1 (q_r (τ.1 l0 3)) 9))) τ := by
  obtain ⟨rfl, rfl, rfl, hI⟩ := hI
  rintro rfl A nf nt Lo K
  obtain ⟨N, w02, rfl, hN2, i, hi, rfl, D⟩ := hI rfl A nf nt Lo K
  rw [o32 (by omega), o32 (by omega)] at h4
  have ei : i = N := by omega
  subst ei
  have qs := (D.1.sk K.1).q
  refine ⟨fun q => absurd (by rw [o32 (by omega)]; omega) q, fun _ q => absurd w02 q, fun M eM hM hw => ?_⟩
  have h9 := congrArg Int32.toInt eM
  rw [o32 (by omega), o32 (by omega)] at h9
  have r1 : i = M := by omega
  rw [← r1]
  have y := D.2.1.p (hp_s (k := 6) (by omega) (by omega))
  simp only [Nat.reduceAdd] at y
  rw [qs.2.2.1, y]
  exact ⟨D, fun _ => rfl, fun q => absurd q (by omega), fun q => absurd q (by omega)⟩
theorem sp_151_c16_ts1_ (a0 : Nat) (a1 : Int32) (a2 : Int32) (σ : zSg) (l0 : Nat) (l1 : Int32) (l2 : Int32) (l3 : Int32) (τ : zSg) (hI : i_151 a0 a1 a2 σ l0 l1 l2 l3 τ) (h4 : l3.toInt ≥ l1.toInt) (h5 : l2.toInt ≠ 0) (h6 : l2.toInt = 1) :
    p_151 (a0) (a1) (a2) σ (.inl (q_i (τ.1 (q_r (τ.1 l0 3)) 10))) τ := by
  obtain ⟨rfl, rfl, rfl, hI⟩ := hI
  rintro rfl A nf nt Lo K
  obtain ⟨N, w02, rfl, hN2, i, hi, rfl, D⟩ := hI rfl A nf nt Lo K
  rw [o32 (by omega), o32 (by omega)] at h4
  have ei : i = N := by omega
  subst ei
  have qs := (D.1.sk K.1).q
  refine ⟨fun q => absurd (by rw [o32 (by omega)]; omega) q, fun _ q => absurd w02 q, fun M eM hM hw => ?_⟩
  have h9 := congrArg Int32.toInt eM
  rw [o32 (by omega), o32 (by omega)] at h9
  have r1 : i = M := by omega
  rw [← r1]
  have y := D.2.1.p (hp_s (k := 7) (by omega) (by omega))
  simp only [Nat.reduceAdd] at y
  rw [qs.2.2.1, y]
  exact ⟨D, fun q => absurd q (by omega), fun _ => rfl, fun q => absurd q (by omega)⟩
theorem sp_151_c16_td (a0 : Nat) (a1 : Int32) (a2 : Int32) (σ : zSg) (l0 : Nat) (l1 : Int32) (l2 : Int32) (l3 : Int32) (τ : zSg) (τ7 : zSg) (r7 : Int32) (hI : i_151 a0 a1 a2 σ l0 l1 l2 l3 τ) (h4 : l3.toInt ≥ l1.toInt) (h5 : l2.toInt ≠ 0) (h6 : l2.toInt ≠ 1) (g7 : p_27 (q_r (τ.1 l0 3)) τ r7 τ7) :
    p_151 (a0) (a1) (a2) σ (.inl r7) τ7 := by
  obtain ⟨rfl, rfl, rfl, hI⟩ := hI
  rintro rfl A nf nt Lo K
  obtain ⟨N, w02, rfl, hN2, i, hi, rfl, D⟩ := hI rfl A nf nt Lo K
  rw [o32 (by omega), o32 (by omega)] at h4
  have ei : i = N := by omega
  subst ei
  have qs := (D.1.sk K.1).q
  refine ⟨fun q => absurd (by rw [o32 (by omega)]; omega) q, fun _ q => absurd w02 q, fun M eM hM hw => ?_⟩
  have h9 := congrArg Int32.toInt eM
  rw [o32 (by omega), o32 (by omega)] at h9
  have r1 : i = M := by omega
  rw [← r1]
  have IA := K.2.2.2.1.hs (Lo := Lo) (calm := true) i
  obtain ⟨hn', e4', -⟩ := IA.in
  rw [qs.2.2.1] at g7
  obtain ⟨e9, g9⟩ := g7
  subst e9
  have x9 := g9 _ _ D.2.1 e4' hn'
  rw [x9]
  exact ⟨D, fun q => absurd q (by omega), fun q => absurd q (by omega), fun _ => rfl⟩
theorem sp_151_c16_f (a0 : Nat) (a1 : Int32) (a2 : Int32) (σ : zSg) (l0 : Nat) (l1 : Int32) (l2 : Int32) (l3 : Int32) (τ : zSg) (τ8 : zSg) (r8 : Int32) (hI : i_151 a0 a1 a2 σ l0 l1 l2 l3 τ) (h4 : l3.toInt < l1.toInt) (g8 : p_34 (q_r (τ.1 l0 3)) (Int32.ofInt (0)) τ r8 τ8) :
    i_151 a0 a1 a2 σ l0 l1 l2 (l3 + Int32.ofInt (1)) τ8 := by
  obtain ⟨rfl, rfl, rfl, hI⟩ := hI
  refine ⟨rfl, rfl, rfl, ?_⟩
  rintro rfl A nf nt Lo K
  obtain ⟨N, w02, rfl, hN2, i, hi, rfl, D⟩ := hI rfl A nf nt Lo K
  rw [o32 (by omega), o32 (by omega)] at h4
  have qs := (D.1.sk K.1).q
  have IA := K.2.2.2.1.hs (Lo := Lo) (calm := true) i
  rw [qs.2.2.1] at g8
  obtain ⟨fE, KE, -⟩ := (g8 (by omega) _ nf nt Lo D.2.1 IA D.2.2).1 rfl
  have D' := D.st fE KE
  exact ⟨N, w02, rfl, hN2, i + 1, by omega, o32i (by omega), D'⟩
noncomputable def qP_151 : zPp := fun as σ o σ' => match as with
  | [a0, a1, a2] => (∃ r, o = .inl (some (.int r)) ∧ p_151 (q_r a0) (q_i a1) (q_i a2) σ (.inl r) σ') ∨ (o = .inr 0 ∧ p_151 (q_r a0) (q_i a1) (q_i a2) σ (.inr 0) σ') ∨ (o = .inr 3 ∧ p_151 (q_r a0) (q_i a1) (q_i a2) σ (.inr 3) σ')
  | _ => True
set_option maxRecDepth 100000 in
theorem sp_151 {sx : zX} (S170 : zEe sx 170 4 qP_170) (S169 : zEe sx 169 3 qP_169) (S23 : zEe sx 23 2 qP_23) (S27 : zEe sx 27 1 qP_27) (S34 : zEe sx 34 2 qP_34) : zEe sx 151 3 qP_151 := by
  refine zfle zJ_151 (sps := [(170, 4, qP_170), (169, 3, qP_169), (23, 2, qP_23), (27, 1, qP_27), (34, 2, qP_34)]) (fun q hq => by
    simp only [List.mem_cons, List.not_mem_nil, or_false] at hq
    rcases hq with rfl | rfl | rfl | rfl | rfl
    · exact S170
    · exact S169
    · exact S23
    · exact S27
    · exact S34) (fun as σ hl => ?_)
  match as, hl with
  | [a0, a1, a2], _ =>
  refine ⟨[(16, fun lo st τ => st = [] ∧ i_151 (q_r a0) (q_i a1) (q_i a2) σ (q_r (lo 0)) (q_i (lo 1)) (q_i (lo 2)) (q_i (lo 3)) τ)], 400, ?_, ?_⟩
  · intro q hq
    simp only [List.mem_cons, List.not_mem_nil, or_false] at hq
    rcases hq with rfl
    · rintro lo st τ ⟨rfl, hI⟩
      refine ⟨400, ?_⟩
      refine And.intro (fun h4 => ?_) (fun h4 => ?_)
      · refine And.intro (fun h5 => ?_) (fun h5 => ?_)
        · exact Or.inl ⟨_, rfl, sp_151_c16_ts0_ (q_r a0) (q_i a1) (q_i a2) σ (q_r (lo 0)) (q_i (lo 1)) (q_i (lo 2)) (q_i (lo 3)) τ hI (cm3t h4) h5⟩
        refine And.intro (fun h6 => ?_) (fun h6 => ?_)
        · exact Or.inl ⟨_, rfl, sp_151_c16_ts1_ (q_r a0) (q_i a1) (q_i a2) σ (q_r (lo 0)) (q_i (lo 1)) (q_i (lo 2)) (q_i (lo 3)) τ hI (cm3t h4) h5 h6⟩
        refine fun o7 τ7 g7 => ?_
        obtain ⟨r7, rfl, g7⟩ := g7
        exact Or.inl ⟨_, rfl, sp_151_c16_td (q_r a0) (q_i a1) (q_i a2) σ (q_r (lo 0)) (q_i (lo 1)) (q_i (lo 2)) (q_i (lo 3)) τ τ7 r7 hI (cm3t h4) h5 h6 g7⟩
      · refine fun o8 τ8 g8 => ?_
        obtain ⟨r8, rfl, g8⟩ := g8
        exact ⟨rfl, sp_151_c16_f (q_r a0) (q_i a1) (q_i a2) σ (q_r (lo 0)) (q_i (lo 1)) (q_i (lo 2)) (q_i (lo 3)) τ τ8 r8 hI (cm3f h4) g8⟩
  · refine fun o1 τ1 g1 => ?_
    rcases g1 with ⟨rfl, g1⟩ | ⟨rfl, g1⟩
    · refine fun o2 τ2 g2 => ?_
      rcases g2 with ⟨rfl, g2⟩ | ⟨rfl, g2⟩
      · refine fun o3 τ3 g3 => ?_
        obtain ⟨rfl, g3⟩ := g3
        exact ⟨rfl, sp_151_enn (q_r a0) (q_i a1) (q_i a2) σ τ1 τ2 τ3 g1 g2 g3⟩
      · exact Or.inr (Or.inr (⟨rfl, sp_151_enx3_ (q_r a0) (q_i a1) (q_i a2) σ τ1 τ2 g1 g2⟩))
    · exact Or.inr (Or.inl (⟨rfl, sp_151_ex0_ (q_r a0) (q_i a1) (q_i a2) σ τ1 g1⟩))
theorem zJ_152 : zJ3 152 z_m152 z_c152 z_h152 := ⟨rfl, rfl, rfl⟩
noncomputable def p_152 (a : Nat) (n : Int32) (σ : zSg) (e : Int32 ⊕ Nat) (σ' : zSg) : Prop := a = 0 → ∀ A nf nt Lo, xDp σ A nf nt Lo → (¬ (1 ≤ n.toInt ∧ n.toInt ≤ 99) → e = .inr 0 ∧ σ' = σ) ∧ ((1 ≤ n.toInt ∧ n.toInt ≤ 99) → (∃ B, xDa σ σ' A B Lo) ∧ ∃ r, e = .inl r ∧ aFst (fun i => n.toInt ≤ ((hHs Lo nt true A i).1 7).toInt) r)
noncomputable def i_152 (a : Nat) (n : Int32) (σ : zSg) (l0 : Nat) (l1 l2 : Int32) (τ : zSg) : Prop := l0 = a ∧ l1 = n ∧ (a = 0 → ∀ A nf nt Lo, xDp σ A nf nt Lo → (1 ≤ n.toInt ∧ n.toInt ≤ 99) ∧ ∃ N, N ≤ 201 ∧ l2 = Int32.ofNat N ∧ xDa σ τ A (hHs Lo nt true A N).1 Lo ∧ ∀ i, i < N → ¬ n.toInt ≤ ((hHs Lo nt true A i).1 7).toInt)
theorem sp_152_en (a0 : Nat) (a1 : Int32) (σ : zSg) (τ1 : zSg) (τ2 : zSg) (g1 : p_170 a0 a1 (Int32.ofInt (1)) (Int32.ofInt (99)) σ (.inl 0) τ1) (g2 : p_23 (q_r (τ1.1 a0 3)) (q_r (τ1.1 a0 2)) τ1 τ2) :
    i_152 a0 a1 σ a0 a1 (Int32.ofInt (0)) τ2 := by
  refine ⟨rfl, rfl, ?_⟩
  rintro rfl A nf nt Lo K
  have z0 : (Int32.ofInt 0).toInt = 0 := rfl
  have z1 : (Int32.ofInt 1).toInt = 1 := rfl
  have z2 : (Int32.ofInt 2).toInt = 2 := rfl
  have z99 : (Int32.ofInt 99).toInt = 99 := rfl
  have z200 : (Int32.ofInt 200).toInt = 200 := rfl
  obtain ⟨rfl, u, -⟩ := g1
  have u := u rfl
  have q0 := K.1.q
  rw [q0.2.1, q0.2.2.1] at g2
  exact ⟨by omega, 0, by omega, rfl, K.cp g2, fun i hi => absurd hi (by omega)⟩
theorem sp_152_ex0_ (a0 : Nat) (a1 : Int32) (σ : zSg) (τ1 : zSg) (g1 : p_170 a0 a1 (Int32.ofInt (1)) (Int32.ofInt (99)) σ (.inr 0) τ1) :
    p_152 (a0) (a1) σ (.inr 0) τ1 := by
  rintro rfl A nf nt Lo K
  have z0 : (Int32.ofInt 0).toInt = 0 := rfl
  have z1 : (Int32.ofInt 1).toInt = 1 := rfl
  have z2 : (Int32.ofInt 2).toInt = 2 := rfl
  have z99 : (Int32.ofInt 99).toInt = 99 := rfl
  have z200 : (Int32.ofInt 200).toInt = 200 := rfl
  obtain ⟨rfl, -, u⟩ := g1
  have u := u rfl
  exact ⟨fun _ => ⟨rfl, rfl⟩, fun q => absurd q (by omega)⟩
theorem sp_152_c12_t (a0 : Nat) (a1 : Int32) (σ : zSg) (l0 : Nat) (l1 : Int32) (l2 : Int32) (τ : zSg) (hI : i_152 a0 a1 σ l0 l1 l2 τ) (h3 : l2.toInt > (200 : Int)) :
    p_152 (a0) (a1) σ (.inl (Int32.ofInt (-1))) τ := by
  obtain ⟨rfl, rfl, hI⟩ := hI
  rintro rfl A nf nt Lo K
  obtain ⟨RNG, N, hN2, rfl, D, hno⟩ := hI rfl A nf nt Lo K
  have z200 : (Int32.ofInt 200).toInt = 200 := rfl
  rw [o32 (by omega)] at h3
  refine ⟨fun q => absurd RNG q, fun _ => ⟨⟨_, D⟩, _, rfl, Or.inr ⟨rfl, fun i hi => hno i (by omega)⟩⟩⟩
theorem sp_152_c12_ft (a0 : Nat) (a1 : Int32) (σ : zSg) (l0 : Nat) (l1 : Int32) (l2 : Int32) (τ : zSg) (τ5 : zSg) (r5 : Int32) (hI : i_152 a0 a1 σ l0 l1 l2 τ) (h3 : l2.toInt ≤ (200 : Int)) (h4 : (q_i (τ.1 (q_r (τ.1 l0 3)) 10)).toInt < l1.toInt) (g5 : p_34 (q_r (τ.1 l0 3)) (Int32.ofInt (0)) τ r5 τ5) :
    i_152 a0 a1 σ l0 l1 (l2 + Int32.ofInt (1)) τ5 := by
  obtain ⟨rfl, rfl, hI⟩ := hI
  refine ⟨rfl, rfl, ?_⟩
  rintro rfl A nf nt Lo K
  obtain ⟨RNG, N, hN2, rfl, D, hno⟩ := hI rfl A nf nt Lo K
  have z200 : (Int32.ofInt 200).toInt = 200 := rfl
  rw [o32 (by omega)] at h3
  have qs := (D.1.sk K.1).q
  have IA := K.2.2.2.1.hs (Lo := Lo) (calm := true) N
  rw [qs.2.2.1] at g5
  obtain ⟨fE, KE, -⟩ := (g5 (by omega) _ nf nt Lo D.2.1 IA D.2.2).1 rfl
  have D' := D.st fE KE
  have y := D.2.1.p (hp_s (k := 7) (by omega) (by omega))
  simp only [Nat.reduceAdd] at y
  rw [qs.2.2.1, y] at h4
  refine ⟨RNG, N + 1, by omega, o32i (by omega), D', fun i hi => ?_⟩
  by_cases q : i = N
  · rw [q]; omega
  · exact hno i (by omega)
theorem sp_152_c12_ff (a0 : Nat) (a1 : Int32) (σ : zSg) (l0 : Nat) (l1 : Int32) (l2 : Int32) (τ : zSg) (hI : i_152 a0 a1 σ l0 l1 l2 τ) (h3 : l2.toInt ≤ (200 : Int)) (h4 : (q_i (τ.1 (q_r (τ.1 l0 3)) 10)).toInt ≥ l1.toInt) :
    p_152 (a0) (a1) σ (.inl l2) τ := by
  obtain ⟨rfl, rfl, hI⟩ := hI
  rintro rfl A nf nt Lo K
  obtain ⟨RNG, N, hN2, rfl, D, hno⟩ := hI rfl A nf nt Lo K
  have z200 : (Int32.ofInt 200).toInt = 200 := rfl
  rw [o32 (by omega)] at h3
  have qs := (D.1.sk K.1).q
  have y := D.2.1.p (hp_s (k := 7) (by omega) (by omega))
  simp only [Nat.reduceAdd] at y
  rw [qs.2.2.1, y] at h4
  exact ⟨fun q => absurd RNG q, fun _ => ⟨⟨_, D⟩, _, rfl, Or.inl ⟨N, by omega, rfl, by omega, hno⟩⟩⟩
noncomputable def qP_152 : zPp := fun as σ o σ' => match as with
  | [a0, a1] => (∃ r, o = .inl (some (.int r)) ∧ p_152 (q_r a0) (q_i a1) σ (.inl r) σ') ∨ (o = .inr 0 ∧ p_152 (q_r a0) (q_i a1) σ (.inr 0) σ')
  | _ => True
set_option maxRecDepth 100000 in
theorem sp_152 {sx : zX} (S170 : zEe sx 170 4 qP_170) (S23 : zEe sx 23 2 qP_23) (S34 : zEe sx 34 2 qP_34) : zEe sx 152 2 qP_152 := by
  refine zfle zJ_152 (sps := [(170, 4, qP_170), (23, 2, qP_23), (34, 2, qP_34)]) (fun q hq => by
    simp only [List.mem_cons, List.not_mem_nil, or_false] at hq
    rcases hq with rfl | rfl | rfl
    · exact S170
    · exact S23
    · exact S34) (fun as σ hl => ?_)
  match as, hl with
  | [a0, a1], _ =>
  refine ⟨[(12, fun lo st τ => st = [] ∧ i_152 (q_r a0) (q_i a1) σ (q_r (lo 0)) (q_i (lo 1)) (q_i (lo 2)) τ)], 400, ?_, ?_⟩
  · intro q hq
    simp only [List.mem_cons, List.not_mem_nil, or_false] at hq
    rcases hq with rfl
    · rintro lo st τ ⟨rfl, hI⟩
      refine ⟨400, ?_⟩
      refine And.intro (fun h3 => ?_) (fun h3 => ?_)
      · exact Or.inl ⟨_, rfl, sp_152_c12_t (q_r a0) (q_i a1) σ (q_r (lo 0)) (q_i (lo 1)) (q_i (lo 2)) τ hI (cm4t h3)⟩
      · refine And.intro (fun h4 => ?_) (fun h4 => ?_)
        · refine fun o5 τ5 g5 => ?_
          obtain ⟨r5, rfl, g5⟩ := g5
          exact ⟨rfl, sp_152_c12_ft (q_r a0) (q_i a1) σ (q_r (lo 0)) (q_i (lo 1)) (q_i (lo 2)) τ τ5 r5 hI (cm4f h3) (cm2t h4) g5⟩
        · exact Or.inl ⟨_, rfl, sp_152_c12_ff (q_r a0) (q_i a1) σ (q_r (lo 0)) (q_i (lo 1)) (q_i (lo 2)) τ hI (cm4f h3) (cm2f h4)⟩
  · refine fun o1 τ1 g1 => ?_
    rcases g1 with ⟨rfl, g1⟩ | ⟨rfl, g1⟩
    · refine fun o2 τ2 g2 => ?_
      obtain ⟨rfl, g2⟩ := g2
      exact ⟨rfl, sp_152_en (q_r a0) (q_i a1) σ τ1 τ2 g1 g2⟩
    · exact Or.inr (⟨rfl, sp_152_ex0_ (q_r a0) (q_i a1) σ τ1 g1⟩)
theorem zJ_154 : zJ3 154 z_m154 z_c154 z_h154 := ⟨rfl, rfl, rfl⟩
noncomputable def p_154 (a : Nat) (f : Int32) (σ : zSg) (e : Int32 ⊕ Nat) (σ' : zSg) : Prop := a = 0 → ∀ A nf nt Lo, xDp σ A nf nt Lo → (¬ (0 ≤ f.toInt ∧ f.toInt < (nf : Int)) → e = .inr 2 ∧ σ' = σ) ∧ (∀ F, f = Int32.ofNat F → F < nf → (∃ B, xDa σ σ' A B Lo) ∧ ∃ r, e = .inl r ∧ aFst (fun i => (hHs Lo nt true A i).1 (40 + 4 * F) = Int32.ofInt 0) r)
noncomputable def i_154 (a : Nat) (f : Int32) (σ : zSg) (l0 : Nat) (l1 l2 : Int32) (τ : zSg) : Prop := l0 = a ∧ l1 = f ∧ (a = 0 → ∀ A nf nt Lo, xDp σ A nf nt Lo → (0 ≤ f.toInt ∧ f.toInt < (nf : Int)) ∧ ∃ N, N ≤ 201 ∧ l2 = Int32.ofNat N ∧ xDa σ τ A (hHs Lo nt true A N).1 Lo ∧ ∀ i, i < N → ∀ F, f = Int32.ofNat F → F < nf → ¬ (hHs Lo nt true A i).1 (40 + 4 * F) = Int32.ofInt 0)
theorem sp_154_en (a0 : Nat) (a1 : Int32) (σ : zSg) (τ1 : zSg) (τ2 : zSg) (g1 : p_167 a0 a1 σ (.inl 0) τ1) (g2 : p_23 (q_r (τ1.1 a0 3)) (q_r (τ1.1 a0 2)) τ1 τ2) :
    i_154 a0 a1 σ a0 a1 (Int32.ofInt (0)) τ2 := by
  refine ⟨rfl, rfl, ?_⟩
  rintro rfl A nf nt Lo K
  have z0 : (Int32.ofInt 0).toInt = 0 := rfl
  have z1 : (Int32.ofInt 1).toInt = 1 := rfl
  have z2 : (Int32.ofInt 2).toInt = 2 := rfl
  have z99 : (Int32.ofInt 99).toInt = 99 := rfl
  have z200 : (Int32.ofInt 200).toInt = 200 := rfl
  obtain ⟨rfl, g1⟩ := g1
  have u := (g1 rfl K.1 A nf K.2.1 K.2.2.2.1.1.1 K.2.2.2.1.1.2.1).1 rfl
  have q0 := K.1.q
  rw [q0.2.1, q0.2.2.1] at g2
  exact ⟨u, 0, by omega, rfl, K.cp g2, fun i hi => absurd hi (by omega)⟩
theorem sp_154_ex2_ (a0 : Nat) (a1 : Int32) (σ : zSg) (τ1 : zSg) (g1 : p_167 a0 a1 σ (.inr 2) τ1) :
    p_154 (a0) (a1) σ (.inr 2) τ1 := by
  rintro rfl A nf nt Lo K
  have z0 : (Int32.ofInt 0).toInt = 0 := rfl
  have z1 : (Int32.ofInt 1).toInt = 1 := rfl
  have z2 : (Int32.ofInt 2).toInt = 2 := rfl
  have z99 : (Int32.ofInt 99).toInt = 99 := rfl
  have z200 : (Int32.ofInt 200).toInt = 200 := rfl
  have k6 := K.2.2.2.1.1.2.1
  obtain ⟨rfl, g1⟩ := g1
  have u := (g1 rfl K.1 A nf K.2.1 K.2.2.2.1.1.1 K.2.2.2.1.1.2.1).2 rfl
  exact ⟨fun _ => ⟨rfl, rfl⟩, fun F e h => absurd (by rw [e, o32 (by omega)]; omega) u⟩
theorem sp_154_c10_t (a0 : Nat) (a1 : Int32) (σ : zSg) (l0 : Nat) (l1 : Int32) (l2 : Int32) (τ : zSg) (hI : i_154 a0 a1 σ l0 l1 l2 τ) (h3 : l2.toInt > (200 : Int)) :
    p_154 (a0) (a1) σ (.inl (Int32.ofInt (-1))) τ := by
  obtain ⟨rfl, rfl, hI⟩ := hI
  rintro rfl A nf nt Lo K
  obtain ⟨RNG, N, hN2, rfl, D, hno⟩ := hI rfl A nf nt Lo K
  have z200 : (Int32.ofInt 200).toInt = 200 := rfl
  rw [o32 (by omega)] at h3
  refine ⟨fun q => absurd RNG q, fun F eF hF => ⟨⟨_, D⟩, _, rfl, Or.inr ⟨rfl, fun i hi => hno i (by omega) F eF hF⟩⟩⟩
theorem sp_154_c10_ft (a0 : Nat) (a1 : Int32) (σ : zSg) (l0 : Nat) (l1 : Int32) (l2 : Int32) (τ : zSg) (τ4 : zSg) (r4 : Int32) (τ6 : zSg) (r6 : Int32) (hI : i_154 a0 a1 σ l0 l1 l2 τ) (h3 : l2.toInt ≤ (200 : Int)) (g4 : p_16 (q_r (τ.1 (q_r (τ.1 l0 3)) 1)) l1 τ r4 τ4) (h5 : r4.toInt ≠ (0 : Int)) (g6 : p_34 (q_r (τ4.1 l0 3)) (Int32.ofInt (0)) τ4 r6 τ6) :
    i_154 a0 a1 σ l0 l1 (l2 + Int32.ofInt (1)) τ6 := by
  obtain ⟨rfl, rfl, hI⟩ := hI
  refine ⟨rfl, rfl, ?_⟩
  rintro rfl A nf nt Lo K
  obtain ⟨RNG, N, hN2, rfl, D, hno⟩ := hI rfl A nf nt Lo K
  have z200 : (Int32.ofInt 200).toInt = 200 := rfl
  rw [o32 (by omega)] at h3
  have qs := (D.1.sk K.1).q
  have d1 := D.2.1.k hk_1
  rw [qs.2.2.1, d1] at g4
  obtain ⟨e9, g9⟩ := g4
  subst e9
  have qs := (D.1.sk K.1).q
  have IA := K.2.2.2.1.hs (Lo := Lo) (calm := true) N
  rw [qs.2.2.1] at g6
  obtain ⟨fE, KE, -⟩ := (g6 (by omega) _ nf nt Lo D.2.1 IA D.2.2).1 rfl
  have D' := D.st fE KE
  refine ⟨RNG, N + 1, by omega, o32i (by omega), D', fun i hi F eF hF => ?_⟩
  by_cases q : i = N
  · rw [q]
    have x9 := g9 21 _ nf rfl D.2.1 IA.1.1 IA.1.2.1 F eF hF
    rw [← x9]
    intro w
    rw [w] at h5
    exact h5 rfl
  · exact hno i (by omega) F eF hF
theorem sp_154_c10_ff (a0 : Nat) (a1 : Int32) (σ : zSg) (l0 : Nat) (l1 : Int32) (l2 : Int32) (τ : zSg) (τ4 : zSg) (r4 : Int32) (hI : i_154 a0 a1 σ l0 l1 l2 τ) (h3 : l2.toInt ≤ (200 : Int)) (g4 : p_16 (q_r (τ.1 (q_r (τ.1 l0 3)) 1)) l1 τ r4 τ4) (h5 : r4.toInt = (0 : Int)) :
    p_154 (a0) (a1) σ (.inl l2) τ4 := by
  obtain ⟨rfl, rfl, hI⟩ := hI
  rintro rfl A nf nt Lo K
  obtain ⟨RNG, N, hN2, rfl, D, hno⟩ := hI rfl A nf nt Lo K
  have z200 : (Int32.ofInt 200).toInt = 200 := rfl
  rw [o32 (by omega)] at h3
  have qs := (D.1.sk K.1).q
  have d1 := D.2.1.k hk_1
  rw [qs.2.2.1, d1] at g4
  obtain ⟨e9, g9⟩ := g4
  subst e9
  have IA := K.2.2.2.1.hs (Lo := Lo) (calm := true) N
  refine ⟨fun q => absurd RNG q, fun F eF hF => ⟨⟨_, D⟩, _, rfl, Or.inl ⟨N, by omega, rfl, ?_, fun i hi => hno i hi F eF hF⟩⟩⟩
  have x9 := g9 21 _ nf rfl D.2.1 IA.1.1 IA.1.2.1 F eF hF
  show (hHs Lo nt true A N).1 (40 + 4 * F) = Int32.ofInt 0
  rw [← x9]
  exact Int32.toInt_inj.mp h5
noncomputable def qP_154 : zPp := fun as σ o σ' => match as with
  | [a0, a1] => (∃ r, o = .inl (some (.int r)) ∧ p_154 (q_r a0) (q_i a1) σ (.inl r) σ') ∨ (o = .inr 2 ∧ p_154 (q_r a0) (q_i a1) σ (.inr 2) σ')
  | _ => True
set_option maxRecDepth 100000 in
theorem sp_154 {sx : zX} (S167 : zEe sx 167 2 qP_167) (S23 : zEe sx 23 2 qP_23) (S16 : zEe sx 16 2 qP_16) (S34 : zEe sx 34 2 qP_34) : zEe sx 154 2 qP_154 := by
  refine zfle zJ_154 (sps := [(167, 2, qP_167), (23, 2, qP_23), (16, 2, qP_16), (34, 2, qP_34)]) (fun q hq => by
    simp only [List.mem_cons, List.not_mem_nil, or_false] at hq
    rcases hq with rfl | rfl | rfl | rfl
    · exact S167
    · exact S23
    · exact S16
    · exact S34) (fun as σ hl => ?_)
  match as, hl with
  | [a0, a1], _ =>
  refine ⟨[(10, fun lo st τ => st = [] ∧ i_154 (q_r a0) (q_i a1) σ (q_r (lo 0)) (q_i (lo 1)) (q_i (lo 2)) τ)], 400, ?_, ?_⟩
  · intro q hq
    simp only [List.mem_cons, List.not_mem_nil, or_false] at hq
    rcases hq with rfl
    · rintro lo st τ ⟨rfl, hI⟩
      refine ⟨400, ?_⟩
      refine And.intro (fun h3 => ?_) (fun h3 => ?_)
      · exact Or.inl ⟨_, rfl, sp_154_c10_t (q_r a0) (q_i a1) σ (q_r (lo 0)) (q_i (lo 1)) (q_i (lo 2)) τ hI (cm4t h3)⟩
      · refine fun o4 τ4 g4 => ?_
        obtain ⟨r4, rfl, g4⟩ := g4
        refine And.intro (fun h5 => ?_) (fun h5 => ?_)
        · refine fun o6 τ6 g6 => ?_
          obtain ⟨r6, rfl, g6⟩ := g6
          exact ⟨rfl, sp_154_c10_ft (q_r a0) (q_i a1) σ (q_r (lo 0)) (q_i (lo 1)) (q_i (lo 2)) τ τ4 r4 τ6 r6 hI (cm4f h3) g4 (cm1t h5) g6⟩
        · exact Or.inl ⟨_, rfl, sp_154_c10_ff (q_r a0) (q_i a1) σ (q_r (lo 0)) (q_i (lo 1)) (q_i (lo 2)) τ τ4 r4 hI (cm4f h3) g4 (cm1f h5)⟩
  · refine fun o1 τ1 g1 => ?_
    rcases g1 with ⟨rfl, g1⟩ | ⟨rfl, g1⟩
    · refine fun o2 τ2 g2 => ?_
      obtain ⟨rfl, g2⟩ := g2
      exact ⟨rfl, sp_154_en (q_r a0) (q_i a1) σ τ1 τ2 g1 g2⟩
    · exact Or.inr (⟨rfl, sp_154_ex2_ (q_r a0) (q_i a1) σ τ1 g1⟩)
/-- the hour on which the heat is the greatest so far, and the heat -/
noncomputable def aWm (f : Nat → Int32) : Nat → Nat × Int32
  | 0 => (0, f 0)
  | n + 1 => if (aWm f n).2.toInt < (f (n + 1)).toInt then (n + 1, f (n + 1)) else aWm f n
theorem zJ_153 : zJ3 153 z_m153 z_c153 z_h153 := ⟨rfl, rfl, rfl⟩
noncomputable def p_153 (a : Nat) (n : Int32) (σ : zSg) (e : Int32 ⊕ Nat) (σ' : zSg) : Prop := a = 0 → ∀ A nf nt Lo, xDp σ A nf nt Lo → (¬ (1 ≤ n.toInt ∧ n.toInt ≤ 200) → e = .inr 0 ∧ σ' = σ) ∧ (∀ N, n = Int32.ofNat N → 1 ≤ N → N ≤ 200 → (∃ B, xDa σ σ' A B Lo) ∧ e = .inl (Int32.ofNat (aWm (fun i => (hHs Lo nt true A i).1 6) N).1))
noncomputable def i_153 (a : Nat) (n : Int32) (σ : zSg) (l0 : Nat) (l1 l2 l3 l4 : Int32) (τ : zSg) : Prop := l0 = a ∧ l1 = n ∧ (a = 0 → ∀ A nf nt Lo, xDp σ A nf nt Lo → ∃ N, n = Int32.ofNat N ∧ 1 ≤ N ∧ N ≤ 200 ∧ ∃ i, 1 ≤ i ∧ i ≤ N + 1 ∧ l4 = Int32.ofNat i ∧ xDa σ τ A (hHs Lo nt true A (i - 1)).1 Lo ∧ l2 = Int32.ofNat (aWm (fun i => (hHs Lo nt true A i).1 6) (i - 1)).1 ∧ l3 = (aWm (fun i => (hHs Lo nt true A i).1 6) (i - 1)).2)
theorem sp_153_en (a0 : Nat) (a1 : Int32) (σ : zSg) (τ1 : zSg) (τ2 : zSg) (g1 : p_170 a0 a1 (Int32.ofInt (1)) (Int32.ofInt (200)) σ (.inl 0) τ1) (g2 : p_23 (q_r (τ1.1 a0 3)) (q_r (τ1.1 a0 2)) τ1 τ2) :
    i_153 a0 a1 σ a0 a1 (Int32.ofInt (0)) (q_i (τ2.1 (q_r (τ2.1 a0 3)) 9)) (Int32.ofInt (1)) τ2 := by
  refine ⟨rfl, rfl, ?_⟩
  rintro rfl A nf nt Lo K
  have z0 : (Int32.ofInt 0).toInt = 0 := rfl
  have z1 : (Int32.ofInt 1).toInt = 1 := rfl
  have z2 : (Int32.ofInt 2).toInt = 2 := rfl
  have z99 : (Int32.ofInt 99).toInt = 99 := rfl
  have z200 : (Int32.ofInt 200).toInt = 200 := rfl
  obtain ⟨rfl, u, -⟩ := g1
  have u := u rfl
  have q0 := K.1.q
  rw [q0.2.1, q0.2.2.1] at g2
  have D := K.cp g2
  have qs := (D.1.sk K.1).q
  have y := D.2.1.p (hp_s (k := 6) (by omega) (by omega))
  simp only [Nat.reduceAdd] at y
  rw [qs.2.2.1, y]
  exact ⟨a1.toInt.toNat, Int32.toInt_inj.mp (by rw [o32 (by omega)]; omega), by omega, by omega, 1, by omega, by omega, rfl, D, rfl, rfl⟩
theorem sp_153_ex0_ (a0 : Nat) (a1 : Int32) (σ : zSg) (τ1 : zSg) (g1 : p_170 a0 a1 (Int32.ofInt (1)) (Int32.ofInt (200)) σ (.inr 0) τ1) :
    p_153 (a0) (a1) σ (.inr 0) τ1 := by
  rintro rfl A nf nt Lo K
  have z0 : (Int32.ofInt 0).toInt = 0 := rfl
  have z1 : (Int32.ofInt 1).toInt = 1 := rfl
  have z2 : (Int32.ofInt 2).toInt = 2 := rfl
  have z99 : (Int32.ofInt 99).toInt = 99 := rfl
  have z200 : (Int32.ofInt 200).toInt = 200 := rfl
  obtain ⟨rfl, -, u⟩ := g1
  have u := u rfl
  exact ⟨fun _ => ⟨rfl, rfl⟩, fun N e h1 h2 => absurd (by rw [e, o32 (by omega)]; omega) u⟩
theorem sp_153_c18_t (a0 : Nat) (a1 : Int32) (σ : zSg) (l0 : Nat) (l1 : Int32) (l2 : Int32) (l3 : Int32) (l4 : Int32) (τ : zSg) (hI : i_153 a0 a1 σ l0 l1 l2 l3 l4 τ) (h3 : l4.toInt > l1.toInt) :
    p_153 (a0) (a1) σ (.inl l2) τ := by
  obtain ⟨rfl, rfl, hI⟩ := hI
  rintro rfl A nf nt Lo K
  obtain ⟨N, rfl, h1, h200, i, hi1, hi, e4, D, ew⟩ := hI rfl A nf nt Lo K
  subst e4
  rw [o32 (by omega), o32 (by omega)] at h3
  have ei : i - 1 = N := by omega
  obtain ⟨rfl, rfl⟩ := ew
  refine ⟨fun q => absurd (by rw [o32 (by omega)]; omega) q, fun M eM g1 g2 => ?_⟩
  have h9 := congrArg Int32.toInt eM
  rw [o32 (by omega), o32 (by omega)] at h9
  have r1 : i - 1 = M := by omega
  rw [r1] at D ⊢
  exact ⟨⟨_, D⟩, rfl⟩
theorem sp_153_c18_ft (a0 : Nat) (a1 : Int32) (σ : zSg) (l0 : Nat) (l1 : Int32) (l2 : Int32) (l3 : Int32) (l4 : Int32) (τ : zSg) (τ4 : zSg) (r4 : Int32) (hI : i_153 a0 a1 σ l0 l1 l2 l3 l4 τ) (h3 : l4.toInt ≤ l1.toInt) (g4 : p_34 (q_r (τ.1 l0 3)) (Int32.ofInt (0)) τ r4 τ4) (h5 : (q_i (τ4.1 (q_r (τ4.1 l0 3)) 9)).toInt ≤ l3.toInt) :
    i_153 a0 a1 σ l0 l1 l2 l3 (l4 + Int32.ofInt (1)) τ4 := by
  obtain ⟨rfl, rfl, hI⟩ := hI
  refine ⟨rfl, rfl, ?_⟩
  rintro rfl A nf nt Lo K
  obtain ⟨N, rfl, h1, h200, i, hi1, hi, e4, D, ew⟩ := hI rfl A nf nt Lo K
  subst e4
  rw [o32 (by omega), o32 (by omega)] at h3
  have qs := (D.1.sk K.1).q
  have IA := K.2.2.2.1.hs (Lo := Lo) (calm := true) (i - 1)
  rw [qs.2.2.1] at g4
  obtain ⟨fE, KE, -⟩ := (g4 (by omega) _ nf nt Lo D.2.1 IA D.2.2).1 rfl
  have D' := D.st fE KE
  obtain ⟨k, rfl⟩ : ∃ k, i = k + 1 := ⟨i - 1, by omega⟩
  rw [Nat.add_sub_cancel] at D' ew
  have qt := (D'.1.sk K.1).q
  have y := D'.2.1.p (hp_s (k := 6) (by omega) (by omega))
  simp only [Nat.reduceAdd] at y
  obtain ⟨rfl, rfl⟩ := ew
  rw [qt.2.2.1, y] at h5
  have es : aWm (fun i => (hHs Lo nt true A i).1 6) (k + 1) = aWm (fun i => (hHs Lo nt true A i).1 6) k := if_neg (fun q => absurd q (Int.not_lt.mpr h5))
  refine ⟨N, rfl, h1, h200, k + 1 + 1, by omega, by omega, o32i (by omega), D', ?_, ?_⟩
  · rw [Nat.add_sub_cancel, es]
  · rw [Nat.add_sub_cancel, es]
theorem sp_153_c18_ff (a0 : Nat) (a1 : Int32) (σ : zSg) (l0 : Nat) (l1 : Int32) (l2 : Int32) (l3 : Int32) (l4 : Int32) (τ : zSg) (τ4 : zSg) (r4 : Int32) (hI : i_153 a0 a1 σ l0 l1 l2 l3 l4 τ) (h3 : l4.toInt ≤ l1.toInt) (g4 : p_34 (q_r (τ.1 l0 3)) (Int32.ofInt (0)) τ r4 τ4) (h5 : (q_i (τ4.1 (q_r (τ4.1 l0 3)) 9)).toInt > l3.toInt) :
    i_153 a0 a1 σ l0 l1 l4 (q_i (τ4.1 (q_r (τ4.1 l0 3)) 9)) (l4 + Int32.ofInt (1)) τ4 := by
  obtain ⟨rfl, rfl, hI⟩ := hI
  refine ⟨rfl, rfl, ?_⟩
  rintro rfl A nf nt Lo K
  obtain ⟨N, rfl, h1, h200, i, hi1, hi, e4, D, ew⟩ := hI rfl A nf nt Lo K
  subst e4
  rw [o32 (by omega), o32 (by omega)] at h3
  have qs := (D.1.sk K.1).q
  have IA := K.2.2.2.1.hs (Lo := Lo) (calm := true) (i - 1)
  rw [qs.2.2.1] at g4
  obtain ⟨fE, KE, -⟩ := (g4 (by omega) _ nf nt Lo D.2.1 IA D.2.2).1 rfl
  have D' := D.st fE KE
  obtain ⟨k, rfl⟩ : ∃ k, i = k + 1 := ⟨i - 1, by omega⟩
  rw [Nat.add_sub_cancel] at D' ew
  have qt := (D'.1.sk K.1).q
  have y := D'.2.1.p (hp_s (k := 6) (by omega) (by omega))
  simp only [Nat.reduceAdd] at y
  obtain ⟨rfl, rfl⟩ := ew
  rw [qt.2.2.1, y] at h5
  have es : aWm (fun i => (hHs Lo nt true A i).1 6) (k + 1) = (k + 1, (hHs Lo nt true A (k + 1)).1 6) := if_pos h5
  refine ⟨N, rfl, h1, h200, k + 1 + 1, by omega, by omega, o32i (by omega), D', ?_, ?_⟩
  · rw [Nat.add_sub_cancel, es]
  · rw [Nat.add_sub_cancel, es, qt.2.2.1, y]
    rfl
noncomputable def qP_153 : zPp := fun as σ o σ' => match as with
  | [a0, a1] => (∃ r, o = .inl (some (.int r)) ∧ p_153 (q_r a0) (q_i a1) σ (.inl r) σ') ∨ (o = .inr 0 ∧ p_153 (q_r a0) (q_i a1) σ (.inr 0) σ')
  | _ => True
set_option maxRecDepth 100000 in
theorem sp_153 {sx : zX} (S170 : zEe sx 170 4 qP_170) (S23 : zEe sx 23 2 qP_23) (S34 : zEe sx 34 2 qP_34) : zEe sx 153 2 qP_153 := by
  refine zfle zJ_153 (sps := [(170, 4, qP_170), (23, 2, qP_23), (34, 2, qP_34)]) (fun q hq => by
    simp only [List.mem_cons, List.not_mem_nil, or_false] at hq
    rcases hq with rfl | rfl | rfl
    · exact S170
    · exact S23
    · exact S34) (fun as σ hl => ?_)
  match as, hl with
  | [a0, a1], _ =>
  refine ⟨[(18, fun lo st τ => st = [] ∧ i_153 (q_r a0) (q_i a1) σ (q_r (lo 0)) (q_i (lo 1)) (q_i (lo 2)) (q_i (lo 3)) (q_i (lo 4)) τ)], 400, ?_, ?_⟩
  · intro q hq
    simp only [List.mem_cons, List.not_mem_nil, or_false] at hq
    rcases hq with rfl
    · rintro lo st τ ⟨rfl, hI⟩
      refine ⟨400, ?_⟩
      refine And.intro (fun h3 => ?_) (fun h3 => ?_)
      · exact Or.inl ⟨_, rfl, sp_153_c18_t (q_r a0) (q_i a1) σ (q_r (lo 0)) (q_i (lo 1)) (q_i (lo 2)) (q_i (lo 3)) (q_i (lo 4)) τ hI (cm4t h3)⟩
      · refine fun o4 τ4 g4 => ?_
        obtain ⟨r4, rfl, g4⟩ := g4
        refine And.intro (fun h5 => ?_) (fun h5 => ?_)
        · exact ⟨rfl, sp_153_c18_ft (q_r a0) (q_i a1) σ (q_r (lo 0)) (q_i (lo 1)) (q_i (lo 2)) (q_i (lo 3)) (q_i (lo 4)) τ τ4 r4 hI (cm4f h3) g4 (cm5t h5)⟩
        · exact ⟨rfl, sp_153_c18_ff (q_r a0) (q_i a1) σ (q_r (lo 0)) (q_i (lo 1)) (q_i (lo 2)) (q_i (lo 3)) (q_i (lo 4)) τ τ4 r4 hI (cm4f h3) g4 (cm5f h5)⟩
  · refine fun o1 τ1 g1 => ?_
    rcases g1 with ⟨rfl, g1⟩ | ⟨rfl, g1⟩
    · refine fun o2 τ2 g2 => ?_
      obtain ⟨rfl, g2⟩ := g2
      exact ⟨rfl, sp_153_en (q_r a0) (q_i a1) σ τ1 τ2 g1 g2⟩
    · exact Or.inr (⟨rfl, sp_153_ex0_ (q_r a0) (q_i a1) σ τ1 g1⟩)
noncomputable def p_38 (a : Nat) (n s : Int32) (σ : zSg) (r : Int32) (σ' : zSg) : Prop := σ' = σ
noncomputable def i_38 (a : Nat) (n s : Int32) (σ : zSg) (l0 : Nat) (l1 l3 l4 l5 : Int32) (τ : zSg) : Prop := τ = σ
noncomputable def p_19 (a : Nat) (σ : zSg) (r : Int32) (σ' : zSg) : Prop := σ' = σ
noncomputable def i_19 (a : Nat) (σ : zSg) (l0 : Nat) (l1 l2 : Int32) (τ : zSg) : Prop := τ = σ
theorem zJ_38 : zJ3 38 z_m38 z_c38 z_h38 := ⟨rfl, rfl, rfl⟩
theorem sp_38_e (a0 : Nat) (a1 : Int32) (a2 : Int32) (σ : zSg)  :
    i_38 a0 a1 a2 σ a0 a1 a2 (q_i (σ.1 a0 11)) (Int32.ofInt (0)) σ := by
  exact rfl
theorem sp_38_c7_t (a0 : Nat) (a1 : Int32) (a2 : Int32) (σ : zSg) (l0 : Nat) (l1 : Int32) (l3 : Int32) (l4 : Int32) (l5 : Int32) (τ : zSg) (hI : i_38 a0 a1 a2 σ l0 l1 l3 l4 l5 τ) (h1 : l5.toInt ≥ l1.toInt) :
    p_38 (a0) (a1) (a2) σ l4 τ := by
  exact hI
theorem sp_38_c7_ft (a0 : Nat) (a1 : Int32) (a2 : Int32) (σ : zSg) (l0 : Nat) (l1 : Int32) (l3 : Int32) (l4 : Int32) (l5 : Int32) (τ : zSg) (τ2 : zSg) (r2 : Int32) (τ3 : zSg) (r3 : Int32) (hI : i_38 a0 a1 a2 σ l0 l1 l3 l4 l5 τ) (h1 : l5.toInt < l1.toInt) (g2 : p_39 l3 τ r2 τ2) (g3 : p_26 l0 ((q_i (τ2.1 l0 7)) + l5) τ2 r3 τ3) (h4 : r3.toInt = (-1 : Int)) :
    i_38 a0 a1 a2 σ l0 l1 r2 l4 (l5 + Int32.ofInt (1)) τ3 := by
  obtain ⟨rfl, -⟩ := g2
  obtain ⟨rfl, -⟩ := g3
  exact hI
theorem sp_38_c7_fft (a0 : Nat) (a1 : Int32) (a2 : Int32) (σ : zSg) (l0 : Nat) (l1 : Int32) (l3 : Int32) (l4 : Int32) (l5 : Int32) (τ : zSg) (τ2 : zSg) (r2 : Int32) (τ3 : zSg) (r3 : Int32) (τ5 : zSg) (r5 : Int32) (hI : i_38 a0 a1 a2 σ l0 l1 l3 l4 l5 τ) (h1 : l5.toInt < l1.toInt) (g2 : p_39 l3 τ r2 τ2) (g3 : p_26 l0 ((q_i (τ2.1 l0 7)) + l5) τ2 r3 τ3) (h4 : r3.toInt ≠ (-1 : Int)) (g5 : p_40 l0 r2 τ3 r5 τ5) (h6 : r5.toInt = (0 : Int)) :
    i_38 a0 a1 a2 σ l0 l1 r2 l4 (l5 + Int32.ofInt (1)) τ5 := by
  obtain ⟨rfl, -⟩ := g2
  obtain ⟨rfl, -⟩ := g3
  obtain ⟨rfl, -⟩ := g5
  exact hI
theorem sp_38_c7_fff (a0 : Nat) (a1 : Int32) (a2 : Int32) (σ : zSg) (l0 : Nat) (l1 : Int32) (l3 : Int32) (l4 : Int32) (l5 : Int32) (τ : zSg) (τ2 : zSg) (r2 : Int32) (τ3 : zSg) (r3 : Int32) (τ5 : zSg) (r5 : Int32) (hI : i_38 a0 a1 a2 σ l0 l1 l3 l4 l5 τ) (h1 : l5.toInt < l1.toInt) (g2 : p_39 l3 τ r2 τ2) (g3 : p_26 l0 ((q_i (τ2.1 l0 7)) + l5) τ2 r3 τ3) (h4 : r3.toInt ≠ (-1 : Int)) (g5 : p_40 l0 r2 τ3 r5 τ5) (h6 : r5.toInt ≠ (0 : Int)) :
    i_38 a0 a1 a2 σ l0 l1 r2 (if (l4 + (Int32.ofInt (1))) < (Int32.ofInt (9)) then (l4 + (Int32.ofInt (1))) else (Int32.ofInt (9))) (l5 + Int32.ofInt (1)) τ5 := by
  obtain ⟨rfl, -⟩ := g2
  obtain ⟨rfl, -⟩ := g3
  obtain ⟨rfl, -⟩ := g5
  exact hI
noncomputable def qP_38 : zPp := fun as σ o σ' => match as with
  | [a0, a1, a2] => ∃ r, o = .inl (some (.int r)) ∧ p_38 (q_r a0) (q_i a1) (q_i a2) σ r σ'
  | _ => True
set_option maxRecDepth 100000 in
theorem sp_38 {sx : zX} (S39 : zEe sx 39 1 qP_39) (S26 : zEe sx 26 2 qP_26) (S40 : zEe sx 40 2 qP_40) : zEe sx 38 3 qP_38 := by
  refine zfle zJ_38 (sps := [(39, 1, qP_39), (26, 2, qP_26), (40, 2, qP_40)]) (fun q hq => by
    simp only [List.mem_cons, List.not_mem_nil, or_false] at hq
    rcases hq with rfl | rfl | rfl
    · exact S39
    · exact S26
    · exact S40) (fun as σ hl => ?_)
  match as, hl with
  | [a0, a1, a2], _ =>
  refine ⟨[(7, fun lo st τ => st = [] ∧ i_38 (q_r a0) (q_i a1) (q_i a2) σ (q_r (lo 0)) (q_i (lo 1)) (q_i (lo 3)) (q_i (lo 4)) (q_i (lo 5)) τ)], 400, ?_, ?_⟩
  · intro q hq
    simp only [List.mem_cons, List.not_mem_nil, or_false] at hq
    rcases hq with rfl
    · rintro lo st τ ⟨rfl, hI⟩
      refine ⟨400, ?_⟩
      refine And.intro (fun h1 => ?_) (fun h1 => ?_)
      · exact ⟨_, rfl, sp_38_c7_t (q_r a0) (q_i a1) (q_i a2) σ (q_r (lo 0)) (q_i (lo 1)) (q_i (lo 3)) (q_i (lo 4)) (q_i (lo 5)) τ hI (cm3t h1)⟩
      · refine fun o2 τ2 g2 => ?_
        obtain ⟨r2, rfl, g2⟩ := g2
        refine fun o3 τ3 g3 => ?_
        obtain ⟨r3, rfl, g3⟩ := g3
        refine And.intro (fun h4 => ?_) (fun h4 => ?_)
        · exact ⟨rfl, sp_38_c7_ft (q_r a0) (q_i a1) (q_i a2) σ (q_r (lo 0)) (q_i (lo 1)) (q_i (lo 3)) (q_i (lo 4)) (q_i (lo 5)) τ τ2 r2 τ3 r3 hI (cm3f h1) g2 g3 (cm0t h4)⟩
        · refine fun o5 τ5 g5 => ?_
          obtain ⟨r5, rfl, g5⟩ := g5
          refine And.intro (fun h6 => ?_) (fun h6 => ?_)
          · exact ⟨rfl, sp_38_c7_fft (q_r a0) (q_i a1) (q_i a2) σ (q_r (lo 0)) (q_i (lo 1)) (q_i (lo 3)) (q_i (lo 4)) (q_i (lo 5)) τ τ2 r2 τ3 r3 τ5 r5 hI (cm3f h1) g2 g3 (cm0f h4) g5 (cm0t h6)⟩
          · exact ⟨rfl, sp_38_c7_fff (q_r a0) (q_i a1) (q_i a2) σ (q_r (lo 0)) (q_i (lo 1)) (q_i (lo 3)) (q_i (lo 4)) (q_i (lo 5)) τ τ2 r2 τ3 r3 τ5 r5 hI (cm3f h1) g2 g3 (cm0f h4) g5 (cm0f h6)⟩
  · exact ⟨rfl, sp_38_e (q_r a0) (q_i a1) (q_i a2) σ ⟩
theorem zJ_19 : zJ3 19 z_m19 z_c19 z_h19 := ⟨rfl, rfl, rfl⟩
theorem sp_19_e (a0 : Nat) (σ : zSg)  :
    i_19 a0 σ a0 (Int32.ofInt (0)) (Int32.ofInt (0)) σ := by
  exact rfl
theorem sp_19_c4_t (a0 : Nat) (σ : zSg) (l0 : Nat) (l1 : Int32) (l2 : Int32) (τ : zSg) (hI : i_19 a0 σ l0 l1 l2 τ) (h1 : l2.toInt ≥ (q_i (τ.1 l0 4)).toInt) :
    p_19 (a0) σ l1 τ := by
  exact hI
theorem sp_19_c4_f (a0 : Nat) (σ : zSg) (l0 : Nat) (l1 : Int32) (l2 : Int32) (τ : zSg) (hI : i_19 a0 σ l0 l1 l2 τ) (h1 : l2.toInt < (q_i (τ.1 l0 4)).toInt) (h2 : 0 ≤ l2.toInt ∧ l2.toInt < (τ.2.1 (q_r (τ.1 l0 0)) : Int)) :
    i_19 a0 σ l0 (l1 + (q_i (τ.1 (q_r (τ.1 l0 0)) l2.toNatClampNeg))) (l2 + Int32.ofInt (1)) τ := by
  exact hI
noncomputable def qP_19 : zPp := fun as σ o σ' => match as with
  | [a0] => ∃ r, o = .inl (some (.int r)) ∧ p_19 (q_r a0) σ r σ'
  | _ => True
set_option maxRecDepth 100000 in
theorem sp_19 {sx : zX}  : zEe sx 19 1 qP_19 := by
  refine zfle zJ_19 (sps := []) (fun q hq => absurd hq List.not_mem_nil) (fun as σ hl => ?_)
  match as, hl with
  | [a0], _ =>
  refine ⟨[(4, fun lo st τ => st = [] ∧ i_19 (q_r a0) σ (q_r (lo 0)) (q_i (lo 1)) (q_i (lo 2)) τ)], 400, ?_, ?_⟩
  · intro q hq
    simp only [List.mem_cons, List.not_mem_nil, or_false] at hq
    rcases hq with rfl
    · rintro lo st τ ⟨rfl, hI⟩
      refine ⟨400, ?_⟩
      refine And.intro (fun h1 => ?_) (fun h1 => ?_)
      · exact ⟨_, rfl, sp_19_c4_t (q_r a0) σ (q_r (lo 0)) (q_i (lo 1)) (q_i (lo 2)) τ hI (cm3t h1)⟩
      · refine fun h2 => ?_
        exact ⟨rfl, sp_19_c4_f (q_r a0) σ (q_r (lo 0)) (q_i (lo 1)) (q_i (lo 2)) τ hI (cm3f h1) (q_inp h2)⟩
  · exact ⟨rfl, sp_19_e (q_r a0) σ ⟩
theorem zJ_157 : zJ3 157 z_m157 z_c157 z_h157 := ⟨rfl, rfl, rfl⟩
noncomputable def p_157 (a : Nat) (n w : Int32) (σ : zSg) (e : Int32 ⊕ Nat) (σ' : zSg) : Prop := a = 0 → ∀ A nf nt Lo, xDp σ A nf nt Lo → (¬ (0 ≤ n.toInt ∧ n.toInt ≤ 200) → e = .inr 0 ∧ σ' = σ) ∧ ((0 ≤ n.toInt ∧ n.toInt ≤ 200) → (∃ r, e = .inl r) ∧ (σ' = σ ∨ ∃ B, xDa σ σ' A B Lo))
noncomputable def i_157 (a : Nat) (n w : Int32) (σ : zSg) (l0 : Nat) (l1 l3 : Int32) (τ : zSg) : Prop := l0 = a ∧ l1 = n ∧ (a = 0 → ∀ A nf nt Lo, xDp σ A nf nt Lo → ∃ N, n = Int32.ofNat N ∧ N ≤ 200 ∧ ∃ i, i ≤ N ∧ l3 = Int32.ofNat i ∧ xDa σ τ A (hHs Lo nt false A i).1 Lo)
theorem sp_157_ent (a0 : Nat) (a1 : Int32) (a2 : Int32) (σ : zSg) (τ1 : zSg) (τ3 : zSg) (g1 : p_170 a0 a1 (Int32.ofInt (0)) (Int32.ofInt (200)) σ (.inl 0) τ1) (h2 : a2.toInt ≠ (0 : Int)) (g3 : p_23 (q_r (τ1.1 a0 3)) (q_r (τ1.1 a0 2)) τ1 τ3) :
    i_157 a0 a1 a2 σ a0 a1 (Int32.ofInt (0)) τ3 := by
  refine ⟨rfl, rfl, ?_⟩
  rintro rfl A nf nt Lo K
  have z0 : (Int32.ofInt 0).toInt = 0 := rfl
  have z1 : (Int32.ofInt 1).toInt = 1 := rfl
  have z2 : (Int32.ofInt 2).toInt = 2 := rfl
  have z99 : (Int32.ofInt 99).toInt = 99 := rfl
  have z200 : (Int32.ofInt 200).toInt = 200 := rfl
  obtain ⟨rfl, u, -⟩ := g1
  have u := u rfl
  have q0 := K.1.q
  rw [q0.2.1, q0.2.2.1] at g3
  exact ⟨a1.toInt.toNat, Int32.toInt_inj.mp (by rw [o32 (by omega)]; omega), by omega, 0, Nat.zero_le _, rfl, K.cp g3⟩
theorem sp_157_enf (a0 : Nat) (a1 : Int32) (a2 : Int32) (σ : zSg) (τ1 : zSg) (τ4 : zSg) (r4 : Int32) (g1 : p_170 a0 a1 (Int32.ofInt (0)) (Int32.ofInt (200)) σ (.inl 0) τ1) (h2 : a2.toInt = (0 : Int)) (g4 : p_38 (q_r (τ1.1 a0 2)) a1 (q_i (τ1.1 (q_r (τ1.1 a0 2)) 17)) τ1 r4 τ4) :
    p_157 (a0) (a1) (a2) σ (.inl r4) τ4 := by
  rintro rfl A nf nt Lo K
  have z0 : (Int32.ofInt 0).toInt = 0 := rfl
  have z1 : (Int32.ofInt 1).toInt = 1 := rfl
  have z2 : (Int32.ofInt 2).toInt = 2 := rfl
  have z99 : (Int32.ofInt 99).toInt = 99 := rfl
  have z200 : (Int32.ofInt 200).toInt = 200 := rfl
  obtain ⟨rfl, u, -⟩ := g1
  have u := u rfl
  obtain rfl := g4
  exact ⟨fun q => absurd u (by omega), fun _ => ⟨⟨_, rfl⟩, Or.inl rfl⟩⟩
theorem sp_157_ex0_ (a0 : Nat) (a1 : Int32) (a2 : Int32) (σ : zSg) (τ1 : zSg) (g1 : p_170 a0 a1 (Int32.ofInt (0)) (Int32.ofInt (200)) σ (.inr 0) τ1) :
    p_157 (a0) (a1) (a2) σ (.inr 0) τ1 := by
  rintro rfl A nf nt Lo K
  have z0 : (Int32.ofInt 0).toInt = 0 := rfl
  have z1 : (Int32.ofInt 1).toInt = 1 := rfl
  have z2 : (Int32.ofInt 2).toInt = 2 := rfl
  have z99 : (Int32.ofInt 99).toInt = 99 := rfl
  have z200 : (Int32.ofInt 200).toInt = 200 := rfl
  obtain ⟨rfl, -, u⟩ := g1
  have u := u rfl
  exact ⟨fun _ => ⟨rfl, rfl⟩, fun q => absurd q (by omega)⟩
theorem sp_157_c22_t (a0 : Nat) (a1 : Int32) (a2 : Int32) (σ : zSg) (l0 : Nat) (l1 : Int32) (l3 : Int32) (τ : zSg) (τ6 : zSg) (r6 : Int32) (hI : i_157 a0 a1 a2 σ l0 l1 l3 τ) (h5 : l3.toInt ≥ l1.toInt) (g6 : p_19 (q_r (τ.1 (q_r (τ.1 l0 3)) 1)) τ r6 τ6) :
    p_157 (a0) (a1) (a2) σ (.inl r6) τ6 := by
  obtain ⟨rfl, rfl, hI⟩ := hI
  rintro rfl A nf nt Lo K
  obtain ⟨N, rfl, hN2, i, hi, rfl, D⟩ := hI rfl A nf nt Lo K
  rw [o32 (by omega), o32 (by omega)] at h5
  obtain rfl := g6
  exact ⟨fun q => absurd (by rw [o32 (by omega)]; omega) q, fun _ => ⟨⟨_, rfl⟩, Or.inr ⟨_, D⟩⟩⟩
theorem sp_157_c22_f (a0 : Nat) (a1 : Int32) (a2 : Int32) (σ : zSg) (l0 : Nat) (l1 : Int32) (l3 : Int32) (τ : zSg) (τ7 : zSg) (r7 : Int32) (hI : i_157 a0 a1 a2 σ l0 l1 l3 τ) (h5 : l3.toInt < l1.toInt) (g7 : p_34 (q_r (τ.1 l0 3)) (Int32.ofInt (1)) τ r7 τ7) :
    i_157 a0 a1 a2 σ l0 l1 (l3 + Int32.ofInt (1)) τ7 := by
  obtain ⟨rfl, rfl, hI⟩ := hI
  refine ⟨rfl, rfl, ?_⟩
  rintro rfl A nf nt Lo K
  obtain ⟨N, rfl, hN2, i, hi, rfl, D⟩ := hI rfl A nf nt Lo K
  rw [o32 (by omega), o32 (by omega)] at h5
  have qs := (D.1.sk K.1).q
  have IA := K.2.2.2.1.hs (Lo := Lo) (calm := false) i
  rw [qs.2.2.1] at g7
  obtain ⟨fE, KE, -⟩ := (g7 (by omega) _ nf nt Lo D.2.1 IA D.2.2).2 (by decide)
  have D' := D.st fE KE
  exact ⟨N, rfl, hN2, i + 1, by omega, o32i (by omega), D'⟩
noncomputable def qP_157 : zPp := fun as σ o σ' => match as with
  | [a0, a1, a2] => (∃ r, o = .inl (some (.int r)) ∧ p_157 (q_r a0) (q_i a1) (q_i a2) σ (.inl r) σ') ∨ (o = .inr 0 ∧ p_157 (q_r a0) (q_i a1) (q_i a2) σ (.inr 0) σ')
  | _ => True
set_option maxRecDepth 100000 in
theorem sp_157 {sx : zX} (S170 : zEe sx 170 4 qP_170) (S23 : zEe sx 23 2 qP_23) (S38 : zEe sx 38 3 qP_38) (S19 : zEe sx 19 1 qP_19) (S34 : zEe sx 34 2 qP_34) : zEe sx 157 3 qP_157 := by
  refine zfle zJ_157 (sps := [(170, 4, qP_170), (23, 2, qP_23), (38, 3, qP_38), (19, 1, qP_19), (34, 2, qP_34)]) (fun q hq => by
    simp only [List.mem_cons, List.not_mem_nil, or_false] at hq
    rcases hq with rfl | rfl | rfl | rfl | rfl
    · exact S170
    · exact S23
    · exact S38
    · exact S19
    · exact S34) (fun as σ hl => ?_)
  match as, hl with
  | [a0, a1, a2], _ =>
  refine ⟨[(22, fun lo st τ => st = [] ∧ i_157 (q_r a0) (q_i a1) (q_i a2) σ (q_r (lo 0)) (q_i (lo 1)) (q_i (lo 3)) τ)], 400, ?_, ?_⟩
  · intro q hq
    simp only [List.mem_cons, List.not_mem_nil, or_false] at hq
    rcases hq with rfl
    · rintro lo st τ ⟨rfl, hI⟩
      refine ⟨400, ?_⟩
      refine And.intro (fun h5 => ?_) (fun h5 => ?_)
      · refine fun o6 τ6 g6 => ?_
        obtain ⟨r6, rfl, g6⟩ := g6
        exact Or.inl ⟨_, rfl, sp_157_c22_t (q_r a0) (q_i a1) (q_i a2) σ (q_r (lo 0)) (q_i (lo 1)) (q_i (lo 3)) τ τ6 r6 hI (cm3t h5) g6⟩
      · refine fun o7 τ7 g7 => ?_
        obtain ⟨r7, rfl, g7⟩ := g7
        exact ⟨rfl, sp_157_c22_f (q_r a0) (q_i a1) (q_i a2) σ (q_r (lo 0)) (q_i (lo 1)) (q_i (lo 3)) τ τ7 r7 hI (cm3f h5) g7⟩
  · refine fun o1 τ1 g1 => ?_
    rcases g1 with ⟨rfl, g1⟩ | ⟨rfl, g1⟩
    · refine And.intro (fun h2 => ?_) (fun h2 => ?_)
      · refine fun o3 τ3 g3 => ?_
        obtain ⟨rfl, g3⟩ := g3
        exact ⟨rfl, sp_157_ent (q_r a0) (q_i a1) (q_i a2) σ τ1 τ3 g1 (cm1t h2) g3⟩
      · refine fun o4 τ4 g4 => ?_
        obtain ⟨r4, rfl, g4⟩ := g4
        exact Or.inl ⟨_, rfl, sp_157_enf (q_r a0) (q_i a1) (q_i a2) σ τ1 τ4 r4 g1 (cm1f h2) g4⟩
    · exact Or.inr (⟨rfl, sp_157_ex0_ (q_r a0) (q_i a1) (q_i a2) σ τ1 g1⟩)
end
section
/-! what the reference sees of hours ahead, exact; printed with wip/gen/gen_dl.py -/
noncomputable def rDp (σ : zSg) (A : Nat → Int32) (nf nt : Nat) (Lo : Option (Nat × List gLn4 × zSs)) : Prop := rSk σ ∧ rEv σ A nt Lo ∧ aI nf nt A
/-- the world was kept aside -/
noncomputable def rKp (σ τ : zSg) (A B : Nat → Int32) : Prop := τ.2 = σ.2 ∧ (∀ c k, ¬ (c = 205 ∧ k = 0) → ¬ (c = 206 ∧ k < 388) → c ≠ 209 → c ≠ 213 → τ.1 c k = σ.1 c k) ∧ τ.1 205 0 = .int (Int32.ofInt 0) ∧ (∀ k, k < 388 → τ.1 209 k = .int (A k)) ∧ rW τ B
/-- and brought back -/
noncomputable def rKF (σ σ' : zSg) : Prop := σ'.2 = σ.2 ∧ (∀ c k, ¬ (c = 205 ∧ k = 0) → c ≠ 209 → c ≠ 213 → σ'.1 c k = σ.1 c k) ∧ σ'.1 205 0 = .int (Int32.ofInt 0)
section RKP
variable {σ τ υ : zSg} {A B B' : Nat → Int32} {nf nt : Nat} {Lo : Option (Nat × List gLn4 × zSs)}
theorem rKp.mk (K : rDp σ A nf nt Lo) (G : p_266 205 (r0 σ) τ) : rKp σ τ A A := by
  obtain ⟨k1, k2, k3⟩ := K
  have w0 : rW (r0 σ) A := k2.1.el (by omega)
  have e := G rfl (k1.w (Or.inl rfl))
  subst e
  refine ⟨rfl, fun c k q1 q2 q3 q4 => ?_, ?_, fun k hk => ?_, ⟨?_, fun k hk => ?_⟩⟩
  · rw [rCy_ne (fun q => q3 q.1)]; exact q_w_ne (fun e1 e2 => q1 ⟨e1, e2⟩)
  · rw [rCy_ne (fun q => by omega)]; exact q_w_at _ _ _ _
  · show (if 209 = 209 ∧ 0 ≤ k ∧ k < 0 + 388 then Value.int (q_i ((r0 σ).1 206 (0 + (k - 0)))) else _) = _
    rw [if_pos ⟨rfl, by omega, by omega⟩, show 0 + (k - 0) = k by omega, w0.2 k hk]
    rfl
  · rw [rCy_ne (fun q => by omega)]; exact w0.1
  · rw [rCy_ne (fun q => by omega)]; exact w0.2 k hk
theorem rKp.st (K : rKp σ τ A B) (f : rHF τ υ) (W : rW υ B') : rKp σ υ A B' := by
  obtain ⟨k1, k2, k3, k4, k5⟩ := K
  exact ⟨f.1.trans k1, fun c k q1 q2 q3 q4 => (f.2 c k q2 q4).trans (k2 c k q1 q2 q3 q4), (f.2 _ _ (by omega) (by omega)).trans k3, fun k hk => (f.2 _ _ (by omega) (by omega)).trans (k4 k hk), W⟩
theorem rKp.ev (K : rKp σ τ A B) (D : rDp σ A nf nt Lo) (I : aI nf nt B) (h3 : B 3 = A 3) : rEv τ B nt Lo := by
  obtain ⟨k1, k2, k3, k4, k5⟩ := K
  obtain ⟨a1, a2, a3, a4, a5, a6⟩ := D.2.1
  refine ⟨k5, (k2 _ _ (by omega) (by omega) (by omega) (by omega)).trans a2, I.1.2.2.1, a4, fun t ht q => ?_, a6.of (fun k hk => k2 _ _ (by omega) (by omega) (by omega) (by omega)) h3⟩
  have k6 := I.1.2.1
  obtain ⟨F, hF, e⟩ := I.2.2.1 t ht
  rw [e] at q
  have := congrArg Int32.toInt q
  rw [o32 (by omega), show (Int32.ofInt (-1)).toInt = -1 from rfl] at this
  omega
theorem rKp.bb (K : rKp σ τ A B) (D : rDp σ A nf nt Lo) (G : p_267 205 τ υ) : rKp σ υ A A := by
  obtain ⟨k1, k2, k3, k4, k5⟩ := K
  have s : rSk τ := by
    obtain ⟨s1, s2, s3, s4, s5⟩ := D.1
    exact ⟨k5.1, (k2 _ _ (by omega) (by omega) (by omega) (by omega)).trans s2, (k2 _ _ (by omega) (by omega) (by omega) (by omega)).trans s3, (k2 _ _ (by omega) (by omega) (by omega) (by omega)).trans s4, (k2 _ _ (by omega) (by omega) (by omega) (by omega)).trans s5⟩
  have e := G rfl s
  subst e
  refine ⟨k1, fun c k q1 q2 q3 q4 => ?_, ?_, fun k hk => ?_, ⟨?_, fun k hk => ?_⟩⟩
  · rw [rCy_ne (fun q => q2 ⟨q.1, by omega⟩)]; exact k2 c k q1 q2 q3 q4
  · rw [rCy_ne (fun q => by omega)]; exact k3
  · rw [rCy_ne (fun q => by omega)]; exact k4 k hk
  · rw [rCy_ne (fun q => by omega)]; exact k5.1
  · show (if 206 = 206 ∧ 0 ≤ k ∧ k < 0 + 388 then Value.int (q_i (τ.1 209 (0 + (k - 0)))) else _) = _
    rw [if_pos ⟨rfl, by omega, by omega⟩, show 0 + (k - 0) = k by omega, k4 k hk]
    rfl
theorem rKp.fin (K : rKp σ τ A A) (D : rDp σ A nf nt Lo) : rKF σ τ := by
  obtain ⟨k1, k2, k3, k4, k5⟩ := K
  refine ⟨k1, fun c k q1 q3 q4 => ?_, k3⟩
  by_cases q : c = 206 ∧ k < 388
  · obtain ⟨rfl, hk⟩ := q
    rw [k5.2 k hk, D.2.1.1.2 k hk]
  · exact k2 c k q1 q q3 q4
theorem aI.sd (K : aI nf nt A) {x : Int32} : aI nf nt (aU A 15 x) := K.of (fun k hk => aU_ne (by omega)) (fun t h1 h2 => (aU_ne (by omega)).trans (K.1.2.2.2.2 t h1 h2)) (by rw [aU_ne (by omega)]; exact K.2.2.2.2.1) (by rw [aU_ne (by omega)]; exact K.2.2.2.2.2.1) (by rw [aU_ne (by omega)]; exact K.2.2.2.2.2.2.1)
end RKP
theorem zJ_270 : zJ3 270 z_m270 z_c270 z_h270 := ⟨rfl, rfl, rfl⟩
noncomputable def p_270 (a : Nat) (n w : Int32) (σ : zSg) (r : Int32) (σ' : zSg) : Prop := a = 205 → ∀ A nf nt Lo, rDp σ A nf nt Lo → (¬ (0 ≤ n.toInt ∧ n.toInt ≤ 200) → r = Int32.ofInt 0 ∧ σ' = rTh σ 1) ∧ ((0 ≤ n.toInt ∧ n.toInt ≤ 200) → ¬ (0 ≤ w.toInt ∧ w.toInt ≤ 2) → r = Int32.ofInt 0 ∧ σ' = rTh σ 2) ∧ (∀ N, n = Int32.ofNat N → N ≤ 200 → (0 ≤ w.toInt ∧ w.toInt ≤ 2) → rKF σ σ' ∧ (w.toInt = 0 → r = (hHs Lo nt true A N).1 6) ∧ (w.toInt = 1 → r = (hHs Lo nt true A N).1 7) ∧ (w.toInt = 2 → r = (hHs Lo nt true A N).1 (16 + hN (hHs Lo nt true A N).1)))
theorem sp_270_etttt (a0 : Nat) (a1 : Int32) (a2 : Int32) (σ : zSg) (τ1 : zSg) (r1 : Int32) (τ5 : zSg) (r5 : Int32) (τ9 : zSg) (τ10 : zSg) (r10 : Int32) (τ13 : zSg) (r13 : Int32) (τ14 : zSg) (g1 : p_177 a1 (Int32.ofInt (0)) (Int32.ofInt (200)) (q_w σ a0 0 (.int (Int32.ofInt (0)))) r1 τ1) (h2 : r1.toInt ≠ (0 : Int)) (g5 : p_177 a2 (Int32.ofInt (0)) (Int32.ofInt (2)) τ1 r5 τ5) (h6 : r5.toInt ≠ (0 : Int)) (g9 : p_266 a0 τ5 τ9) (g10 : p_268 a0 a1 (Int32.ofInt (1)) τ9 r10 τ10) (h11 : a2.toInt ≠ (0 : Int)) (h12 : a2.toInt ≠ (1 : Int)) (g13 : p_188 a0 τ10 r13 τ13) (g14 : p_267 a0 τ13 τ14) :
    p_270 (a0) (a1) (a2) σ r13 τ14 := by
  rintro rfl A nf nt Lo K
  have z0 : (Int32.ofInt 0).toInt = 0 := rfl
  have z1 : (Int32.ofInt 1).toInt = 1 := rfl
  have z2 : (Int32.ofInt 2).toInt = 2 := rfl
  have z99 : (Int32.ofInt 99).toInt = 99 := rfl
  have z200 : (Int32.ofInt 200).toInt = 200 := rfl
  obtain ⟨e0, e1⟩ := g1
  have e0 : τ1 = r0 σ := e0
  subst e0
  have u := e1.mp h2
  obtain ⟨e2, f2⟩ := g5
  subst e2
  have v := f2.mp h6
  have D := rKp.mk K g9
  have G4 := g10 rfl A nf nt Lo a1.toInt.toNat true (D.ev K K.2.2 rfl) K.2.2 (Int32.toInt_inj.mp (by rw [o32 (by omega)]; omega)) (by omega) (Or.inr ⟨by decide, rfl⟩)
  obtain ⟨f4, K4, -⟩ := G4
  have D4 := D.st f4 K4
  have IA := K.2.2.hs (Lo := Lo) (calm := true) a1.toInt.toNat
  refine ⟨fun q => absurd u q, fun _ q => absurd v q, fun N eN hN hw => ?_⟩
  have eM : a1.toInt.toNat = N := by
    rw [eN, o32 (by omega)]
    omega
  rw [eM] at D4 K4 IA
  obtain ⟨hn', e4', -⟩ := IA.in
  obtain ⟨e5, g5⟩ := g13
  subst e5
  have R := (D4.bb K g14).fin K
  exact ⟨R, fun q => absurd q (by omega), fun q => absurd q (by omega), fun _ => g5 rfl _ K4 _ e4' hn'⟩
theorem sp_270_etttf (a0 : Nat) (a1 : Int32) (a2 : Int32) (σ : zSg) (τ1 : zSg) (r1 : Int32) (τ5 : zSg) (r5 : Int32) (τ9 : zSg) (τ10 : zSg) (r10 : Int32) (τ16 : zSg) (g1 : p_177 a1 (Int32.ofInt (0)) (Int32.ofInt (200)) (q_w σ a0 0 (.int (Int32.ofInt (0)))) r1 τ1) (h2 : r1.toInt ≠ (0 : Int)) (g5 : p_177 a2 (Int32.ofInt (0)) (Int32.ofInt (2)) τ1 r5 τ5) (h6 : r5.toInt ≠ (0 : Int)) (g9 : p_266 a0 τ5 τ9) (g10 : p_268 a0 a1 (Int32.ofInt (1)) τ9 r10 τ10) (h11 : a2.toInt ≠ (0 : Int)) (h12 : a2.toInt = (1 : Int)) (h15 : 0 ≤ (Int32.ofInt (7)).toInt ∧ (Int32.ofInt (7)).toInt < (τ10.2.1 (q_r (τ10.1 a0 1)) : Int)) (g16 : p_267 a0 τ10 τ16) :
    p_270 (a0) (a1) (a2) σ (q_i (τ10.1 (q_r (τ10.1 a0 1)) (Int32.ofInt (7)).toNatClampNeg)) τ16 := by
  rintro rfl A nf nt Lo K
  have z0 : (Int32.ofInt 0).toInt = 0 := rfl
  have z1 : (Int32.ofInt 1).toInt = 1 := rfl
  have z2 : (Int32.ofInt 2).toInt = 2 := rfl
  have z99 : (Int32.ofInt 99).toInt = 99 := rfl
  have z200 : (Int32.ofInt 200).toInt = 200 := rfl
  obtain ⟨e0, e1⟩ := g1
  have e0 : τ1 = r0 σ := e0
  subst e0
  have u := e1.mp h2
  obtain ⟨e2, f2⟩ := g5
  subst e2
  have v := f2.mp h6
  have D := rKp.mk K g9
  have G4 := g10 rfl A nf nt Lo a1.toInt.toNat true (D.ev K K.2.2 rfl) K.2.2 (Int32.toInt_inj.mp (by rw [o32 (by omega)]; omega)) (by omega) (Or.inr ⟨by decide, rfl⟩)
  obtain ⟨f4, K4, -⟩ := G4
  have D4 := D.st f4 K4
  have IA := K.2.2.hs (Lo := Lo) (calm := true) a1.toInt.toNat
  refine ⟨fun q => absurd u q, fun _ q => absurd v q, fun N eN hN hw => ?_⟩
  have eM : a1.toInt.toNat = N := by
    rw [eN, o32 (by omega)]
    omega
  rw [eM] at D4 K4 IA
  have R := (D4.bb K g16).fin K
  rw [K4.q, kz7, K4.i (k := 7) (by omega)]
  exact ⟨R, fun q => absurd q (by omega), fun _ => rfl, fun q => absurd q (by omega)⟩
theorem sp_270_ettf (a0 : Nat) (a1 : Int32) (a2 : Int32) (σ : zSg) (τ1 : zSg) (r1 : Int32) (τ5 : zSg) (r5 : Int32) (τ9 : zSg) (τ10 : zSg) (r10 : Int32) (τ18 : zSg) (g1 : p_177 a1 (Int32.ofInt (0)) (Int32.ofInt (200)) (q_w σ a0 0 (.int (Int32.ofInt (0)))) r1 τ1) (h2 : r1.toInt ≠ (0 : Int)) (g5 : p_177 a2 (Int32.ofInt (0)) (Int32.ofInt (2)) τ1 r5 τ5) (h6 : r5.toInt ≠ (0 : Int)) (g9 : p_266 a0 τ5 τ9) (g10 : p_268 a0 a1 (Int32.ofInt (1)) τ9 r10 τ10) (h11 : a2.toInt = (0 : Int)) (h17 : 0 ≤ (Int32.ofInt (6)).toInt ∧ (Int32.ofInt (6)).toInt < (τ10.2.1 (q_r (τ10.1 a0 1)) : Int)) (g18 : p_267 a0 τ10 τ18) :
    p_270 (a0) (a1) (a2) σ (q_i (τ10.1 (q_r (τ10.1 a0 1)) (Int32.ofInt (6)).toNatClampNeg)) τ18 := by
  rintro rfl A nf nt Lo K
  have z0 : (Int32.ofInt 0).toInt = 0 := rfl
  have z1 : (Int32.ofInt 1).toInt = 1 := rfl
  have z2 : (Int32.ofInt 2).toInt = 2 := rfl
  have z99 : (Int32.ofInt 99).toInt = 99 := rfl
  have z200 : (Int32.ofInt 200).toInt = 200 := rfl
  obtain ⟨e0, e1⟩ := g1
  have e0 : τ1 = r0 σ := e0
  subst e0
  have u := e1.mp h2
  obtain ⟨e2, f2⟩ := g5
  subst e2
  have v := f2.mp h6
  have D := rKp.mk K g9
  have G4 := g10 rfl A nf nt Lo a1.toInt.toNat true (D.ev K K.2.2 rfl) K.2.2 (Int32.toInt_inj.mp (by rw [o32 (by omega)]; omega)) (by omega) (Or.inr ⟨by decide, rfl⟩)
  obtain ⟨f4, K4, -⟩ := G4
  have D4 := D.st f4 K4
  have IA := K.2.2.hs (Lo := Lo) (calm := true) a1.toInt.toNat
  refine ⟨fun q => absurd u q, fun _ q => absurd v q, fun N eN hN hw => ?_⟩
  have eM : a1.toInt.toNat = N := by
    rw [eN, o32 (by omega)]
    omega
  rw [eM] at D4 K4 IA
  have R := (D4.bb K g18).fin K
  rw [K4.q, kz6, K4.i (k := 6) (by omega)]
  exact ⟨R, fun _ => rfl, fun q => absurd q (by omega), fun q => absurd q (by omega)⟩
theorem sp_270_etf (a0 : Nat) (a1 : Int32) (a2 : Int32) (σ : zSg) (τ1 : zSg) (r1 : Int32) (τ5 : zSg) (r5 : Int32) (g1 : p_177 a1 (Int32.ofInt (0)) (Int32.ofInt (200)) (q_w σ a0 0 (.int (Int32.ofInt (0)))) r1 τ1) (h2 : r1.toInt ≠ (0 : Int)) (g5 : p_177 a2 (Int32.ofInt (0)) (Int32.ofInt (2)) τ1 r5 τ5) (h6 : r5.toInt = (0 : Int)) :
    p_270 (a0) (a1) (a2) σ (Int32.ofInt (0)) (q_w τ5 a0 0 (.int (Int32.ofInt (2)))) := by
  rintro rfl A nf nt Lo K
  have z0 : (Int32.ofInt 0).toInt = 0 := rfl
  have z1 : (Int32.ofInt 1).toInt = 1 := rfl
  have z2 : (Int32.ofInt 2).toInt = 2 := rfl
  have z99 : (Int32.ofInt 99).toInt = 99 := rfl
  have z200 : (Int32.ofInt 200).toInt = 200 := rfl
  obtain ⟨e0, e1⟩ := g1
  have e0 : τ1 = r0 σ := e0
  subst e0
  have u := e1.mp h2
  obtain ⟨e2, f2⟩ := g5
  subst e2
  exact ⟨fun q => absurd u q, fun _ _ => ⟨rfl, r0_T⟩, fun N e h q => absurd (f2.mpr q) (by omega)⟩
theorem sp_270_ef (a0 : Nat) (a1 : Int32) (a2 : Int32) (σ : zSg) (τ1 : zSg) (r1 : Int32) (g1 : p_177 a1 (Int32.ofInt (0)) (Int32.ofInt (200)) (q_w σ a0 0 (.int (Int32.ofInt (0)))) r1 τ1) (h2 : r1.toInt = (0 : Int)) :
    p_270 (a0) (a1) (a2) σ (Int32.ofInt (0)) (q_w τ1 a0 0 (.int (Int32.ofInt (1)))) := by
  rintro rfl A nf nt Lo K
  have z0 : (Int32.ofInt 0).toInt = 0 := rfl
  have z1 : (Int32.ofInt 1).toInt = 1 := rfl
  have z2 : (Int32.ofInt 2).toInt = 2 := rfl
  have z99 : (Int32.ofInt 99).toInt = 99 := rfl
  have z200 : (Int32.ofInt 200).toInt = 200 := rfl
  obtain ⟨e0, e1⟩ := g1
  have e0 : τ1 = r0 σ := e0
  subst e0
  exact ⟨fun _ => ⟨rfl, r0_T⟩, fun q => absurd (e1.mpr q) (by omega), fun N e h => absurd (e1.mpr (by rw [e, o32 (by omega)]; omega)) (by omega)⟩
noncomputable def qP_270 : zPp := fun as σ o σ' => match as with
  | [a0, a1, a2] => ∃ r, o = .inl (some (.int r)) ∧ p_270 (q_r a0) (q_i a1) (q_i a2) σ r σ'
  | _ => True
set_option maxRecDepth 100000 in
theorem sp_270 {sx : zX} (S177 : zEe sx 177 3 qP_177) (S176 : zEe sx 176 3 qP_176) (S266 : zEe sx 266 1 qP_266) (S268 : zEe sx 268 3 qP_268) (S188 : zEe sx 188 1 qP_188) (S267 : zEe sx 267 1 qP_267) : zEe sx 270 3 qP_270 := by
  refine zfle zJ_270 (sps := [(177, 3, qP_177), (176, 3, qP_176), (266, 1, qP_266), (268, 3, qP_268), (188, 1, qP_188), (267, 1, qP_267)]) (fun q hq => by
    simp only [List.mem_cons, List.not_mem_nil, or_false] at hq
    rcases hq with rfl | rfl | rfl | rfl | rfl | rfl
    · exact S177
    · exact S176
    · exact S266
    · exact S268
    · exact S188
    · exact S267) (fun as σ hl => ?_)
  match as, hl with
  | [a0, a1, a2], _ =>
  refine ⟨[], 400, ?_, ?_⟩
  · exact fun q hq => absurd hq List.not_mem_nil
  · refine fun o1 τ1 g1 => ?_
    obtain ⟨r1, rfl, g1⟩ := g1
    refine And.intro (fun h2 => ?_) (fun h2 => ?_)
    · refine fun o3 τ3 g3 => ?_
      obtain ⟨r3, rfl, rfl, y3, z3⟩ := g3
      have e3 := (z3 rfl).symm
      subst e3
      refine And.intro (fun h4 => absurd (show z_cmp 1 (Int32.ofInt (0)) 0 = true from h4) (by decide)) (fun _ => ?_)
      refine fun o5 τ5 g5 => ?_
      obtain ⟨r5, rfl, g5⟩ := g5
      refine And.intro (fun h6 => ?_) (fun h6 => ?_)
      · refine fun o7 τ7 g7 => ?_
        obtain ⟨r7, rfl, rfl, y7, z7⟩ := g7
        have e7 := (z7 rfl).symm
        subst e7
        refine And.intro (fun _ => ?_) (fun h8 => absurd (show z_cmp 0 (Int32.ofInt (0)) 0 = false from h8) (by decide))
        refine fun o9 τ9 g9 => ?_
        obtain ⟨rfl, g9⟩ := g9
        refine fun o10 τ10 g10 => ?_
        obtain ⟨r10, rfl, g10⟩ := g10
        refine And.intro (fun h11 => ?_) (fun h11 => ?_)
        · refine And.intro (fun h12 => ?_) (fun h12 => ?_)
          · refine fun o13 τ13 g13 => ?_
            obtain ⟨r13, rfl, g13⟩ := g13
            refine fun o14 τ14 g14 => ?_
            obtain ⟨rfl, g14⟩ := g14
            exact ⟨_, rfl, sp_270_etttt (q_r a0) (q_i a1) (q_i a2) σ τ1 r1 τ5 r5 τ9 τ10 r10 τ13 r13 τ14 g1 (cm1t h2) g5 (cm1t h6) g9 g10 (cm1t h11) (cm1t h12) g13 g14⟩
          · refine fun h15 => ?_
            refine fun o16 τ16 g16 => ?_
            obtain ⟨rfl, g16⟩ := g16
            exact ⟨_, rfl, sp_270_etttf (q_r a0) (q_i a1) (q_i a2) σ τ1 r1 τ5 r5 τ9 τ10 r10 τ16 g1 (cm1t h2) g5 (cm1t h6) g9 g10 (cm1t h11) (cm1f h12) (q_inp h15) g16⟩
        · refine fun h17 => ?_
          refine fun o18 τ18 g18 => ?_
          obtain ⟨rfl, g18⟩ := g18
          exact ⟨_, rfl, sp_270_ettf (q_r a0) (q_i a1) (q_i a2) σ τ1 r1 τ5 r5 τ9 τ10 r10 τ18 g1 (cm1t h2) g5 (cm1t h6) g9 g10 (cm1f h11) (q_inp h17) g18⟩
      · refine fun o19 τ19 g19 => ?_
        obtain ⟨r19, rfl, rfl, y19, z19⟩ := g19
        have e19 := (y19 (by decide)).symm
        subst e19
        refine And.intro (fun h20 => absurd (show z_cmp 0 (Int32.ofInt (1)) 0 = true from h20) (by decide)) (fun _ => ?_)
        exact ⟨_, rfl, sp_270_etf (q_r a0) (q_i a1) (q_i a2) σ τ1 r1 τ5 r5 g1 (cm1t h2) g5 (cm1f h6)⟩
    · refine fun o21 τ21 g21 => ?_
      obtain ⟨r21, rfl, rfl, y21, z21⟩ := g21
      have e21 := (y21 (by decide)).symm
      subst e21
      refine And.intro (fun _ => ?_) (fun h22 => absurd (show z_cmp 1 (Int32.ofInt (1)) 0 = false from h22) (by decide))
      exact ⟨_, rfl, sp_270_ef (q_r a0) (q_i a1) (q_i a2) σ τ1 r1 g1 (cm1f h2)⟩
theorem zJ_271 : zJ3 271 z_m271 z_c271 z_h271 := ⟨rfl, rfl, rfl⟩
noncomputable def p_271 (a : Nat) (n : Int32) (σ : zSg) (r : Int32) (σ' : zSg) : Prop := a = 205 → ∀ A nf nt Lo, rDp σ A nf nt Lo → (¬ (1 ≤ n.toInt ∧ n.toInt ≤ 99) → r = Int32.ofInt 0 ∧ σ' = rTh σ 1) ∧ ((1 ≤ n.toInt ∧ n.toInt ≤ 99) → rKF σ σ' ∧ aFst (fun i => n.toInt ≤ ((hHs Lo nt true A i).1 7).toInt) r)
noncomputable def i_271 (a : Nat) (n : Int32) (σ : zSg) (l0 : Nat) (l1 l2 l3 : Int32) (τ : zSg) : Prop := l0 = a ∧ l1 = n ∧ (a = 205 → ∀ A nf nt Lo, rDp σ A nf nt Lo → (1 ≤ n.toInt ∧ n.toInt ≤ 99) ∧ ∃ N, N ≤ 201 ∧ l3 = Int32.ofNat N ∧ rKp σ τ A (hHs Lo nt true A N).1 ∧ ((l2 = Int32.ofInt (-1) ∧ ∀ i, i < N → ¬ n.toInt ≤ ((hHs Lo nt true A i).1 7).toInt) ∨ ∃ k, N = k + 1 ∧ k ≤ 200 ∧ l2 = Int32.ofNat k ∧ n.toInt ≤ ((hHs Lo nt true A k).1 7).toInt ∧ ∀ i, i < k → ¬ n.toInt ≤ ((hHs Lo nt true A i).1 7).toInt))
theorem sp_271_et (a0 : Nat) (a1 : Int32) (σ : zSg) (τ1 : zSg) (r1 : Int32) (τ5 : zSg) (g1 : p_177 a1 (Int32.ofInt (1)) (Int32.ofInt (99)) (q_w σ a0 0 (.int (Int32.ofInt (0)))) r1 τ1) (h2 : r1.toInt ≠ (0 : Int)) (g5 : p_266 a0 τ1 τ5) :
    i_271 a0 a1 σ a0 a1 (Int32.ofInt (-1)) (Int32.ofInt (0)) τ5 := by
  refine ⟨rfl, rfl, ?_⟩
  rintro rfl A nf nt Lo K
  have z0 : (Int32.ofInt 0).toInt = 0 := rfl
  have z1 : (Int32.ofInt 1).toInt = 1 := rfl
  have z2 : (Int32.ofInt 2).toInt = 2 := rfl
  have z99 : (Int32.ofInt 99).toInt = 99 := rfl
  have z200 : (Int32.ofInt 200).toInt = 200 := rfl
  obtain ⟨e0, e1⟩ := g1
  have e0 : τ1 = r0 σ := e0
  subst e0
  have u := e1.mp h2
  exact ⟨u, 0, by omega, rfl, rKp.mk K g5, Or.inl ⟨rfl, fun i hi => absurd hi (by omega)⟩⟩
theorem sp_271_ef (a0 : Nat) (a1 : Int32) (σ : zSg) (τ1 : zSg) (r1 : Int32) (g1 : p_177 a1 (Int32.ofInt (1)) (Int32.ofInt (99)) (q_w σ a0 0 (.int (Int32.ofInt (0)))) r1 τ1) (h2 : r1.toInt = (0 : Int)) :
    p_271 (a0) (a1) σ (Int32.ofInt (0)) (q_w τ1 a0 0 (.int (Int32.ofInt (1)))) := by
  rintro rfl A nf nt Lo K
  have z0 : (Int32.ofInt 0).toInt = 0 := rfl
  have z1 : (Int32.ofInt 1).toInt = 1 := rfl
  have z2 : (Int32.ofInt 2).toInt = 2 := rfl
  have z99 : (Int32.ofInt 99).toInt = 99 := rfl
  have z200 : (Int32.ofInt 200).toInt = 200 := rfl
  obtain ⟨e0, e1⟩ := g1
  have e0 : τ1 = r0 σ := e0
  subst e0
  exact ⟨fun _ => ⟨rfl, r0_T⟩, fun q => absurd (e1.mpr q) (by omega)⟩
theorem sp_271_c23_t (a0 : Nat) (a1 : Int32) (σ : zSg) (l0 : Nat) (l1 : Int32) (l2 : Int32) (l3 : Int32) (τ : zSg) (τ9 : zSg) (hI : i_271 a0 a1 σ l0 l1 l2 l3 τ) (h8 : l3.toInt > (200 : Int)) (g9 : p_267 l0 τ τ9) :
    p_271 (a0) (a1) σ l2 τ9 := by
  obtain ⟨rfl, rfl, hI⟩ := hI
  rintro rfl A nf nt Lo K
  obtain ⟨RNG, N, hN2, rfl, D, hF⟩ := hI rfl A nf nt Lo K
  have z200 : (Int32.ofInt 200).toInt = 200 := rfl
  have q1 : (Int32.ofInt (-1)).toInt = -1 := rfl
  rw [o32 (by omega)] at h8
  have R := (D.bb K g9).fin K
  have hf : aFst (fun i => l1.toInt ≤ ((hHs Lo nt true A i).1 7).toInt) l2 := by
    rcases hF with ⟨h1, h2⟩ | ⟨k, h1, h2, h3, h4, h5⟩
    · exact Or.inr ⟨h1, fun i hi => h2 i (by omega)⟩
    · exact Or.inl ⟨k, h2, h3, h4, h5⟩
  exact ⟨fun q => absurd RNG q, fun _ => ⟨R, hf⟩⟩
theorem sp_271_c23_ft (a0 : Nat) (a1 : Int32) (σ : zSg) (l0 : Nat) (l1 : Int32) (l2 : Int32) (l3 : Int32) (τ : zSg) (τ11 : zSg) (hI : i_271 a0 a1 σ l0 l1 l2 l3 τ) (h8 : l3.toInt ≤ (200 : Int)) (h10 : l2.toInt ≠ (-1 : Int)) (g11 : p_267 l0 τ τ11) :
    p_271 (a0) (a1) σ l2 τ11 := by
  obtain ⟨rfl, rfl, hI⟩ := hI
  rintro rfl A nf nt Lo K
  obtain ⟨RNG, N, hN2, rfl, D, hF⟩ := hI rfl A nf nt Lo K
  have z200 : (Int32.ofInt 200).toInt = 200 := rfl
  have q1 : (Int32.ofInt (-1)).toInt = -1 := rfl
  rw [o32 (by omega)] at h8
  have R := (D.bb K g11).fin K
  have hf : aFst (fun i => l1.toInt ≤ ((hHs Lo nt true A i).1 7).toInt) l2 := by
    rcases hF with ⟨h1, h2⟩ | ⟨k, h1, h2, h3, h4, h5⟩
    · exact absurd (by rw [h1]; rfl) h10
    · exact Or.inl ⟨k, h2, h3, h4, h5⟩
  exact ⟨fun q => absurd RNG q, fun _ => ⟨R, hf⟩⟩
theorem sp_271_c23_fft (a0 : Nat) (a1 : Int32) (σ : zSg) (l0 : Nat) (l1 : Int32) (l2 : Int32) (l3 : Int32) (τ : zSg) (τ14 : zSg) (r14 : Int32) (hI : i_271 a0 a1 σ l0 l1 l2 l3 τ) (h8 : l3.toInt ≤ (200 : Int)) (h10 : l2.toInt = (-1 : Int)) (h12 : 0 ≤ (Int32.ofInt (7)).toInt ∧ (Int32.ofInt (7)).toInt < (τ.2.1 (q_r (τ.1 l0 1)) : Int)) (h13 : (q_i (τ.1 (q_r (τ.1 l0 1)) (Int32.ofInt (7)).toNatClampNeg)).toInt < l1.toInt) (g14 : p_265 l0 (Int32.ofInt (1)) τ r14 τ14) :
    i_271 a0 a1 σ l0 l1 (Int32.ofInt (-1)) (l3 + Int32.ofInt (1)) τ14 := by
  obtain ⟨rfl, rfl, hI⟩ := hI
  refine ⟨rfl, rfl, ?_⟩
  rintro rfl A nf nt Lo K
  obtain ⟨RNG, N, hN2, rfl, D, hF⟩ := hI rfl A nf nt Lo K
  have z200 : (Int32.ofInt 200).toInt = 200 := rfl
  have q1 : (Int32.ofInt (-1)).toInt = -1 := rfl
  rw [o32 (by omega)] at h8
  obtain ⟨hm1, hno⟩ : l2 = Int32.ofInt (-1) ∧ ∀ i, i < N → ¬ l1.toInt ≤ ((hHs Lo nt true A i).1 7).toInt := by
    rcases hF with hF | ⟨k, h1, h2, h3, h4, h5⟩
    · exact hF
    · rw [h3, o32 (by omega)] at h10
      exact absurd h10 (by omega)
  have IA := K.2.2.hs (Lo := Lo) (calm := true) N
  have EV := D.ev K IA (hHs_k K.2.2 (by omega) N)
  obtain ⟨fH, KH, -⟩ := (g14 rfl _ nf nt Lo EV IA).2 (by decide)
  have D' := D.st fH KH
  rw [D.2.2.2.2.q, kz7, D.2.2.2.2.i (k := 7) (by omega)] at h13
  refine ⟨RNG, N + 1, by omega, o32i (by omega), D', Or.inl ⟨rfl, fun i hi => ?_⟩⟩
  by_cases q : i = N
  · rw [q]; omega
  · exact hno i (by omega)
theorem sp_271_c23_fff (a0 : Nat) (a1 : Int32) (σ : zSg) (l0 : Nat) (l1 : Int32) (l2 : Int32) (l3 : Int32) (τ : zSg) (τ15 : zSg) (r15 : Int32) (hI : i_271 a0 a1 σ l0 l1 l2 l3 τ) (h8 : l3.toInt ≤ (200 : Int)) (h10 : l2.toInt = (-1 : Int)) (h12 : 0 ≤ (Int32.ofInt (7)).toInt ∧ (Int32.ofInt (7)).toInt < (τ.2.1 (q_r (τ.1 l0 1)) : Int)) (h13 : (q_i (τ.1 (q_r (τ.1 l0 1)) (Int32.ofInt (7)).toNatClampNeg)).toInt ≥ l1.toInt) (g15 : p_265 l0 (Int32.ofInt (1)) τ r15 τ15) :
    i_271 a0 a1 σ l0 l1 l3 (l3 + Int32.ofInt (1)) τ15 := by
  obtain ⟨rfl, rfl, hI⟩ := hI
  refine ⟨rfl, rfl, ?_⟩
  rintro rfl A nf nt Lo K
  obtain ⟨RNG, N, hN2, rfl, D, hF⟩ := hI rfl A nf nt Lo K
  have z200 : (Int32.ofInt 200).toInt = 200 := rfl
  have q1 : (Int32.ofInt (-1)).toInt = -1 := rfl
  rw [o32 (by omega)] at h8
  obtain ⟨hm1, hno⟩ : l2 = Int32.ofInt (-1) ∧ ∀ i, i < N → ¬ l1.toInt ≤ ((hHs Lo nt true A i).1 7).toInt := by
    rcases hF with hF | ⟨k, h1, h2, h3, h4, h5⟩
    · exact hF
    · rw [h3, o32 (by omega)] at h10
      exact absurd h10 (by omega)
  have IA := K.2.2.hs (Lo := Lo) (calm := true) N
  have EV := D.ev K IA (hHs_k K.2.2 (by omega) N)
  obtain ⟨fH, KH, -⟩ := (g15 rfl _ nf nt Lo EV IA).2 (by decide)
  have D' := D.st fH KH
  rw [D.2.2.2.2.q, kz7, D.2.2.2.2.i (k := 7) (by omega)] at h13
  exact ⟨RNG, N + 1, by omega, o32i (by omega), D', Or.inr ⟨N, rfl, by omega, rfl, by omega, hno⟩⟩
noncomputable def qP_271 : zPp := fun as σ o σ' => match as with
  | [a0, a1] => ∃ r, o = .inl (some (.int r)) ∧ p_271 (q_r a0) (q_i a1) σ r σ'
  | _ => True
set_option maxRecDepth 100000 in
theorem sp_271 {sx : zX} (S177 : zEe sx 177 3 qP_177) (S176 : zEe sx 176 3 qP_176) (S266 : zEe sx 266 1 qP_266) (S267 : zEe sx 267 1 qP_267) (S265 : zEe sx 265 2 qP_265) : zEe sx 271 2 qP_271 := by
  refine zfle zJ_271 (sps := [(177, 3, qP_177), (176, 3, qP_176), (266, 1, qP_266), (267, 1, qP_267), (265, 2, qP_265)]) (fun q hq => by
    simp only [List.mem_cons, List.not_mem_nil, or_false] at hq
    rcases hq with rfl | rfl | rfl | rfl | rfl
    · exact S177
    · exact S176
    · exact S266
    · exact S267
    · exact S265) (fun as σ hl => ?_)
  match as, hl with
  | [a0, a1], _ =>
  refine ⟨[(23, fun lo st τ => st = [] ∧ i_271 (q_r a0) (q_i a1) σ (q_r (lo 0)) (q_i (lo 1)) (q_i (lo 2)) (q_i (lo 3)) τ)], 400, ?_, ?_⟩
  · intro q hq
    simp only [List.mem_cons, List.not_mem_nil, or_false] at hq
    rcases hq with rfl
    · rintro lo st τ ⟨rfl, hI⟩
      refine ⟨400, ?_⟩
      refine And.intro (fun h8 => ?_) (fun h8 => ?_)
      · refine fun o9 τ9 g9 => ?_
        obtain ⟨rfl, g9⟩ := g9
        exact ⟨_, rfl, sp_271_c23_t (q_r a0) (q_i a1) σ (q_r (lo 0)) (q_i (lo 1)) (q_i (lo 2)) (q_i (lo 3)) τ τ9 hI (cm4t h8) g9⟩
      · refine And.intro (fun h10 => ?_) (fun h10 => ?_)
        · refine fun o11 τ11 g11 => ?_
          obtain ⟨rfl, g11⟩ := g11
          exact ⟨_, rfl, sp_271_c23_ft (q_r a0) (q_i a1) σ (q_r (lo 0)) (q_i (lo 1)) (q_i (lo 2)) (q_i (lo 3)) τ τ11 hI (cm4f h8) (cm1t h10) g11⟩
        · refine fun h12 => ?_
          refine And.intro (fun h13 => ?_) (fun h13 => ?_)
          · refine fun o14 τ14 g14 => ?_
            obtain ⟨r14, rfl, g14⟩ := g14
            exact ⟨rfl, sp_271_c23_fft (q_r a0) (q_i a1) σ (q_r (lo 0)) (q_i (lo 1)) (q_i (lo 2)) (q_i (lo 3)) τ τ14 r14 hI (cm4f h8) (cm1f h10) (q_inp h12) (cm2t h13) g14⟩
          · refine fun o15 τ15 g15 => ?_
            obtain ⟨r15, rfl, g15⟩ := g15
            exact ⟨rfl, sp_271_c23_fff (q_r a0) (q_i a1) σ (q_r (lo 0)) (q_i (lo 1)) (q_i (lo 2)) (q_i (lo 3)) τ τ15 r15 hI (cm4f h8) (cm1f h10) (q_inp h12) (cm2f h13) g15⟩
  · refine fun o1 τ1 g1 => ?_
    obtain ⟨r1, rfl, g1⟩ := g1
    refine And.intro (fun h2 => ?_) (fun h2 => ?_)
    · refine fun o3 τ3 g3 => ?_
      obtain ⟨r3, rfl, rfl, y3, z3⟩ := g3
      have e3 := (z3 rfl).symm
      subst e3
      refine And.intro (fun _ => ?_) (fun h4 => absurd (show z_cmp 0 (Int32.ofInt (0)) 0 = false from h4) (by decide))
      refine fun o5 τ5 g5 => ?_
      obtain ⟨rfl, g5⟩ := g5
      exact ⟨rfl, sp_271_et (q_r a0) (q_i a1) σ τ1 r1 τ5 g1 (cm1t h2) g5⟩
    · refine fun o6 τ6 g6 => ?_
      obtain ⟨r6, rfl, rfl, y6, z6⟩ := g6
      have e6 := (y6 (by decide)).symm
      subst e6
      refine And.intro (fun h7 => absurd (show z_cmp 0 (Int32.ofInt (1)) 0 = true from h7) (by decide)) (fun _ => ?_)
      exact ⟨_, rfl, sp_271_ef (q_r a0) (q_i a1) σ τ1 r1 g1 (cm1f h2)⟩
theorem zJ_273 : zJ3 273 z_m273 z_c273 z_h273 := ⟨rfl, rfl, rfl⟩
noncomputable def p_273 (a : Nat) (f : Int32) (σ : zSg) (r : Int32) (σ' : zSg) : Prop := a = 205 → ∀ A nf nt Lo, rDp σ A nf nt Lo → (¬ (0 ≤ f.toInt ∧ f.toInt < (nf : Int)) → r = Int32.ofInt 0 ∧ σ' = rTh σ 1) ∧ ((0 ≤ f.toInt ∧ f.toInt < (nf : Int)) → rKF σ σ' ∧ aFst (fun i => (∀ F, f = Int32.ofNat F → F < nf → (hHs Lo nt true A i).1 (40 + 4 * F) = Int32.ofInt 0)) r)
noncomputable def i_273 (a : Nat) (f : Int32) (σ : zSg) (l0 : Nat) (l1 l2 l3 : Int32) (τ : zSg) : Prop := l0 = a ∧ l1 = f ∧ (a = 205 → ∀ A nf nt Lo, rDp σ A nf nt Lo → (0 ≤ f.toInt ∧ f.toInt < (nf : Int)) ∧ ∃ N, N ≤ 201 ∧ l3 = Int32.ofNat N ∧ rKp σ τ A (hHs Lo nt true A N).1 ∧ ((l2 = Int32.ofInt (-1) ∧ ∀ i, i < N → ¬ (∀ F, f = Int32.ofNat F → F < nf → (hHs Lo nt true A i).1 (40 + 4 * F) = Int32.ofInt 0)) ∨ ∃ k, N = k + 1 ∧ k ≤ 200 ∧ l2 = Int32.ofNat k ∧ (∀ F, f = Int32.ofNat F → F < nf → (hHs Lo nt true A k).1 (40 + 4 * F) = Int32.ofInt 0) ∧ ∀ i, i < k → ¬ (∀ F, f = Int32.ofNat F → F < nf → (hHs Lo nt true A i).1 (40 + 4 * F) = Int32.ofInt 0)))
theorem sp_273_et (a0 : Nat) (a1 : Int32) (σ : zSg) (τ1 : zSg) (r1 : Int32) (τ2 : zSg) (r2 : Int32) (τ4 : zSg) (g1 : p_195 a0 a1 (q_w σ a0 0 (.int (Int32.ofInt (0)))) r1 τ1) (g2 : p_176 a0 r1 (Int32.ofInt (1)) τ1 r2 τ2) (h3 : r2.toInt = (0 : Int)) (g4 : p_266 a0 τ2 τ4) :
    i_273 a0 a1 σ a0 a1 (Int32.ofInt (-1)) (Int32.ofInt (0)) τ4 := by
  refine ⟨rfl, rfl, ?_⟩
  rintro rfl A nf nt Lo K
  have z0 : (Int32.ofInt 0).toInt = 0 := rfl
  have z1 : (Int32.ofInt 1).toInt = 1 := rfl
  have z2 : (Int32.ofInt 2).toInt = 2 := rfl
  have z99 : (Int32.ofInt 99).toInt = 99 := rfl
  have z200 : (Int32.ofInt 200).toInt = 200 := rfl
  obtain ⟨e0, e1⟩ := g1
  have e0 : τ1 = r0 σ := e0
  subst e0
  have g1 := e1 rfl A (K.2.1.1.el (by omega)) nf K.2.2.1.1 K.2.2.1.2.1
  obtain ⟨x2, y2, n2⟩ := g2
  rw [x2] at h3
  have m2 := n2 h3
  subst m2
  have u : 0 ≤ a1.toInt ∧ a1.toInt < (nf : Int) := Decidable.byContradiction fun w => g1.mpr w h3
  exact ⟨u, 0, by omega, rfl, rKp.mk K g4, Or.inl ⟨rfl, fun i hi => absurd hi (by omega)⟩⟩
theorem sp_273_ef (a0 : Nat) (a1 : Int32) (σ : zSg) (τ1 : zSg) (r1 : Int32) (τ2 : zSg) (r2 : Int32) (g1 : p_195 a0 a1 (q_w σ a0 0 (.int (Int32.ofInt (0)))) r1 τ1) (g2 : p_176 a0 r1 (Int32.ofInt (1)) τ1 r2 τ2) (h3 : r2.toInt ≠ (0 : Int)) :
    p_273 (a0) (a1) σ (Int32.ofInt (0)) τ2 := by
  rintro rfl A nf nt Lo K
  have z0 : (Int32.ofInt 0).toInt = 0 := rfl
  have z1 : (Int32.ofInt 1).toInt = 1 := rfl
  have z2 : (Int32.ofInt 2).toInt = 2 := rfl
  have z99 : (Int32.ofInt 99).toInt = 99 := rfl
  have z200 : (Int32.ofInt 200).toInt = 200 := rfl
  obtain ⟨e0, e1⟩ := g1
  have e0 : τ1 = r0 σ := e0
  subst e0
  have g1 := e1 rfl A (K.2.1.1.el (by omega)) nf K.2.2.1.1 K.2.2.1.2.1
  obtain ⟨x2, y2, n2⟩ := g2
  rw [x2] at h3
  have m2 := y2 h3
  subst m2
  exact ⟨fun _ => ⟨rfl, r0_T⟩, fun q => absurd q (g1.mp h3)⟩
theorem sp_273_c18_t (a0 : Nat) (a1 : Int32) (σ : zSg) (l0 : Nat) (l1 : Int32) (l2 : Int32) (l3 : Int32) (τ : zSg) (τ6 : zSg) (hI : i_273 a0 a1 σ l0 l1 l2 l3 τ) (h5 : l3.toInt > (200 : Int)) (g6 : p_267 l0 τ τ6) :
    p_273 (a0) (a1) σ l2 τ6 := by
  obtain ⟨rfl, rfl, hI⟩ := hI
  rintro rfl A nf nt Lo K
  obtain ⟨RNG, N, hN2, rfl, D, hF⟩ := hI rfl A nf nt Lo K
  have z200 : (Int32.ofInt 200).toInt = 200 := rfl
  have q1 : (Int32.ofInt (-1)).toInt = -1 := rfl
  rw [o32 (by omega)] at h5
  have R := (D.bb K g6).fin K
  have hf : aFst (fun i => (∀ F, l1 = Int32.ofNat F → F < nf → (hHs Lo nt true A i).1 (40 + 4 * F) = Int32.ofInt 0)) l2 := by
    rcases hF with ⟨h1, h2⟩ | ⟨k, h1, h2, h3, h4, h5⟩
    · exact Or.inr ⟨h1, fun i hi => h2 i (by omega)⟩
    · exact Or.inl ⟨k, h2, h3, h4, h5⟩
  exact ⟨fun q => absurd RNG q, fun _ => ⟨R, hf⟩⟩
theorem sp_273_c18_ft (a0 : Nat) (a1 : Int32) (σ : zSg) (l0 : Nat) (l1 : Int32) (l2 : Int32) (l3 : Int32) (τ : zSg) (τ8 : zSg) (hI : i_273 a0 a1 σ l0 l1 l2 l3 τ) (h5 : l3.toInt ≤ (200 : Int)) (h7 : l2.toInt ≠ (-1 : Int)) (g8 : p_267 l0 τ τ8) :
    p_273 (a0) (a1) σ l2 τ8 := by
  obtain ⟨rfl, rfl, hI⟩ := hI
  rintro rfl A nf nt Lo K
  obtain ⟨RNG, N, hN2, rfl, D, hF⟩ := hI rfl A nf nt Lo K
  have z200 : (Int32.ofInt 200).toInt = 200 := rfl
  have q1 : (Int32.ofInt (-1)).toInt = -1 := rfl
  rw [o32 (by omega)] at h5
  have R := (D.bb K g8).fin K
  have hf : aFst (fun i => (∀ F, l1 = Int32.ofNat F → F < nf → (hHs Lo nt true A i).1 (40 + 4 * F) = Int32.ofInt 0)) l2 := by
    rcases hF with ⟨h1, h2⟩ | ⟨k, h1, h2, h3, h4, h5⟩
    · exact absurd (by rw [h1]; rfl) h7
    · exact Or.inl ⟨k, h2, h3, h4, h5⟩
  exact ⟨fun q => absurd RNG q, fun _ => ⟨R, hf⟩⟩
theorem sp_273_c18_fft (a0 : Nat) (a1 : Int32) (σ : zSg) (l0 : Nat) (l1 : Int32) (l2 : Int32) (l3 : Int32) (τ : zSg) (τ9 : zSg) (r9 : Int32) (τ11 : zSg) (r11 : Int32) (hI : i_273 a0 a1 σ l0 l1 l2 l3 τ) (h5 : l3.toInt ≤ (200 : Int)) (h7 : l2.toInt = (-1 : Int)) (g9 : p_190 l0 l1 (Int32.ofInt (0)) τ r9 τ9) (h10 : r9.toInt ≠ (0 : Int)) (g11 : p_265 l0 (Int32.ofInt (1)) τ9 r11 τ11) :
    i_273 a0 a1 σ l0 l1 (Int32.ofInt (-1)) (l3 + Int32.ofInt (1)) τ11 := by
  obtain ⟨rfl, rfl, hI⟩ := hI
  refine ⟨rfl, rfl, ?_⟩
  rintro rfl A nf nt Lo K
  obtain ⟨RNG, N, hN2, rfl, D, hF⟩ := hI rfl A nf nt Lo K
  have z200 : (Int32.ofInt 200).toInt = 200 := rfl
  have q1 : (Int32.ofInt (-1)).toInt = -1 := rfl
  rw [o32 (by omega)] at h5
  obtain ⟨hm1, hno⟩ : l2 = Int32.ofInt (-1) ∧ ∀ i, i < N → ¬ (∀ F, l1 = Int32.ofNat F → F < nf → (hHs Lo nt true A i).1 (40 + 4 * F) = Int32.ofInt 0) := by
    rcases hF with hF | ⟨k, h1, h2, h3, h4, h5⟩
    · exact hF
    · rw [h3, o32 (by omega)] at h7
      exact absurd h7 (by omega)
  have IA := K.2.2.hs (Lo := Lo) (calm := true) N
  have EV := D.ev K IA (hHs_k K.2.2 (by omega) N)
  have k6 := K.2.2.1.2.1
  obtain ⟨e5, g5⟩ := g9
  subst e5
  have ef : l1 = Int32.ofNat l1.toInt.toNat := Int32.toInt_inj.mp (by rw [o32 (by omega)]; omega)
  have x5 := g5 rfl _ D.2.2.2.2 l1.toInt.toNat 0 ef (by omega) rfl (by omega)
  have hF9 : ∀ F, l1 = Int32.ofNat F → F < nf → F = l1.toInt.toNat := fun F h1 h2 => by rw [h1, o32 (by omega)]; omega
  rw [x5] at h10
  obtain ⟨fH, KH, -⟩ := (g11 rfl _ nf nt Lo EV IA).2 (by decide)
  have D' := D.st fH KH
  first
  | (refine ⟨RNG, N + 1, by omega, o32i (by omega), D', Or.inl ⟨rfl, fun i hi w => ?_⟩⟩
     by_cases q : i = N
     · rw [q] at w
       have := w l1.toInt.toNat ef (by omega)
       exact h10 (by rw [show 40 + 0 + 4 * l1.toInt.toNat = 40 + 4 * l1.toInt.toNat by omega, this]; rfl)
     · exact hno i (by omega) w)
  | (refine ⟨RNG, N + 1, by omega, o32i (by omega), D', Or.inr ⟨N, rfl, by omega, rfl, fun F h1 h2 => ?_, hno⟩⟩
     rw [hF9 F h1 h2]
     exact Int32.toInt_inj.mp h10)
theorem sp_273_c18_fff (a0 : Nat) (a1 : Int32) (σ : zSg) (l0 : Nat) (l1 : Int32) (l2 : Int32) (l3 : Int32) (τ : zSg) (τ9 : zSg) (r9 : Int32) (τ12 : zSg) (r12 : Int32) (hI : i_273 a0 a1 σ l0 l1 l2 l3 τ) (h5 : l3.toInt ≤ (200 : Int)) (h7 : l2.toInt = (-1 : Int)) (g9 : p_190 l0 l1 (Int32.ofInt (0)) τ r9 τ9) (h10 : r9.toInt = (0 : Int)) (g12 : p_265 l0 (Int32.ofInt (1)) τ9 r12 τ12) :
    i_273 a0 a1 σ l0 l1 l3 (l3 + Int32.ofInt (1)) τ12 := by
  obtain ⟨rfl, rfl, hI⟩ := hI
  refine ⟨rfl, rfl, ?_⟩
  rintro rfl A nf nt Lo K
  obtain ⟨RNG, N, hN2, rfl, D, hF⟩ := hI rfl A nf nt Lo K
  have z200 : (Int32.ofInt 200).toInt = 200 := rfl
  have q1 : (Int32.ofInt (-1)).toInt = -1 := rfl
  rw [o32 (by omega)] at h5
  obtain ⟨hm1, hno⟩ : l2 = Int32.ofInt (-1) ∧ ∀ i, i < N → ¬ (∀ F, l1 = Int32.ofNat F → F < nf → (hHs Lo nt true A i).1 (40 + 4 * F) = Int32.ofInt 0) := by
    rcases hF with hF | ⟨k, h1, h2, h3, h4, h5⟩
    · exact hF
    · rw [h3, o32 (by omega)] at h7
      exact absurd h7 (by omega)
  have IA := K.2.2.hs (Lo := Lo) (calm := true) N
  have EV := D.ev K IA (hHs_k K.2.2 (by omega) N)
  have k6 := K.2.2.1.2.1
  obtain ⟨e5, g5⟩ := g9
  subst e5
  have ef : l1 = Int32.ofNat l1.toInt.toNat := Int32.toInt_inj.mp (by rw [o32 (by omega)]; omega)
  have x5 := g5 rfl _ D.2.2.2.2 l1.toInt.toNat 0 ef (by omega) rfl (by omega)
  have hF9 : ∀ F, l1 = Int32.ofNat F → F < nf → F = l1.toInt.toNat := fun F h1 h2 => by rw [h1, o32 (by omega)]; omega
  rw [x5] at h10
  obtain ⟨fH, KH, -⟩ := (g12 rfl _ nf nt Lo EV IA).2 (by decide)
  have D' := D.st fH KH
  first
  | (refine ⟨RNG, N + 1, by omega, o32i (by omega), D', Or.inl ⟨rfl, fun i hi w => ?_⟩⟩
     by_cases q : i = N
     · rw [q] at w
       have := w l1.toInt.toNat ef (by omega)
       exact h10 (by rw [show 40 + 0 + 4 * l1.toInt.toNat = 40 + 4 * l1.toInt.toNat by omega, this]; rfl)
     · exact hno i (by omega) w)
  | (refine ⟨RNG, N + 1, by omega, o32i (by omega), D', Or.inr ⟨N, rfl, by omega, rfl, fun F h1 h2 => ?_, hno⟩⟩
     rw [hF9 F h1 h2]
     exact Int32.toInt_inj.mp h10)
noncomputable def qP_273 : zPp := fun as σ o σ' => match as with
  | [a0, a1] => ∃ r, o = .inl (some (.int r)) ∧ p_273 (q_r a0) (q_i a1) σ r σ'
  | _ => True
set_option maxRecDepth 100000 in
theorem sp_273 {sx : zX} (S195 : zEe sx 195 2 qP_195) (S176 : zEe sx 176 3 qP_176) (S266 : zEe sx 266 1 qP_266) (S267 : zEe sx 267 1 qP_267) (S190 : zEe sx 190 3 qP_190) (S265 : zEe sx 265 2 qP_265) : zEe sx 273 2 qP_273 := by
  refine zfle zJ_273 (sps := [(195, 2, qP_195), (176, 3, qP_176), (266, 1, qP_266), (267, 1, qP_267), (190, 3, qP_190), (265, 2, qP_265)]) (fun q hq => by
    simp only [List.mem_cons, List.not_mem_nil, or_false] at hq
    rcases hq with rfl | rfl | rfl | rfl | rfl | rfl
    · exact S195
    · exact S176
    · exact S266
    · exact S267
    · exact S190
    · exact S265) (fun as σ hl => ?_)
  match as, hl with
  | [a0, a1], _ =>
  refine ⟨[(18, fun lo st τ => st = [] ∧ i_273 (q_r a0) (q_i a1) σ (q_r (lo 0)) (q_i (lo 1)) (q_i (lo 2)) (q_i (lo 3)) τ)], 400, ?_, ?_⟩
  · intro q hq
    simp only [List.mem_cons, List.not_mem_nil, or_false] at hq
    rcases hq with rfl
    · rintro lo st τ ⟨rfl, hI⟩
      refine ⟨400, ?_⟩
      refine And.intro (fun h5 => ?_) (fun h5 => ?_)
      · refine fun o6 τ6 g6 => ?_
        obtain ⟨rfl, g6⟩ := g6
        exact ⟨_, rfl, sp_273_c18_t (q_r a0) (q_i a1) σ (q_r (lo 0)) (q_i (lo 1)) (q_i (lo 2)) (q_i (lo 3)) τ τ6 hI (cm4t h5) g6⟩
      · refine And.intro (fun h7 => ?_) (fun h7 => ?_)
        · refine fun o8 τ8 g8 => ?_
          obtain ⟨rfl, g8⟩ := g8
          exact ⟨_, rfl, sp_273_c18_ft (q_r a0) (q_i a1) σ (q_r (lo 0)) (q_i (lo 1)) (q_i (lo 2)) (q_i (lo 3)) τ τ8 hI (cm4f h5) (cm1t h7) g8⟩
        · refine fun o9 τ9 g9 => ?_
          obtain ⟨r9, rfl, g9⟩ := g9
          refine And.intro (fun h10 => ?_) (fun h10 => ?_)
          · refine fun o11 τ11 g11 => ?_
            obtain ⟨r11, rfl, g11⟩ := g11
            exact ⟨rfl, sp_273_c18_fft (q_r a0) (q_i a1) σ (q_r (lo 0)) (q_i (lo 1)) (q_i (lo 2)) (q_i (lo 3)) τ τ9 r9 τ11 r11 hI (cm4f h5) (cm1f h7) g9 (cm1t h10) g11⟩
          · refine fun o12 τ12 g12 => ?_
            obtain ⟨r12, rfl, g12⟩ := g12
            exact ⟨rfl, sp_273_c18_fff (q_r a0) (q_i a1) σ (q_r (lo 0)) (q_i (lo 1)) (q_i (lo 2)) (q_i (lo 3)) τ τ9 r9 τ12 r12 hI (cm4f h5) (cm1f h7) g9 (cm1f h10) g12⟩
  · refine fun o1 τ1 g1 => ?_
    obtain ⟨r1, rfl, g1⟩ := g1
    refine fun o2 τ2 g2 => ?_
    obtain ⟨r2, rfl, g2⟩ := g2
    refine And.intro (fun h3 => ?_) (fun h3 => ?_)
    · refine fun o4 τ4 g4 => ?_
      obtain ⟨rfl, g4⟩ := g4
      exact ⟨rfl, sp_273_et (q_r a0) (q_i a1) σ τ1 r1 τ2 r2 τ4 g1 g2 (cm0t h3) g4⟩
    · exact ⟨_, rfl, sp_273_ef (q_r a0) (q_i a1) σ τ1 r1 τ2 r2 g1 g2 (cm0f h3)⟩
theorem zJ_272 : zJ3 272 z_m272 z_c272 z_h272 := ⟨rfl, rfl, rfl⟩
noncomputable def p_272 (a : Nat) (n : Int32) (σ : zSg) (r : Int32) (σ' : zSg) : Prop := a = 205 → ∀ A nf nt Lo, rDp σ A nf nt Lo → 0 ≤ (A 6).toInt → (¬ (1 ≤ n.toInt ∧ n.toInt ≤ 200) → r = Int32.ofInt 0 ∧ σ' = rTh σ 1) ∧ (∀ N, n = Int32.ofNat N → 1 ≤ N → N ≤ 200 → rKF σ σ' ∧ r = Int32.ofNat (aWm (fun i => (hHs Lo nt true A i).1 6) N).1)
noncomputable def i_272 (a : Nat) (n : Int32) (σ : zSg) (l0 : Nat) (l1 l2 l3 l4 : Int32) (τ : zSg) : Prop := l0 = a ∧ l1 = n ∧ (a = 205 → ∀ A nf nt Lo, rDp σ A nf nt Lo → 0 ≤ (A 6).toInt → ∃ N, n = Int32.ofNat N ∧ 1 ≤ N ∧ N ≤ 200 ∧ ∃ i, i ≤ N + 1 ∧ l4 = Int32.ofNat i ∧ rKp σ τ A (hHs Lo nt true A i).1 ∧ ((i = 0 ∧ l2 = Int32.ofInt 0 ∧ l3 = Int32.ofInt (-1)) ∨ ∃ k, i = k + 1 ∧ l2 = Int32.ofNat (aWm (fun i => (hHs Lo nt true A i).1 6) k).1 ∧ l3 = (aWm (fun i => (hHs Lo nt true A i).1 6) k).2))
theorem sp_272_et (a0 : Nat) (a1 : Int32) (σ : zSg) (τ1 : zSg) (r1 : Int32) (τ5 : zSg) (g1 : p_177 a1 (Int32.ofInt (1)) (Int32.ofInt (200)) (q_w σ a0 0 (.int (Int32.ofInt (0)))) r1 τ1) (h2 : r1.toInt ≠ (0 : Int)) (g5 : p_266 a0 τ1 τ5) :
    i_272 a0 a1 σ a0 a1 (Int32.ofInt (0)) (Int32.ofInt (-1)) (Int32.ofInt (0)) τ5 := by
  refine ⟨rfl, rfl, ?_⟩
  rintro rfl A nf nt Lo K h6
  have z0 : (Int32.ofInt 0).toInt = 0 := rfl
  have z1 : (Int32.ofInt 1).toInt = 1 := rfl
  have z2 : (Int32.ofInt 2).toInt = 2 := rfl
  have z99 : (Int32.ofInt 99).toInt = 99 := rfl
  have z200 : (Int32.ofInt 200).toInt = 200 := rfl
  obtain ⟨e0, e1⟩ := g1
  have e0 : τ1 = r0 σ := e0
  subst e0
  have u := e1.mp h2
  exact ⟨a1.toInt.toNat, Int32.toInt_inj.mp (by rw [o32 (by omega)]; omega), by omega, by omega, 0, by omega, rfl, rKp.mk K g5, Or.inl ⟨rfl, rfl, rfl⟩⟩
theorem sp_272_ef (a0 : Nat) (a1 : Int32) (σ : zSg) (τ1 : zSg) (r1 : Int32) (g1 : p_177 a1 (Int32.ofInt (1)) (Int32.ofInt (200)) (q_w σ a0 0 (.int (Int32.ofInt (0)))) r1 τ1) (h2 : r1.toInt = (0 : Int)) :
    p_272 (a0) (a1) σ (Int32.ofInt (0)) (q_w τ1 a0 0 (.int (Int32.ofInt (1)))) := by
  rintro rfl A nf nt Lo K h6
  have z0 : (Int32.ofInt 0).toInt = 0 := rfl
  have z1 : (Int32.ofInt 1).toInt = 1 := rfl
  have z2 : (Int32.ofInt 2).toInt = 2 := rfl
  have z99 : (Int32.ofInt 99).toInt = 99 := rfl
  have z200 : (Int32.ofInt 200).toInt = 200 := rfl
  obtain ⟨e0, e1⟩ := g1
  have e0 : τ1 = r0 σ := e0
  subst e0
  exact ⟨fun _ => ⟨rfl, r0_T⟩, fun N e g1 g2 => absurd (e1.mpr (by rw [e, o32 (by omega)]; omega)) (by omega)⟩
theorem sp_272_c25_t (a0 : Nat) (a1 : Int32) (σ : zSg) (l0 : Nat) (l1 : Int32) (l2 : Int32) (l3 : Int32) (l4 : Int32) (τ : zSg) (τ9 : zSg) (hI : i_272 a0 a1 σ l0 l1 l2 l3 l4 τ) (h8 : l4.toInt > l1.toInt) (g9 : p_267 l0 τ τ9) :
    p_272 (a0) (a1) σ l2 τ9 := by
  obtain ⟨rfl, rfl, hI⟩ := hI
  rintro rfl A nf nt Lo K h6
  obtain ⟨N, rfl, h1, h200, i, hi, rfl, D, ew⟩ := hI rfl A nf nt Lo K h6
  rw [o32 (by omega), o32 (by omega)] at h8
  have q1 : (Int32.ofInt (-1)).toInt = -1 := rfl
  have R := (D.bb K g9).fin K
  refine ⟨fun q => absurd (by rw [o32 (by omega)]; omega) q, fun M eM g1 g2 => ⟨R, ?_⟩⟩
  have h9 := congrArg Int32.toInt eM
  rw [o32 (by omega), o32 (by omega)] at h9
  rcases ew with ⟨w1, w2, w3⟩ | ⟨k, w1, w2, w3⟩
  · omega
  · rw [w2, show k = M by omega]
theorem sp_272_c25_ft (a0 : Nat) (a1 : Int32) (σ : zSg) (l0 : Nat) (l1 : Int32) (l2 : Int32) (l3 : Int32) (l4 : Int32) (τ : zSg) (τ13 : zSg) (r13 : Int32) (hI : i_272 a0 a1 σ l0 l1 l2 l3 l4 τ) (h8 : l4.toInt ≤ l1.toInt) (h10 : 0 ≤ (Int32.ofInt (6)).toInt ∧ (Int32.ofInt (6)).toInt < (τ.2.1 (q_r (τ.1 l0 1)) : Int)) (h11 : (q_i (τ.1 (q_r (τ.1 l0 1)) (Int32.ofInt (6)).toNatClampNeg)).toInt ≤ l3.toInt) (h12 : 0 ≤ (Int32.ofInt (6)).toInt ∧ (Int32.ofInt (6)).toInt < (τ.2.1 (q_r (τ.1 l0 1)) : Int)) (g13 : p_265 l0 (Int32.ofInt (1)) τ r13 τ13) :
    i_272 a0 a1 σ l0 l1 l2 (if l3 < (q_i (τ.1 (q_r (τ.1 l0 1)) (Int32.ofInt (6)).toNatClampNeg)) then (q_i (τ.1 (q_r (τ.1 l0 1)) (Int32.ofInt (6)).toNatClampNeg)) else l3) (l4 + Int32.ofInt (1)) τ13 := by
  obtain ⟨rfl, rfl, hI⟩ := hI
  refine ⟨rfl, rfl, ?_⟩
  rintro rfl A nf nt Lo K h6
  obtain ⟨N, rfl, h1, h200, i, hi, rfl, D, ew⟩ := hI rfl A nf nt Lo K h6
  rw [o32 (by omega), o32 (by omega)] at h8
  have q1 : (Int32.ofInt (-1)).toInt = -1 := rfl
  have IA := K.2.2.hs (Lo := Lo) (calm := true) i
  have EV := D.ev K IA (hHs_k K.2.2 (by omega) i)
  rw [D.2.2.2.2.q, kz6, D.2.2.2.2.i (k := 6) (by omega)] at h11
  obtain ⟨fH, KH, -⟩ := (g13 rfl _ nf nt Lo EV IA).2 (by decide)
  have D' := D.st fH KH
  simp only [D.2.2.2.2.q, kz6, D.2.2.2.2.i (k := 6) (by omega)]
  refine ⟨N, rfl, h1, h200, i + 1, by omega, o32i (by omega), D', Or.inr ⟨i, rfl, ?_⟩⟩
  rw [if_neg (fun q => by rw [Int32.lt_iff_toInt_lt] at q; omega)]
  rcases ew with ⟨w1, w2, w3⟩ | ⟨k, w1, w2, w3⟩
  · subst w1
    rw [w3, q1] at h11
    have h0 : ((hHs Lo nt true A 0).1 6).toInt = (A 6).toInt := rfl
    omega
  · subst w1
    rw [w3] at h11
    have es : aWm (fun i => (hHs Lo nt true A i).1 6) (k + 1) = aWm (fun i => (hHs Lo nt true A i).1 6) k := if_neg (fun q => absurd q (Int.not_lt.mpr h11))
    rw [es]
    exact ⟨w2, w3⟩
theorem sp_272_c25_ff (a0 : Nat) (a1 : Int32) (σ : zSg) (l0 : Nat) (l1 : Int32) (l2 : Int32) (l3 : Int32) (l4 : Int32) (τ : zSg) (τ15 : zSg) (r15 : Int32) (hI : i_272 a0 a1 σ l0 l1 l2 l3 l4 τ) (h8 : l4.toInt ≤ l1.toInt) (h10 : 0 ≤ (Int32.ofInt (6)).toInt ∧ (Int32.ofInt (6)).toInt < (τ.2.1 (q_r (τ.1 l0 1)) : Int)) (h11 : (q_i (τ.1 (q_r (τ.1 l0 1)) (Int32.ofInt (6)).toNatClampNeg)).toInt > l3.toInt) (h14 : 0 ≤ (Int32.ofInt (6)).toInt ∧ (Int32.ofInt (6)).toInt < (τ.2.1 (q_r (τ.1 l0 1)) : Int)) (g15 : p_265 l0 (Int32.ofInt (1)) τ r15 τ15) :
    i_272 a0 a1 σ l0 l1 l4 (if l3 < (q_i (τ.1 (q_r (τ.1 l0 1)) (Int32.ofInt (6)).toNatClampNeg)) then (q_i (τ.1 (q_r (τ.1 l0 1)) (Int32.ofInt (6)).toNatClampNeg)) else l3) (l4 + Int32.ofInt (1)) τ15 := by
  obtain ⟨rfl, rfl, hI⟩ := hI
  refine ⟨rfl, rfl, ?_⟩
  rintro rfl A nf nt Lo K h6
  obtain ⟨N, rfl, h1, h200, i, hi, rfl, D, ew⟩ := hI rfl A nf nt Lo K h6
  rw [o32 (by omega), o32 (by omega)] at h8
  have q1 : (Int32.ofInt (-1)).toInt = -1 := rfl
  have IA := K.2.2.hs (Lo := Lo) (calm := true) i
  have EV := D.ev K IA (hHs_k K.2.2 (by omega) i)
  rw [D.2.2.2.2.q, kz6, D.2.2.2.2.i (k := 6) (by omega)] at h11
  obtain ⟨fH, KH, -⟩ := (g15 rfl _ nf nt Lo EV IA).2 (by decide)
  have D' := D.st fH KH
  simp only [D.2.2.2.2.q, kz6, D.2.2.2.2.i (k := 6) (by omega)]
  refine ⟨N, rfl, h1, h200, i + 1, by omega, o32i (by omega), D', Or.inr ⟨i, rfl, ?_⟩⟩
  rw [if_pos (Int32.lt_iff_toInt_lt.mpr h11)]
  rcases ew with ⟨w1, w2, w3⟩ | ⟨k, w1, w2, w3⟩
  · subst w1
    exact ⟨rfl, rfl⟩
  · subst w1
    rw [w3] at h11
    have es : aWm (fun i => (hHs Lo nt true A i).1 6) (k + 1) = (k + 1, (hHs Lo nt true A (k + 1)).1 6) := if_pos h11
    rw [es]
    exact ⟨rfl, rfl⟩
noncomputable def qP_272 : zPp := fun as σ o σ' => match as with
  | [a0, a1] => ∃ r, o = .inl (some (.int r)) ∧ p_272 (q_r a0) (q_i a1) σ r σ'
  | _ => True
set_option maxRecDepth 100000 in
theorem sp_272 {sx : zX} (S177 : zEe sx 177 3 qP_177) (S176 : zEe sx 176 3 qP_176) (S266 : zEe sx 266 1 qP_266) (S267 : zEe sx 267 1 qP_267) (S265 : zEe sx 265 2 qP_265) : zEe sx 272 2 qP_272 := by
  refine zfle zJ_272 (sps := [(177, 3, qP_177), (176, 3, qP_176), (266, 1, qP_266), (267, 1, qP_267), (265, 2, qP_265)]) (fun q hq => by
    simp only [List.mem_cons, List.not_mem_nil, or_false] at hq
    rcases hq with rfl | rfl | rfl | rfl | rfl
    · exact S177
    · exact S176
    · exact S266
    · exact S267
    · exact S265) (fun as σ hl => ?_)
  match as, hl with
  | [a0, a1], _ =>
  refine ⟨[(25, fun lo st τ => st = [] ∧ i_272 (q_r a0) (q_i a1) σ (q_r (lo 0)) (q_i (lo 1)) (q_i (lo 2)) (q_i (lo 3)) (q_i (lo 4)) τ)], 400, ?_, ?_⟩
  · intro q hq
    simp only [List.mem_cons, List.not_mem_nil, or_false] at hq
    rcases hq with rfl
    · rintro lo st τ ⟨rfl, hI⟩
      refine ⟨400, ?_⟩
      refine And.intro (fun h8 => ?_) (fun h8 => ?_)
      · refine fun o9 τ9 g9 => ?_
        obtain ⟨rfl, g9⟩ := g9
        exact ⟨_, rfl, sp_272_c25_t (q_r a0) (q_i a1) σ (q_r (lo 0)) (q_i (lo 1)) (q_i (lo 2)) (q_i (lo 3)) (q_i (lo 4)) τ τ9 hI (cm4t h8) g9⟩
      · refine fun h10 => ?_
        refine And.intro (fun h11 => ?_) (fun h11 => ?_)
        · refine fun h12 => ?_
          refine fun o13 τ13 g13 => ?_
          obtain ⟨r13, rfl, g13⟩ := g13
          exact ⟨rfl, sp_272_c25_ft (q_r a0) (q_i a1) σ (q_r (lo 0)) (q_i (lo 1)) (q_i (lo 2)) (q_i (lo 3)) (q_i (lo 4)) τ τ13 r13 hI (cm4f h8) (q_inp h10) (cm5t h11) (q_inp h12) g13⟩
        · refine fun h14 => ?_
          refine fun o15 τ15 g15 => ?_
          obtain ⟨r15, rfl, g15⟩ := g15
          exact ⟨rfl, sp_272_c25_ff (q_r a0) (q_i a1) σ (q_r (lo 0)) (q_i (lo 1)) (q_i (lo 2)) (q_i (lo 3)) (q_i (lo 4)) τ τ15 r15 hI (cm4f h8) (q_inp h10) (cm5f h11) (q_inp h14) g15⟩
  · refine fun o1 τ1 g1 => ?_
    obtain ⟨r1, rfl, g1⟩ := g1
    refine And.intro (fun h2 => ?_) (fun h2 => ?_)
    · refine fun o3 τ3 g3 => ?_
      obtain ⟨r3, rfl, rfl, y3, z3⟩ := g3
      have e3 := (z3 rfl).symm
      subst e3
      refine And.intro (fun _ => ?_) (fun h4 => absurd (show z_cmp 0 (Int32.ofInt (0)) 0 = false from h4) (by decide))
      refine fun o5 τ5 g5 => ?_
      obtain ⟨rfl, g5⟩ := g5
      exact ⟨rfl, sp_272_et (q_r a0) (q_i a1) σ τ1 r1 τ5 g1 (cm1t h2) g5⟩
    · refine fun o6 τ6 g6 => ?_
      obtain ⟨r6, rfl, rfl, y6, z6⟩ := g6
      have e6 := (y6 (by decide)).symm
      subst e6
      refine And.intro (fun h7 => absurd (show z_cmp 0 (Int32.ofInt (1)) 0 = true from h7) (by decide)) (fun _ => ?_)
      exact ⟨_, rfl, sp_272_ef (q_r a0) (q_i a1) σ τ1 r1 g1 (cm1f h2)⟩
noncomputable def p_303 (a : Nat) (σ : zSg) (r : Int32) (σ' : zSg) : Prop := σ' = σ
noncomputable def i_303 (a : Nat) (σ : zSg) (l0 : Nat) (l1 l2 : Int32) (τ : zSg) : Prop := τ = σ
theorem zJ_303 : zJ3 303 z_m303 z_c303 z_h303 := ⟨rfl, rfl, rfl⟩
theorem sp_303_e (a0 : Nat) (σ : zSg)  :
    i_303 a0 σ a0 (Int32.ofInt (0)) (Int32.ofInt (0)) σ := by
  exact rfl
theorem sp_303_c4_t (a0 : Nat) (σ : zSg) (l0 : Nat) (l1 : Int32) (l2 : Int32) (τ : zSg) (τ1 : zSg) (r1 : Int32) (hI : i_303 a0 σ l0 l1 l2 τ) (g1 : p_184 l0 τ r1 τ1) (h2 : l2.toInt ≥ r1.toInt) :
    p_303 (a0) σ l1 τ1 := by
  obtain ⟨rfl, -⟩ := g1
  exact hI
theorem sp_303_c4_f (a0 : Nat) (σ : zSg) (l0 : Nat) (l1 : Int32) (l2 : Int32) (τ : zSg) (τ1 : zSg) (r1 : Int32) (τ3 : zSg) (r3 : Int32) (hI : i_303 a0 σ l0 l1 l2 τ) (g1 : p_184 l0 τ r1 τ1) (h2 : l2.toInt < r1.toInt) (g3 : p_190 l0 l2 (Int32.ofInt (0)) τ1 r3 τ3) :
    i_303 a0 σ l0 (l1 + r3) (l2 + Int32.ofInt (1)) τ3 := by
  obtain ⟨rfl, -⟩ := g1
  obtain ⟨rfl, -⟩ := g3
  exact hI
noncomputable def qP_303 : zPp := fun as σ o σ' => match as with
  | [a0] => ∃ r, o = .inl (some (.int r)) ∧ p_303 (q_r a0) σ r σ'
  | _ => True
set_option maxRecDepth 100000 in
theorem sp_303 {sx : zX} (S184 : zEe sx 184 1 qP_184) (S190 : zEe sx 190 3 qP_190) : zEe sx 303 1 qP_303 := by
  refine zfle zJ_303 (sps := [(184, 1, qP_184), (190, 3, qP_190)]) (fun q hq => by
    simp only [List.mem_cons, List.not_mem_nil, or_false] at hq
    rcases hq with rfl | rfl
    · exact S184
    · exact S190) (fun as σ hl => ?_)
  match as, hl with
  | [a0], _ =>
  refine ⟨[(4, fun lo st τ => st = [] ∧ i_303 (q_r a0) σ (q_r (lo 0)) (q_i (lo 1)) (q_i (lo 2)) τ)], 400, ?_, ?_⟩
  · intro q hq
    simp only [List.mem_cons, List.not_mem_nil, or_false] at hq
    rcases hq with rfl
    · rintro lo st τ ⟨rfl, hI⟩
      refine ⟨400, ?_⟩
      refine fun o1 τ1 g1 => ?_
      obtain ⟨r1, rfl, g1⟩ := g1
      refine And.intro (fun h2 => ?_) (fun h2 => ?_)
      · exact ⟨_, rfl, sp_303_c4_t (q_r a0) σ (q_r (lo 0)) (q_i (lo 1)) (q_i (lo 2)) τ τ1 r1 hI g1 (cm3t h2)⟩
      · refine fun o3 τ3 g3 => ?_
        obtain ⟨r3, rfl, g3⟩ := g3
        exact ⟨rfl, sp_303_c4_f (q_r a0) σ (q_r (lo 0)) (q_i (lo 1)) (q_i (lo 2)) τ τ1 r1 τ3 r3 hI g1 (cm3f h2) g3⟩
  · exact ⟨rfl, sp_303_e (q_r a0) σ ⟩
theorem zJ_304 : zJ3 304 z_m304 z_c304 z_h304 := ⟨rfl, rfl, rfl⟩
noncomputable def p_304 (a : Nat) (n w : Int32) (σ : zSg) (r : Int32) (σ' : zSg) : Prop := a = 205 → ∀ A nf nt Lo, rDp σ A nf nt Lo → (¬ (0 ≤ n.toInt ∧ n.toInt ≤ 200) → r = Int32.ofInt 0 ∧ σ' = rTh σ 1) ∧ ((0 ≤ n.toInt ∧ n.toInt ≤ 200) → rKF σ σ')
theorem sp_304_ett (a0 : Nat) (a1 : Int32) (a2 : Int32) (σ : zSg) (τ1 : zSg) (r1 : Int32) (τ5 : zSg) (τ6 : zSg) (r6 : Int32) (τ9 : zSg) (g1 : p_177 a1 (Int32.ofInt (0)) (Int32.ofInt (200)) (q_w σ a0 0 (.int (Int32.ofInt (0)))) r1 τ1) (h2 : r1.toInt ≠ (0 : Int)) (g5 : p_266 a0 τ1 τ5) (g6 : p_268 a0 a1 (Int32.ofInt (0)) τ5 r6 τ6) (h7 : a2.toInt = (0 : Int)) (h8 : 0 ≤ (Int32.ofInt (8)).toInt ∧ (Int32.ofInt (8)).toInt < (τ6.2.1 (q_r (τ6.1 a0 1)) : Int)) (g9 : p_267 a0 τ6 τ9) :
    p_304 (a0) (a1) (a2) σ (q_i (τ6.1 (q_r (τ6.1 a0 1)) (Int32.ofInt (8)).toNatClampNeg)) τ9 := by
  rintro rfl A nf nt Lo K
  have z0 : (Int32.ofInt 0).toInt = 0 := rfl
  have z1 : (Int32.ofInt 1).toInt = 1 := rfl
  have z2 : (Int32.ofInt 2).toInt = 2 := rfl
  have z99 : (Int32.ofInt 99).toInt = 99 := rfl
  have z200 : (Int32.ofInt 200).toInt = 200 := rfl
  obtain ⟨e0, e1⟩ := g1
  have e0 : τ1 = r0 σ := e0
  subst e0
  have u := e1.mp h2
  have D := rKp.mk K g5
  have G4 := g6 rfl A nf nt Lo a1.toInt.toNat false (D.ev K K.2.2 rfl) K.2.2 (Int32.toInt_inj.mp (by rw [o32 (by omega)]; omega)) (by omega) (Or.inl ⟨rfl, rfl⟩)
  obtain ⟨f4, K4, -⟩ := G4
  have D4 := D.st f4 K4
  refine ⟨fun q => absurd u q, fun _ => ?_⟩
  exact (D4.bb K g9).fin K
theorem sp_304_etf (a0 : Nat) (a1 : Int32) (a2 : Int32) (σ : zSg) (τ1 : zSg) (r1 : Int32) (τ5 : zSg) (τ6 : zSg) (r6 : Int32) (τ10 : zSg) (r10 : Int32) (τ11 : zSg) (g1 : p_177 a1 (Int32.ofInt (0)) (Int32.ofInt (200)) (q_w σ a0 0 (.int (Int32.ofInt (0)))) r1 τ1) (h2 : r1.toInt ≠ (0 : Int)) (g5 : p_266 a0 τ1 τ5) (g6 : p_268 a0 a1 (Int32.ofInt (0)) τ5 r6 τ6) (h7 : a2.toInt ≠ (0 : Int)) (g10 : p_303 a0 τ6 r10 τ10) (g11 : p_267 a0 τ10 τ11) :
    p_304 (a0) (a1) (a2) σ r10 τ11 := by
  rintro rfl A nf nt Lo K
  have z0 : (Int32.ofInt 0).toInt = 0 := rfl
  have z1 : (Int32.ofInt 1).toInt = 1 := rfl
  have z2 : (Int32.ofInt 2).toInt = 2 := rfl
  have z99 : (Int32.ofInt 99).toInt = 99 := rfl
  have z200 : (Int32.ofInt 200).toInt = 200 := rfl
  obtain ⟨e0, e1⟩ := g1
  have e0 : τ1 = r0 σ := e0
  subst e0
  have u := e1.mp h2
  have D := rKp.mk K g5
  have G4 := g6 rfl A nf nt Lo a1.toInt.toNat false (D.ev K K.2.2 rfl) K.2.2 (Int32.toInt_inj.mp (by rw [o32 (by omega)]; omega)) (by omega) (Or.inl ⟨rfl, rfl⟩)
  obtain ⟨f4, K4, -⟩ := G4
  have D4 := D.st f4 K4
  refine ⟨fun q => absurd u q, fun _ => ?_⟩
  obtain rfl := g10
  exact (D4.bb K g11).fin K
theorem sp_304_ef (a0 : Nat) (a1 : Int32) (a2 : Int32) (σ : zSg) (τ1 : zSg) (r1 : Int32) (g1 : p_177 a1 (Int32.ofInt (0)) (Int32.ofInt (200)) (q_w σ a0 0 (.int (Int32.ofInt (0)))) r1 τ1) (h2 : r1.toInt = (0 : Int)) :
    p_304 (a0) (a1) (a2) σ (Int32.ofInt (0)) (q_w τ1 a0 0 (.int (Int32.ofInt (1)))) := by
  rintro rfl A nf nt Lo K
  have z0 : (Int32.ofInt 0).toInt = 0 := rfl
  have z1 : (Int32.ofInt 1).toInt = 1 := rfl
  have z2 : (Int32.ofInt 2).toInt = 2 := rfl
  have z99 : (Int32.ofInt 99).toInt = 99 := rfl
  have z200 : (Int32.ofInt 200).toInt = 200 := rfl
  obtain ⟨e0, e1⟩ := g1
  have e0 : τ1 = r0 σ := e0
  subst e0
  exact ⟨fun _ => ⟨rfl, r0_T⟩, fun q => absurd (e1.mpr q) (by omega)⟩
noncomputable def qP_304 : zPp := fun as σ o σ' => match as with
  | [a0, a1, a2] => ∃ r, o = .inl (some (.int r)) ∧ p_304 (q_r a0) (q_i a1) (q_i a2) σ r σ'
  | _ => True
set_option maxRecDepth 100000 in
theorem sp_304 {sx : zX} (S177 : zEe sx 177 3 qP_177) (S176 : zEe sx 176 3 qP_176) (S266 : zEe sx 266 1 qP_266) (S268 : zEe sx 268 3 qP_268) (S267 : zEe sx 267 1 qP_267) (S303 : zEe sx 303 1 qP_303) : zEe sx 304 3 qP_304 := by
  refine zfle zJ_304 (sps := [(177, 3, qP_177), (176, 3, qP_176), (266, 1, qP_266), (268, 3, qP_268), (267, 1, qP_267), (303, 1, qP_303)]) (fun q hq => by
    simp only [List.mem_cons, List.not_mem_nil, or_false] at hq
    rcases hq with rfl | rfl | rfl | rfl | rfl | rfl
    · exact S177
    · exact S176
    · exact S266
    · exact S268
    · exact S267
    · exact S303) (fun as σ hl => ?_)
  match as, hl with
  | [a0, a1, a2], _ =>
  refine ⟨[], 400, ?_, ?_⟩
  · exact fun q hq => absurd hq List.not_mem_nil
  · refine fun o1 τ1 g1 => ?_
    obtain ⟨r1, rfl, g1⟩ := g1
    refine And.intro (fun h2 => ?_) (fun h2 => ?_)
    · refine fun o3 τ3 g3 => ?_
      obtain ⟨r3, rfl, rfl, y3, z3⟩ := g3
      have e3 := (z3 rfl).symm
      subst e3
      refine And.intro (fun _ => ?_) (fun h4 => absurd (show z_cmp 0 (Int32.ofInt (0)) 0 = false from h4) (by decide))
      refine fun o5 τ5 g5 => ?_
      obtain ⟨rfl, g5⟩ := g5
      refine fun o6 τ6 g6 => ?_
      obtain ⟨r6, rfl, g6⟩ := g6
      refine And.intro (fun h7 => ?_) (fun h7 => ?_)
      · refine fun h8 => ?_
        refine fun o9 τ9 g9 => ?_
        obtain ⟨rfl, g9⟩ := g9
        exact ⟨_, rfl, sp_304_ett (q_r a0) (q_i a1) (q_i a2) σ τ1 r1 τ5 τ6 r6 τ9 g1 (cm1t h2) g5 g6 (cm0t h7) (q_inp h8) g9⟩
      · refine fun o10 τ10 g10 => ?_
        obtain ⟨r10, rfl, g10⟩ := g10
        refine fun o11 τ11 g11 => ?_
        obtain ⟨rfl, g11⟩ := g11
        exact ⟨_, rfl, sp_304_etf (q_r a0) (q_i a1) (q_i a2) σ τ1 r1 τ5 τ6 r6 τ10 r10 τ11 g1 (cm1t h2) g5 g6 (cm0f h7) g10 g11⟩
    · refine fun o12 τ12 g12 => ?_
      obtain ⟨r12, rfl, rfl, y12, z12⟩ := g12
      have e12 := (y12 (by decide)).symm
      subst e12
      refine And.intro (fun h13 => absurd (show z_cmp 0 (Int32.ofInt (1)) 0 = true from h13) (by decide)) (fun _ => ?_)
      exact ⟨_, rfl, sp_304_ef (q_r a0) (q_i a1) (q_i a2) σ τ1 r1 g1 (cm1f h2)⟩
theorem zJ_305 : zJ3 305 z_m305 z_c305 z_h305 := ⟨rfl, rfl, rfl⟩
noncomputable def p_305 (a : Nat) (n w : Int32) (σ : zSg) (r : Int32) (σ' : zSg) : Prop := a = 205 → ∀ A nf nt Lo, rDp σ A nf nt Lo → (¬ (0 ≤ n.toInt ∧ n.toInt ≤ 200) → r = Int32.ofInt 0 ∧ σ' = rTh σ 1) ∧ ((0 ≤ n.toInt ∧ n.toInt ≤ 200) → rKF σ σ')
noncomputable def i_305 (a : Nat) (n w : Int32) (σ : zSg) (l0 : Nat) (l1 l2 l3 l4 : Int32) (τ : zSg) : Prop := l0 = a ∧ l1 = n ∧ (a = 205 → ∀ A nf nt Lo, rDp σ A nf nt Lo → (0 ≤ n.toInt ∧ n.toInt ≤ 200) ∧ rKp σ τ A A)
theorem sp_305_et (a0 : Nat) (a1 : Int32) (a2 : Int32) (σ : zSg) (τ1 : zSg) (r1 : Int32) (τ5 : zSg) (g1 : p_177 a1 (Int32.ofInt (0)) (Int32.ofInt (200)) (q_w σ a0 0 (.int (Int32.ofInt (0)))) r1 τ1) (h2 : r1.toInt ≠ (0 : Int)) (g5 : p_266 a0 τ1 τ5) :
    i_305 a0 a1 a2 σ a0 a1 a2 (Int32.ofInt (-1)) (Int32.ofInt (1)) τ5 := by
  refine ⟨rfl, rfl, ?_⟩
  rintro rfl A nf nt Lo K
  have z0 : (Int32.ofInt 0).toInt = 0 := rfl
  have z1 : (Int32.ofInt 1).toInt = 1 := rfl
  have z2 : (Int32.ofInt 2).toInt = 2 := rfl
  have z99 : (Int32.ofInt 99).toInt = 99 := rfl
  have z200 : (Int32.ofInt 200).toInt = 200 := rfl
  obtain ⟨e0, e1⟩ := g1
  have e0 : τ1 = r0 σ := e0
  subst e0
  exact ⟨e1.mp h2, rKp.mk K g5⟩
theorem sp_305_ef (a0 : Nat) (a1 : Int32) (a2 : Int32) (σ : zSg) (τ1 : zSg) (r1 : Int32) (g1 : p_177 a1 (Int32.ofInt (0)) (Int32.ofInt (200)) (q_w σ a0 0 (.int (Int32.ofInt (0)))) r1 τ1) (h2 : r1.toInt = (0 : Int)) :
    p_305 (a0) (a1) (a2) σ (Int32.ofInt (0)) (q_w τ1 a0 0 (.int (Int32.ofInt (1)))) := by
  rintro rfl A nf nt Lo K
  have z0 : (Int32.ofInt 0).toInt = 0 := rfl
  have z1 : (Int32.ofInt 1).toInt = 1 := rfl
  have z2 : (Int32.ofInt 2).toInt = 2 := rfl
  have z99 : (Int32.ofInt 99).toInt = 99 := rfl
  have z200 : (Int32.ofInt 200).toInt = 200 := rfl
  obtain ⟨e0, e1⟩ := g1
  have e0 : τ1 = r0 σ := e0
  subst e0
  exact ⟨fun _ => ⟨rfl, r0_T⟩, fun q => absurd (e1.mpr q) (by omega)⟩
theorem sp_305_c23_t (a0 : Nat) (a1 : Int32) (a2 : Int32) (σ : zSg) (l0 : Nat) (l1 : Int32) (l2 : Int32) (l3 : Int32) (l4 : Int32) (τ : zSg) (hI : i_305 a0 a1 a2 σ l0 l1 l2 l3 l4 τ) (h8 : l4.toInt > (6 : Int)) :
    p_305 (a0) (a1) (a2) σ l3 τ := by
  obtain ⟨rfl, rfl, hI⟩ := hI
  rintro rfl A nf nt Lo K
  obtain ⟨RNG, D⟩ := hI rfl A nf nt Lo K
  exact ⟨fun q => absurd RNG q, fun _ => D.fin K⟩
theorem sp_305_c23_ftt (a0 : Nat) (a1 : Int32) (a2 : Int32) (σ : zSg) (l0 : Nat) (l1 : Int32) (l2 : Int32) (l3 : Int32) (l4 : Int32) (τ : zSg) (τ10 : zSg) (r10 : Int32) (τ12 : zSg) (hI : i_305 a0 a1 a2 σ l0 l1 l2 l3 l4 τ) (h8 : l4.toInt ≤ (6 : Int)) (h9 : 0 ≤ (Int32.ofInt (15)).toInt ∧ (Int32.ofInt (15)).toInt < (τ.2.1 (q_r (τ.1 l0 1)) : Int)) (g10 : p_268 l0 l1 (Int32.ofInt (0)) (q_w τ (q_r (τ.1 l0 1)) (Int32.ofInt (15)).toNatClampNeg (.int l4)) r10 τ10) (h11 : 0 ≤ (Int32.ofInt (8)).toInt ∧ (Int32.ofInt (8)).toInt < (τ10.2.1 (q_r (τ10.1 l0 1)) : Int)) (g12 : p_267 l0 τ10 τ12) (h13 : l3.toInt ≥ (0 : Int)) (h14 : l2.toInt = (0 : Int)) :
    i_305 a0 a1 a2 σ l0 l1 l2 (if (q_i (τ10.1 (q_r (τ10.1 l0 1)) (Int32.ofInt (8)).toNatClampNeg)) < l3 then (q_i (τ10.1 (q_r (τ10.1 l0 1)) (Int32.ofInt (8)).toNatClampNeg)) else l3) (l4 + Int32.ofInt (1)) τ12 := by
  obtain ⟨rfl, rfl, hI⟩ := hI
  refine ⟨rfl, rfl, ?_⟩
  rintro rfl A nf nt Lo K
  obtain ⟨RNG, D⟩ := hI rfl A nf nt Lo K
  rw [D.2.2.2.2.q, kz15] at g10
  have IS := K.2.2.sd (x := l4)
  have D1 := D.st (rHF.rf.w (k := 15) (v := .int l4) (by omega)) (D.2.2.2.2.ww (k := 15) (v := l4))
  have EV := D1.ev K IS (aU_ne (by omega))
  obtain ⟨f4, K4, -⟩ := g10 rfl _ nf nt Lo l1.toInt.toNat false EV IS (Int32.toInt_inj.mp (by rw [o32 (by omega)]; omega)) (by omega) (Or.inl ⟨rfl, rfl⟩)
  exact ⟨RNG, (D1.st f4 K4).bb K g12⟩
theorem sp_305_c23_ftf (a0 : Nat) (a1 : Int32) (a2 : Int32) (σ : zSg) (l0 : Nat) (l1 : Int32) (l2 : Int32) (l3 : Int32) (l4 : Int32) (τ : zSg) (τ10 : zSg) (r10 : Int32) (τ12 : zSg) (hI : i_305 a0 a1 a2 σ l0 l1 l2 l3 l4 τ) (h8 : l4.toInt ≤ (6 : Int)) (h9 : 0 ≤ (Int32.ofInt (15)).toInt ∧ (Int32.ofInt (15)).toInt < (τ.2.1 (q_r (τ.1 l0 1)) : Int)) (g10 : p_268 l0 l1 (Int32.ofInt (0)) (q_w τ (q_r (τ.1 l0 1)) (Int32.ofInt (15)).toNatClampNeg (.int l4)) r10 τ10) (h11 : 0 ≤ (Int32.ofInt (8)).toInt ∧ (Int32.ofInt (8)).toInt < (τ10.2.1 (q_r (τ10.1 l0 1)) : Int)) (g12 : p_267 l0 τ10 τ12) (h13 : l3.toInt ≥ (0 : Int)) (h14 : l2.toInt ≠ (0 : Int)) :
    i_305 a0 a1 a2 σ l0 l1 l2 (if l3 < (q_i (τ10.1 (q_r (τ10.1 l0 1)) (Int32.ofInt (8)).toNatClampNeg)) then (q_i (τ10.1 (q_r (τ10.1 l0 1)) (Int32.ofInt (8)).toNatClampNeg)) else l3) (l4 + Int32.ofInt (1)) τ12 := by
  obtain ⟨rfl, rfl, hI⟩ := hI
  refine ⟨rfl, rfl, ?_⟩
  rintro rfl A nf nt Lo K
  obtain ⟨RNG, D⟩ := hI rfl A nf nt Lo K
  rw [D.2.2.2.2.q, kz15] at g10
  have IS := K.2.2.sd (x := l4)
  have D1 := D.st (rHF.rf.w (k := 15) (v := .int l4) (by omega)) (D.2.2.2.2.ww (k := 15) (v := l4))
  have EV := D1.ev K IS (aU_ne (by omega))
  obtain ⟨f4, K4, -⟩ := g10 rfl _ nf nt Lo l1.toInt.toNat false EV IS (Int32.toInt_inj.mp (by rw [o32 (by omega)]; omega)) (by omega) (Or.inl ⟨rfl, rfl⟩)
  exact ⟨RNG, (D1.st f4 K4).bb K g12⟩
theorem sp_305_c23_ff (a0 : Nat) (a1 : Int32) (a2 : Int32) (σ : zSg) (l0 : Nat) (l1 : Int32) (l2 : Int32) (l3 : Int32) (l4 : Int32) (τ : zSg) (τ10 : zSg) (r10 : Int32) (τ12 : zSg) (hI : i_305 a0 a1 a2 σ l0 l1 l2 l3 l4 τ) (h8 : l4.toInt ≤ (6 : Int)) (h9 : 0 ≤ (Int32.ofInt (15)).toInt ∧ (Int32.ofInt (15)).toInt < (τ.2.1 (q_r (τ.1 l0 1)) : Int)) (g10 : p_268 l0 l1 (Int32.ofInt (0)) (q_w τ (q_r (τ.1 l0 1)) (Int32.ofInt (15)).toNatClampNeg (.int l4)) r10 τ10) (h11 : 0 ≤ (Int32.ofInt (8)).toInt ∧ (Int32.ofInt (8)).toInt < (τ10.2.1 (q_r (τ10.1 l0 1)) : Int)) (g12 : p_267 l0 τ10 τ12) (h13 : l3.toInt < (0 : Int)) :
    i_305 a0 a1 a2 σ l0 l1 l2 (q_i (τ10.1 (q_r (τ10.1 l0 1)) (Int32.ofInt (8)).toNatClampNeg)) (l4 + Int32.ofInt (1)) τ12 := by
  obtain ⟨rfl, rfl, hI⟩ := hI
  refine ⟨rfl, rfl, ?_⟩
  rintro rfl A nf nt Lo K
  obtain ⟨RNG, D⟩ := hI rfl A nf nt Lo K
  rw [D.2.2.2.2.q, kz15] at g10
  have IS := K.2.2.sd (x := l4)
  have D1 := D.st (rHF.rf.w (k := 15) (v := .int l4) (by omega)) (D.2.2.2.2.ww (k := 15) (v := l4))
  have EV := D1.ev K IS (aU_ne (by omega))
  obtain ⟨f4, K4, -⟩ := g10 rfl _ nf nt Lo l1.toInt.toNat false EV IS (Int32.toInt_inj.mp (by rw [o32 (by omega)]; omega)) (by omega) (Or.inl ⟨rfl, rfl⟩)
  exact ⟨RNG, (D1.st f4 K4).bb K g12⟩
noncomputable def qP_305 : zPp := fun as σ o σ' => match as with
  | [a0, a1, a2] => ∃ r, o = .inl (some (.int r)) ∧ p_305 (q_r a0) (q_i a1) (q_i a2) σ r σ'
  | _ => True
set_option maxRecDepth 100000 in
theorem sp_305 {sx : zX} (S177 : zEe sx 177 3 qP_177) (S176 : zEe sx 176 3 qP_176) (S266 : zEe sx 266 1 qP_266) (S268 : zEe sx 268 3 qP_268) (S267 : zEe sx 267 1 qP_267) : zEe sx 305 3 qP_305 := by
  refine zfle zJ_305 (sps := [(177, 3, qP_177), (176, 3, qP_176), (266, 1, qP_266), (268, 3, qP_268), (267, 1, qP_267)]) (fun q hq => by
    simp only [List.mem_cons, List.not_mem_nil, or_false] at hq
    rcases hq with rfl | rfl | rfl | rfl | rfl
    · exact S177
    · exact S176
    · exact S266
    · exact S268
    · exact S267) (fun as σ hl => ?_)
  match as, hl with
  | [a0, a1, a2], _ =>
  refine ⟨[(23, fun lo st τ => st = [] ∧ i_305 (q_r a0) (q_i a1) (q_i a2) σ (q_r (lo 0)) (q_i (lo 1)) (q_i (lo 2)) (q_i (lo 3)) (q_i (lo 4)) τ)], 400, ?_, ?_⟩
  · intro q hq
    simp only [List.mem_cons, List.not_mem_nil, or_false] at hq
    rcases hq with rfl
    · rintro lo st τ ⟨rfl, hI⟩
      refine ⟨400, ?_⟩
      refine And.intro (fun h8 => ?_) (fun h8 => ?_)
      · exact ⟨_, rfl, sp_305_c23_t (q_r a0) (q_i a1) (q_i a2) σ (q_r (lo 0)) (q_i (lo 1)) (q_i (lo 2)) (q_i (lo 3)) (q_i (lo 4)) τ hI (cm4t h8)⟩
      · refine fun h9 => ?_
        refine fun o10 τ10 g10 => ?_
        obtain ⟨r10, rfl, g10⟩ := g10
        refine fun h11 => ?_
        refine fun o12 τ12 g12 => ?_
        obtain ⟨rfl, g12⟩ := g12
        refine And.intro (fun h13 => ?_) (fun h13 => ?_)
        · refine And.intro (fun h14 => ?_) (fun h14 => ?_)
          · exact ⟨rfl, sp_305_c23_ftt (q_r a0) (q_i a1) (q_i a2) σ (q_r (lo 0)) (q_i (lo 1)) (q_i (lo 2)) (q_i (lo 3)) (q_i (lo 4)) τ τ10 r10 τ12 hI (cm4f h8) (q_inp h9) g10 (q_inp h11) g12 (cm3t h13) (cm0t h14)⟩
          · exact ⟨rfl, sp_305_c23_ftf (q_r a0) (q_i a1) (q_i a2) σ (q_r (lo 0)) (q_i (lo 1)) (q_i (lo 2)) (q_i (lo 3)) (q_i (lo 4)) τ τ10 r10 τ12 hI (cm4f h8) (q_inp h9) g10 (q_inp h11) g12 (cm3t h13) (cm0f h14)⟩
        · exact ⟨rfl, sp_305_c23_ff (q_r a0) (q_i a1) (q_i a2) σ (q_r (lo 0)) (q_i (lo 1)) (q_i (lo 2)) (q_i (lo 3)) (q_i (lo 4)) τ τ10 r10 τ12 hI (cm4f h8) (q_inp h9) g10 (q_inp h11) g12 (cm3f h13)⟩
  · refine fun o1 τ1 g1 => ?_
    obtain ⟨r1, rfl, g1⟩ := g1
    refine And.intro (fun h2 => ?_) (fun h2 => ?_)
    · refine fun o3 τ3 g3 => ?_
      obtain ⟨r3, rfl, rfl, y3, z3⟩ := g3
      have e3 := (z3 rfl).symm
      subst e3
      refine And.intro (fun _ => ?_) (fun h4 => absurd (show z_cmp 0 (Int32.ofInt (0)) 0 = false from h4) (by decide))
      refine fun o5 τ5 g5 => ?_
      obtain ⟨rfl, g5⟩ := g5
      exact ⟨rfl, sp_305_et (q_r a0) (q_i a1) (q_i a2) σ τ1 r1 τ5 g1 (cm1t h2) g5⟩
    · refine fun o6 τ6 g6 => ?_
      obtain ⟨r6, rfl, rfl, y6, z6⟩ := g6
      have e6 := (y6 (by decide)).symm
      subst e6
      refine And.intro (fun h7 => absurd (show z_cmp 0 (Int32.ofInt (1)) 0 = true from h7) (by decide)) (fun _ => ?_)
      exact ⟨_, rfl, sp_305_ef (q_r a0) (q_i a1) (q_i a2) σ τ1 r1 g1 (cm1f h2)⟩
end
section
/-! the law's calls of the class, exact; printed with wip/gen/gen_dm.py -/
noncomputable def p_315 (a : Nat) (o : Nat) (σ : zSg) (k : Int32) (σ' : zSg) : Prop := ∃ e τ, p_120 a  σ e τ ∧ ((∃ v, e = .inl v ∧ k = Int32.ofInt 0 ∧ σ' = q_w τ o 0 (.long v.toInt64)) ∨ (e = .inr 0 ∧ k = Int32.ofInt 1 ∧ σ' = τ) ∨ (e = .inr 1 ∧ k = Int32.ofInt 2 ∧ σ' = τ))
theorem sp_315_en (a0 : Nat) (a1 : Nat) (σ : zSg) (τ1 : zSg) (r1 : Int32) (g1 : p_120 a0 σ (.inl r1) τ1) (h2 : 0 ≤ (Int32.ofInt (0)).toInt ∧ (Int32.ofInt (0)).toInt < (τ1.2.1 a1 : Int)) :
    p_315 (a0) (a1) σ (Int32.ofInt (0)) (q_w τ1 a1 (Int32.ofInt (0)).toNatClampNeg (.long r1.toInt64)) := by
  exact ⟨_, _, g1, Or.inl ⟨_, rfl, rfl, rfl⟩⟩
theorem sp_315_ex0_ (a0 : Nat) (a1 : Nat) (σ : zSg) (τ1 : zSg) (g1 : p_120 a0 σ (.inr 0) τ1) :
    p_315 (a0) (a1) σ (Int32.ofInt (1)) τ1 := by
  exact ⟨_, _, g1, Or.inr (Or.inl (⟨rfl, rfl, rfl⟩))⟩
theorem sp_315_ex1_ (a0 : Nat) (a1 : Nat) (σ : zSg) (τ1 : zSg) (g1 : p_120 a0 σ (.inr 1) τ1) :
    p_315 (a0) (a1) σ (Int32.ofInt (2)) τ1 := by
  exact ⟨_, _, g1, Or.inr (Or.inr (⟨rfl, rfl, rfl⟩))⟩
noncomputable def qP_315 : zPp := fun as σ o σ' => match as with
  | [a0, a1] => ∃ r, o = .inl (some (.int r)) ∧ p_315 (q_r a0) (q_r a1) σ r σ'
  | _ => True
set_option maxRecDepth 100000 in
theorem sp_315 {sx : zX} (S120 : zEe sx 120 1 qP_120) : zEe sx 315 2 qP_315 := by
  refine zfle zJ_315 (sps := [(120, 1, qP_120)]) (fun q hq => by
    simp only [List.mem_cons, List.not_mem_nil, or_false] at hq
    rcases hq with rfl
    · exact S120) (fun as σ hl => ?_)
  match as, hl with
  | [a0, a1], _ =>
  refine ⟨[], 400, ?_, ?_⟩
  · exact fun q hq => absurd hq List.not_mem_nil
  · refine fun o1 τ1 g1 => ?_
    rcases g1 with ⟨r1, rfl, g1⟩ | ⟨rfl, g1⟩ | ⟨rfl, g1⟩
    · refine fun h2 => ?_
      exact ⟨_, rfl, sp_315_en (q_r a0) (q_r a1) σ τ1 r1 g1 (q_inp h2)⟩
    · exact ⟨_, rfl, sp_315_ex0_ (q_r a0) (q_r a1) σ τ1 g1⟩
    · exact ⟨_, rfl, sp_315_ex1_ (q_r a0) (q_r a1) σ τ1 g1⟩
theorem zJ_319 : zJ3 319 z_m319 z_c319 z_h319 := ⟨rfl, rfl, rfl⟩
noncomputable def p_319 (a : Nat) (a1 a2 a3 : Int32) (o : Nat) (σ : zSg) (k : Int32) (σ' : zSg) : Prop := ∃ e τ, p_125 a a1 a2 a3 σ e τ ∧ ((∃ v, e = .inl v ∧ k = Int32.ofInt 0 ∧ σ' = q_w τ o 0 (.long v.toInt64)) ∨ (e = .inr 2 ∧ k = Int32.ofInt 1 ∧ σ' = τ) ∨ (e = .inr 3 ∧ k = Int32.ofInt 2 ∧ σ' = τ))
theorem sp_319_en (a0 : Nat) (a1 : Int32) (a2 : Int32) (a3 : Int32) (a4 : Nat) (σ : zSg) (τ1 : zSg) (r1 : Int32) (g1 : p_125 a0 a1 a2 a3 σ (.inl r1) τ1) (h2 : 0 ≤ (Int32.ofInt (0)).toInt ∧ (Int32.ofInt (0)).toInt < (τ1.2.1 a4 : Int)) :
    p_319 (a0) (a1) (a2) (a3) (a4) σ (Int32.ofInt (0)) (q_w τ1 a4 (Int32.ofInt (0)).toNatClampNeg (.long r1.toInt64)) := by
  exact ⟨_, _, g1, Or.inl ⟨_, rfl, rfl, rfl⟩⟩
theorem sp_319_ex2_ (a0 : Nat) (a1 : Int32) (a2 : Int32) (a3 : Int32) (a4 : Nat) (σ : zSg) (τ1 : zSg) (g1 : p_125 a0 a1 a2 a3 σ (.inr 2) τ1) :
    p_319 (a0) (a1) (a2) (a3) (a4) σ (Int32.ofInt (1)) τ1 := by
  exact ⟨_, _, g1, Or.inr (Or.inl (⟨rfl, rfl, rfl⟩))⟩
theorem sp_319_ex3_ (a0 : Nat) (a1 : Int32) (a2 : Int32) (a3 : Int32) (a4 : Nat) (σ : zSg) (τ1 : zSg) (g1 : p_125 a0 a1 a2 a3 σ (.inr 3) τ1) :
    p_319 (a0) (a1) (a2) (a3) (a4) σ (Int32.ofInt (2)) τ1 := by
  exact ⟨_, _, g1, Or.inr (Or.inr (⟨rfl, rfl, rfl⟩))⟩
noncomputable def qP_319 : zPp := fun as σ o σ' => match as with
  | [a0, a1, a2, a3, a4] => ∃ r, o = .inl (some (.int r)) ∧ p_319 (q_r a0) (q_i a1) (q_i a2) (q_i a3) (q_r a4) σ r σ'
  | _ => True
set_option maxRecDepth 100000 in
theorem sp_319 {sx : zX} (S125 : zEe sx 125 4 qP_125) : zEe sx 319 5 qP_319 := by
  refine zfle zJ_319 (sps := [(125, 4, qP_125)]) (fun q hq => by
    simp only [List.mem_cons, List.not_mem_nil, or_false] at hq
    rcases hq with rfl
    · exact S125) (fun as σ hl => ?_)
  match as, hl with
  | [a0, a1, a2, a3, a4], _ =>
  refine ⟨[], 400, ?_, ?_⟩
  · exact fun q hq => absurd hq List.not_mem_nil
  · refine fun o1 τ1 g1 => ?_
    rcases g1 with ⟨r1, rfl, g1⟩ | ⟨rfl, g1⟩ | ⟨rfl, g1⟩
    · refine fun h2 => ?_
      exact ⟨_, rfl, sp_319_en (q_r a0) (q_i a1) (q_i a2) (q_i a3) (q_r a4) σ τ1 r1 g1 (q_inp h2)⟩
    · exact ⟨_, rfl, sp_319_ex2_ (q_r a0) (q_i a1) (q_i a2) (q_i a3) (q_r a4) σ τ1 g1⟩
    · exact ⟨_, rfl, sp_319_ex3_ (q_r a0) (q_i a1) (q_i a2) (q_i a3) (q_r a4) σ τ1 g1⟩
theorem zJ_320 : zJ3 320 z_m320 z_c320 z_h320 := ⟨rfl, rfl, rfl⟩
noncomputable def p_320 (a : Nat) (a1 a2 : Int32) (o : Nat) (σ : zSg) (k : Int32) (σ' : zSg) : Prop := ∃ e τ, p_126 a a1 a2 σ e τ ∧ ((∃ v, e = .inl v ∧ k = Int32.ofInt 0 ∧ σ' = q_w τ o 0 (.long v.toInt64)) ∨ (e = .inr 2 ∧ k = Int32.ofInt 1 ∧ σ' = τ) ∨ (e = .inr 3 ∧ k = Int32.ofInt 2 ∧ σ' = τ))
theorem sp_320_en (a0 : Nat) (a1 : Int32) (a2 : Int32) (a3 : Nat) (σ : zSg) (τ1 : zSg) (r1 : Int32) (g1 : p_126 a0 a1 a2 σ (.inl r1) τ1) (h2 : 0 ≤ (Int32.ofInt (0)).toInt ∧ (Int32.ofInt (0)).toInt < (τ1.2.1 a3 : Int)) :
    p_320 (a0) (a1) (a2) (a3) σ (Int32.ofInt (0)) (q_w τ1 a3 (Int32.ofInt (0)).toNatClampNeg (.long r1.toInt64)) := by
  exact ⟨_, _, g1, Or.inl ⟨_, rfl, rfl, rfl⟩⟩
theorem sp_320_ex2_ (a0 : Nat) (a1 : Int32) (a2 : Int32) (a3 : Nat) (σ : zSg) (τ1 : zSg) (g1 : p_126 a0 a1 a2 σ (.inr 2) τ1) :
    p_320 (a0) (a1) (a2) (a3) σ (Int32.ofInt (1)) τ1 := by
  exact ⟨_, _, g1, Or.inr (Or.inl (⟨rfl, rfl, rfl⟩))⟩
theorem sp_320_ex3_ (a0 : Nat) (a1 : Int32) (a2 : Int32) (a3 : Nat) (σ : zSg) (τ1 : zSg) (g1 : p_126 a0 a1 a2 σ (.inr 3) τ1) :
    p_320 (a0) (a1) (a2) (a3) σ (Int32.ofInt (2)) τ1 := by
  exact ⟨_, _, g1, Or.inr (Or.inr (⟨rfl, rfl, rfl⟩))⟩
noncomputable def qP_320 : zPp := fun as σ o σ' => match as with
  | [a0, a1, a2, a3] => ∃ r, o = .inl (some (.int r)) ∧ p_320 (q_r a0) (q_i a1) (q_i a2) (q_r a3) σ r σ'
  | _ => True
set_option maxRecDepth 100000 in
theorem sp_320 {sx : zX} (S126 : zEe sx 126 3 qP_126) : zEe sx 320 4 qP_320 := by
  refine zfle zJ_320 (sps := [(126, 3, qP_126)]) (fun q hq => by
    simp only [List.mem_cons, List.not_mem_nil, or_false] at hq
    rcases hq with rfl
    · exact S126) (fun as σ hl => ?_)
  match as, hl with
  | [a0, a1, a2, a3], _ =>
  refine ⟨[], 400, ?_, ?_⟩
  · exact fun q hq => absurd hq List.not_mem_nil
  · refine fun o1 τ1 g1 => ?_
    rcases g1 with ⟨r1, rfl, g1⟩ | ⟨rfl, g1⟩ | ⟨rfl, g1⟩
    · refine fun h2 => ?_
      exact ⟨_, rfl, sp_320_en (q_r a0) (q_i a1) (q_i a2) (q_r a3) σ τ1 r1 g1 (q_inp h2)⟩
    · exact ⟨_, rfl, sp_320_ex2_ (q_r a0) (q_i a1) (q_i a2) (q_r a3) σ τ1 g1⟩
    · exact ⟨_, rfl, sp_320_ex3_ (q_r a0) (q_i a1) (q_i a2) (q_r a3) σ τ1 g1⟩
theorem zJ_321 : zJ3 321 z_m321 z_c321 z_h321 := ⟨rfl, rfl, rfl⟩
noncomputable def p_321 (a : Nat) (a1 a2 : Int32) (o : Nat) (σ : zSg) (k : Int32) (σ' : zSg) : Prop := ∃ e τ, p_127 a a1 a2 σ e τ ∧ ((∃ v, e = .inl v ∧ k = Int32.ofInt 0 ∧ σ' = q_w τ o 0 (.long v.toInt64)) ∨ (e = .inr 2 ∧ k = Int32.ofInt 1 ∧ σ' = τ) ∨ (e = .inr 0 ∧ k = Int32.ofInt 2 ∧ σ' = τ) ∨ (e = .inr 4 ∧ k = Int32.ofInt 3 ∧ σ' = τ))
theorem sp_321_en (a0 : Nat) (a1 : Int32) (a2 : Int32) (a3 : Nat) (σ : zSg) (τ1 : zSg) (r1 : Int32) (g1 : p_127 a0 a1 a2 σ (.inl r1) τ1) (h2 : 0 ≤ (Int32.ofInt (0)).toInt ∧ (Int32.ofInt (0)).toInt < (τ1.2.1 a3 : Int)) :
    p_321 (a0) (a1) (a2) (a3) σ (Int32.ofInt (0)) (q_w τ1 a3 (Int32.ofInt (0)).toNatClampNeg (.long r1.toInt64)) := by
  exact ⟨_, _, g1, Or.inl ⟨_, rfl, rfl, rfl⟩⟩
theorem sp_321_ex2_ (a0 : Nat) (a1 : Int32) (a2 : Int32) (a3 : Nat) (σ : zSg) (τ1 : zSg) (g1 : p_127 a0 a1 a2 σ (.inr 2) τ1) :
    p_321 (a0) (a1) (a2) (a3) σ (Int32.ofInt (1)) τ1 := by
  exact ⟨_, _, g1, Or.inr (Or.inl (⟨rfl, rfl, rfl⟩))⟩
theorem sp_321_ex0_ (a0 : Nat) (a1 : Int32) (a2 : Int32) (a3 : Nat) (σ : zSg) (τ1 : zSg) (g1 : p_127 a0 a1 a2 σ (.inr 0) τ1) :
    p_321 (a0) (a1) (a2) (a3) σ (Int32.ofInt (2)) τ1 := by
  exact ⟨_, _, g1, Or.inr (Or.inr (Or.inl (⟨rfl, rfl, rfl⟩)))⟩
theorem sp_321_ex4_ (a0 : Nat) (a1 : Int32) (a2 : Int32) (a3 : Nat) (σ : zSg) (τ1 : zSg) (g1 : p_127 a0 a1 a2 σ (.inr 4) τ1) :
    p_321 (a0) (a1) (a2) (a3) σ (Int32.ofInt (3)) τ1 := by
  exact ⟨_, _, g1, Or.inr (Or.inr (Or.inr (⟨rfl, rfl, rfl⟩)))⟩
noncomputable def qP_321 : zPp := fun as σ o σ' => match as with
  | [a0, a1, a2, a3] => ∃ r, o = .inl (some (.int r)) ∧ p_321 (q_r a0) (q_i a1) (q_i a2) (q_r a3) σ r σ'
  | _ => True
set_option maxRecDepth 100000 in
theorem sp_321 {sx : zX} (S127 : zEe sx 127 3 qP_127) : zEe sx 321 4 qP_321 := by
  refine zfle zJ_321 (sps := [(127, 3, qP_127)]) (fun q hq => by
    simp only [List.mem_cons, List.not_mem_nil, or_false] at hq
    rcases hq with rfl
    · exact S127) (fun as σ hl => ?_)
  match as, hl with
  | [a0, a1, a2, a3], _ =>
  refine ⟨[], 400, ?_, ?_⟩
  · exact fun q hq => absurd hq List.not_mem_nil
  · refine fun o1 τ1 g1 => ?_
    rcases g1 with ⟨r1, rfl, g1⟩ | ⟨rfl, g1⟩ | ⟨rfl, g1⟩ | ⟨rfl, g1⟩
    · refine fun h2 => ?_
      exact ⟨_, rfl, sp_321_en (q_r a0) (q_i a1) (q_i a2) (q_r a3) σ τ1 r1 g1 (q_inp h2)⟩
    · exact ⟨_, rfl, sp_321_ex2_ (q_r a0) (q_i a1) (q_i a2) (q_r a3) σ τ1 g1⟩
    · exact ⟨_, rfl, sp_321_ex0_ (q_r a0) (q_i a1) (q_i a2) (q_r a3) σ τ1 g1⟩
    · exact ⟨_, rfl, sp_321_ex4_ (q_r a0) (q_i a1) (q_i a2) (q_r a3) σ τ1 g1⟩
theorem zJ_322 : zJ3 322 z_m322 z_c322 z_h322 := ⟨rfl, rfl, rfl⟩
noncomputable def p_322 (a : Nat) (a1 a2 : Int32) (o : Nat) (σ : zSg) (k : Int32) (σ' : zSg) : Prop := ∃ e τ, p_128 a a1 a2 σ e τ ∧ ((∃ v, e = .inl v ∧ k = Int32.ofInt 0 ∧ σ' = q_w τ o 0 (.long v.toInt64)) ∨ (e = .inr 2 ∧ k = Int32.ofInt 1 ∧ σ' = τ) ∨ (e = .inr 4 ∧ k = Int32.ofInt 2 ∧ σ' = τ))
theorem sp_322_en (a0 : Nat) (a1 : Int32) (a2 : Int32) (a3 : Nat) (σ : zSg) (τ1 : zSg) (r1 : Int32) (g1 : p_128 a0 a1 a2 σ (.inl r1) τ1) (h2 : 0 ≤ (Int32.ofInt (0)).toInt ∧ (Int32.ofInt (0)).toInt < (τ1.2.1 a3 : Int)) :
    p_322 (a0) (a1) (a2) (a3) σ (Int32.ofInt (0)) (q_w τ1 a3 (Int32.ofInt (0)).toNatClampNeg (.long r1.toInt64)) := by
  exact ⟨_, _, g1, Or.inl ⟨_, rfl, rfl, rfl⟩⟩
theorem sp_322_ex2_ (a0 : Nat) (a1 : Int32) (a2 : Int32) (a3 : Nat) (σ : zSg) (τ1 : zSg) (g1 : p_128 a0 a1 a2 σ (.inr 2) τ1) :
    p_322 (a0) (a1) (a2) (a3) σ (Int32.ofInt (1)) τ1 := by
  exact ⟨_, _, g1, Or.inr (Or.inl (⟨rfl, rfl, rfl⟩))⟩
theorem sp_322_ex4_ (a0 : Nat) (a1 : Int32) (a2 : Int32) (a3 : Nat) (σ : zSg) (τ1 : zSg) (g1 : p_128 a0 a1 a2 σ (.inr 4) τ1) :
    p_322 (a0) (a1) (a2) (a3) σ (Int32.ofInt (2)) τ1 := by
  exact ⟨_, _, g1, Or.inr (Or.inr (⟨rfl, rfl, rfl⟩))⟩
noncomputable def qP_322 : zPp := fun as σ o σ' => match as with
  | [a0, a1, a2, a3] => ∃ r, o = .inl (some (.int r)) ∧ p_322 (q_r a0) (q_i a1) (q_i a2) (q_r a3) σ r σ'
  | _ => True
set_option maxRecDepth 100000 in
theorem sp_322 {sx : zX} (S128 : zEe sx 128 3 qP_128) : zEe sx 322 4 qP_322 := by
  refine zfle zJ_322 (sps := [(128, 3, qP_128)]) (fun q hq => by
    simp only [List.mem_cons, List.not_mem_nil, or_false] at hq
    rcases hq with rfl
    · exact S128) (fun as σ hl => ?_)
  match as, hl with
  | [a0, a1, a2, a3], _ =>
  refine ⟨[], 400, ?_, ?_⟩
  · exact fun q hq => absurd hq List.not_mem_nil
  · refine fun o1 τ1 g1 => ?_
    rcases g1 with ⟨r1, rfl, g1⟩ | ⟨rfl, g1⟩ | ⟨rfl, g1⟩
    · refine fun h2 => ?_
      exact ⟨_, rfl, sp_322_en (q_r a0) (q_i a1) (q_i a2) (q_r a3) σ τ1 r1 g1 (q_inp h2)⟩
    · exact ⟨_, rfl, sp_322_ex2_ (q_r a0) (q_i a1) (q_i a2) (q_r a3) σ τ1 g1⟩
    · exact ⟨_, rfl, sp_322_ex4_ (q_r a0) (q_i a1) (q_i a2) (q_r a3) σ τ1 g1⟩
theorem zJ_323 : zJ3 323 z_m323 z_c323 z_h323 := ⟨rfl, rfl, rfl⟩
noncomputable def p_323 (a : Nat) (a1 a2 : Int32) (o : Nat) (σ : zSg) (k : Int32) (σ' : zSg) : Prop := ∃ e τ, p_129 a a1 a2 σ e τ ∧ ((∃ v, e = .inl v ∧ k = Int32.ofInt 0 ∧ σ' = q_w τ o 0 (.long v.toInt64)) ∨ (e = .inr 2 ∧ k = Int32.ofInt 1 ∧ σ' = τ) ∨ (e = .inr 0 ∧ k = Int32.ofInt 2 ∧ σ' = τ) ∨ (e = .inr 4 ∧ k = Int32.ofInt 3 ∧ σ' = τ))
theorem sp_323_en (a0 : Nat) (a1 : Int32) (a2 : Int32) (a3 : Nat) (σ : zSg) (τ1 : zSg) (r1 : Int32) (g1 : p_129 a0 a1 a2 σ (.inl r1) τ1) (h2 : 0 ≤ (Int32.ofInt (0)).toInt ∧ (Int32.ofInt (0)).toInt < (τ1.2.1 a3 : Int)) :
    p_323 (a0) (a1) (a2) (a3) σ (Int32.ofInt (0)) (q_w τ1 a3 (Int32.ofInt (0)).toNatClampNeg (.long r1.toInt64)) := by
  exact ⟨_, _, g1, Or.inl ⟨_, rfl, rfl, rfl⟩⟩
theorem sp_323_ex2_ (a0 : Nat) (a1 : Int32) (a2 : Int32) (a3 : Nat) (σ : zSg) (τ1 : zSg) (g1 : p_129 a0 a1 a2 σ (.inr 2) τ1) :
    p_323 (a0) (a1) (a2) (a3) σ (Int32.ofInt (1)) τ1 := by
  exact ⟨_, _, g1, Or.inr (Or.inl (⟨rfl, rfl, rfl⟩))⟩
theorem sp_323_ex0_ (a0 : Nat) (a1 : Int32) (a2 : Int32) (a3 : Nat) (σ : zSg) (τ1 : zSg) (g1 : p_129 a0 a1 a2 σ (.inr 0) τ1) :
    p_323 (a0) (a1) (a2) (a3) σ (Int32.ofInt (2)) τ1 := by
  exact ⟨_, _, g1, Or.inr (Or.inr (Or.inl (⟨rfl, rfl, rfl⟩)))⟩
theorem sp_323_ex4_ (a0 : Nat) (a1 : Int32) (a2 : Int32) (a3 : Nat) (σ : zSg) (τ1 : zSg) (g1 : p_129 a0 a1 a2 σ (.inr 4) τ1) :
    p_323 (a0) (a1) (a2) (a3) σ (Int32.ofInt (3)) τ1 := by
  exact ⟨_, _, g1, Or.inr (Or.inr (Or.inr (⟨rfl, rfl, rfl⟩)))⟩
noncomputable def qP_323 : zPp := fun as σ o σ' => match as with
  | [a0, a1, a2, a3] => ∃ r, o = .inl (some (.int r)) ∧ p_323 (q_r a0) (q_i a1) (q_i a2) (q_r a3) σ r σ'
  | _ => True
set_option maxRecDepth 100000 in
theorem sp_323 {sx : zX} (S129 : zEe sx 129 3 qP_129) : zEe sx 323 4 qP_323 := by
  refine zfle zJ_323 (sps := [(129, 3, qP_129)]) (fun q hq => by
    simp only [List.mem_cons, List.not_mem_nil, or_false] at hq
    rcases hq with rfl
    · exact S129) (fun as σ hl => ?_)
  match as, hl with
  | [a0, a1, a2, a3], _ =>
  refine ⟨[], 400, ?_, ?_⟩
  · exact fun q hq => absurd hq List.not_mem_nil
  · refine fun o1 τ1 g1 => ?_
    rcases g1 with ⟨r1, rfl, g1⟩ | ⟨rfl, g1⟩ | ⟨rfl, g1⟩ | ⟨rfl, g1⟩
    · refine fun h2 => ?_
      exact ⟨_, rfl, sp_323_en (q_r a0) (q_i a1) (q_i a2) (q_r a3) σ τ1 r1 g1 (q_inp h2)⟩
    · exact ⟨_, rfl, sp_323_ex2_ (q_r a0) (q_i a1) (q_i a2) (q_r a3) σ τ1 g1⟩
    · exact ⟨_, rfl, sp_323_ex0_ (q_r a0) (q_i a1) (q_i a2) (q_r a3) σ τ1 g1⟩
    · exact ⟨_, rfl, sp_323_ex4_ (q_r a0) (q_i a1) (q_i a2) (q_r a3) σ τ1 g1⟩
theorem zJ_324 : zJ3 324 z_m324 z_c324 z_h324 := ⟨rfl, rfl, rfl⟩
noncomputable def p_324 (a : Nat) (a1 : Int32) (o : Nat) (σ : zSg) (k : Int32) (σ' : zSg) : Prop := ∃ e τ, p_130 a a1 σ e τ ∧ ((∃ v, e = .inl v ∧ k = Int32.ofInt 0 ∧ σ' = q_w τ o 0 (.long v.toInt64)) ∨ (e = .inr 2 ∧ k = Int32.ofInt 1 ∧ σ' = τ) ∨ (e = .inr 4 ∧ k = Int32.ofInt 2 ∧ σ' = τ))
theorem sp_324_en (a0 : Nat) (a1 : Int32) (a2 : Nat) (σ : zSg) (τ1 : zSg) (r1 : Int32) (g1 : p_130 a0 a1 σ (.inl r1) τ1) (h2 : 0 ≤ (Int32.ofInt (0)).toInt ∧ (Int32.ofInt (0)).toInt < (τ1.2.1 a2 : Int)) :
    p_324 (a0) (a1) (a2) σ (Int32.ofInt (0)) (q_w τ1 a2 (Int32.ofInt (0)).toNatClampNeg (.long r1.toInt64)) := by
  exact ⟨_, _, g1, Or.inl ⟨_, rfl, rfl, rfl⟩⟩
theorem sp_324_ex2_ (a0 : Nat) (a1 : Int32) (a2 : Nat) (σ : zSg) (τ1 : zSg) (g1 : p_130 a0 a1 σ (.inr 2) τ1) :
    p_324 (a0) (a1) (a2) σ (Int32.ofInt (1)) τ1 := by
  exact ⟨_, _, g1, Or.inr (Or.inl (⟨rfl, rfl, rfl⟩))⟩
theorem sp_324_ex4_ (a0 : Nat) (a1 : Int32) (a2 : Nat) (σ : zSg) (τ1 : zSg) (g1 : p_130 a0 a1 σ (.inr 4) τ1) :
    p_324 (a0) (a1) (a2) σ (Int32.ofInt (2)) τ1 := by
  exact ⟨_, _, g1, Or.inr (Or.inr (⟨rfl, rfl, rfl⟩))⟩
noncomputable def qP_324 : zPp := fun as σ o σ' => match as with
  | [a0, a1, a2] => ∃ r, o = .inl (some (.int r)) ∧ p_324 (q_r a0) (q_i a1) (q_r a2) σ r σ'
  | _ => True
set_option maxRecDepth 100000 in
theorem sp_324 {sx : zX} (S130 : zEe sx 130 2 qP_130) : zEe sx 324 3 qP_324 := by
  refine zfle zJ_324 (sps := [(130, 2, qP_130)]) (fun q hq => by
    simp only [List.mem_cons, List.not_mem_nil, or_false] at hq
    rcases hq with rfl
    · exact S130) (fun as σ hl => ?_)
  match as, hl with
  | [a0, a1, a2], _ =>
  refine ⟨[], 400, ?_, ?_⟩
  · exact fun q hq => absurd hq List.not_mem_nil
  · refine fun o1 τ1 g1 => ?_
    rcases g1 with ⟨r1, rfl, g1⟩ | ⟨rfl, g1⟩ | ⟨rfl, g1⟩
    · refine fun h2 => ?_
      exact ⟨_, rfl, sp_324_en (q_r a0) (q_i a1) (q_r a2) σ τ1 r1 g1 (q_inp h2)⟩
    · exact ⟨_, rfl, sp_324_ex2_ (q_r a0) (q_i a1) (q_r a2) σ τ1 g1⟩
    · exact ⟨_, rfl, sp_324_ex4_ (q_r a0) (q_i a1) (q_r a2) σ τ1 g1⟩
theorem zJ_325 : zJ3 325 z_m325 z_c325 z_h325 := ⟨rfl, rfl, rfl⟩
noncomputable def p_325 (a : Nat) (a1 : Int32) (o : Nat) (σ : zSg) (k : Int32) (σ' : zSg) : Prop := ∃ e τ, p_131 a a1 σ e τ ∧ ((∃ v, e = .inl v ∧ k = Int32.ofInt 0 ∧ σ' = q_w τ o 0 (.long v.toInt64)) ∨ (e = .inr 2 ∧ k = Int32.ofInt 1 ∧ σ' = τ) ∨ (e = .inr 4 ∧ k = Int32.ofInt 2 ∧ σ' = τ))
theorem sp_325_en (a0 : Nat) (a1 : Int32) (a2 : Nat) (σ : zSg) (τ1 : zSg) (r1 : Int32) (g1 : p_131 a0 a1 σ (.inl r1) τ1) (h2 : 0 ≤ (Int32.ofInt (0)).toInt ∧ (Int32.ofInt (0)).toInt < (τ1.2.1 a2 : Int)) :
    p_325 (a0) (a1) (a2) σ (Int32.ofInt (0)) (q_w τ1 a2 (Int32.ofInt (0)).toNatClampNeg (.long r1.toInt64)) := by
  exact ⟨_, _, g1, Or.inl ⟨_, rfl, rfl, rfl⟩⟩
theorem sp_325_ex2_ (a0 : Nat) (a1 : Int32) (a2 : Nat) (σ : zSg) (τ1 : zSg) (g1 : p_131 a0 a1 σ (.inr 2) τ1) :
    p_325 (a0) (a1) (a2) σ (Int32.ofInt (1)) τ1 := by
  exact ⟨_, _, g1, Or.inr (Or.inl (⟨rfl, rfl, rfl⟩))⟩
theorem sp_325_ex4_ (a0 : Nat) (a1 : Int32) (a2 : Nat) (σ : zSg) (τ1 : zSg) (g1 : p_131 a0 a1 σ (.inr 4) τ1) :
    p_325 (a0) (a1) (a2) σ (Int32.ofInt (2)) τ1 := by
  exact ⟨_, _, g1, Or.inr (Or.inr (⟨rfl, rfl, rfl⟩))⟩
noncomputable def qP_325 : zPp := fun as σ o σ' => match as with
  | [a0, a1, a2] => ∃ r, o = .inl (some (.int r)) ∧ p_325 (q_r a0) (q_i a1) (q_r a2) σ r σ'
  | _ => True
set_option maxRecDepth 100000 in
theorem sp_325 {sx : zX} (S131 : zEe sx 131 2 qP_131) : zEe sx 325 3 qP_325 := by
  refine zfle zJ_325 (sps := [(131, 2, qP_131)]) (fun q hq => by
    simp only [List.mem_cons, List.not_mem_nil, or_false] at hq
    rcases hq with rfl
    · exact S131) (fun as σ hl => ?_)
  match as, hl with
  | [a0, a1, a2], _ =>
  refine ⟨[], 400, ?_, ?_⟩
  · exact fun q hq => absurd hq List.not_mem_nil
  · refine fun o1 τ1 g1 => ?_
    rcases g1 with ⟨r1, rfl, g1⟩ | ⟨rfl, g1⟩ | ⟨rfl, g1⟩
    · refine fun h2 => ?_
      exact ⟨_, rfl, sp_325_en (q_r a0) (q_i a1) (q_r a2) σ τ1 r1 g1 (q_inp h2)⟩
    · exact ⟨_, rfl, sp_325_ex2_ (q_r a0) (q_i a1) (q_r a2) σ τ1 g1⟩
    · exact ⟨_, rfl, sp_325_ex4_ (q_r a0) (q_i a1) (q_r a2) σ τ1 g1⟩
theorem zJ_326 : zJ3 326 z_m326 z_c326 z_h326 := ⟨rfl, rfl, rfl⟩
noncomputable def p_326 (a : Nat) (a1 : Int32) (o : Nat) (σ : zSg) (k : Int32) (σ' : zSg) : Prop := ∃ e τ, p_132 a a1 σ e τ ∧ ((∃ v, e = .inl v ∧ k = Int32.ofInt 0 ∧ σ' = q_w τ o 0 (.long v.toInt64)) ∨ (e = .inr 2 ∧ k = Int32.ofInt 1 ∧ σ' = τ) ∨ (e = .inr 4 ∧ k = Int32.ofInt 2 ∧ σ' = τ))
theorem sp_326_en (a0 : Nat) (a1 : Int32) (a2 : Nat) (σ : zSg) (τ1 : zSg) (r1 : Int32) (g1 : p_132 a0 a1 σ (.inl r1) τ1) (h2 : 0 ≤ (Int32.ofInt (0)).toInt ∧ (Int32.ofInt (0)).toInt < (τ1.2.1 a2 : Int)) :
    p_326 (a0) (a1) (a2) σ (Int32.ofInt (0)) (q_w τ1 a2 (Int32.ofInt (0)).toNatClampNeg (.long r1.toInt64)) := by
  exact ⟨_, _, g1, Or.inl ⟨_, rfl, rfl, rfl⟩⟩
theorem sp_326_ex2_ (a0 : Nat) (a1 : Int32) (a2 : Nat) (σ : zSg) (τ1 : zSg) (g1 : p_132 a0 a1 σ (.inr 2) τ1) :
    p_326 (a0) (a1) (a2) σ (Int32.ofInt (1)) τ1 := by
  exact ⟨_, _, g1, Or.inr (Or.inl (⟨rfl, rfl, rfl⟩))⟩
theorem sp_326_ex4_ (a0 : Nat) (a1 : Int32) (a2 : Nat) (σ : zSg) (τ1 : zSg) (g1 : p_132 a0 a1 σ (.inr 4) τ1) :
    p_326 (a0) (a1) (a2) σ (Int32.ofInt (2)) τ1 := by
  exact ⟨_, _, g1, Or.inr (Or.inr (⟨rfl, rfl, rfl⟩))⟩
noncomputable def qP_326 : zPp := fun as σ o σ' => match as with
  | [a0, a1, a2] => ∃ r, o = .inl (some (.int r)) ∧ p_326 (q_r a0) (q_i a1) (q_r a2) σ r σ'
  | _ => True
set_option maxRecDepth 100000 in
theorem sp_326 {sx : zX} (S132 : zEe sx 132 2 qP_132) : zEe sx 326 3 qP_326 := by
  refine zfle zJ_326 (sps := [(132, 2, qP_132)]) (fun q hq => by
    simp only [List.mem_cons, List.not_mem_nil, or_false] at hq
    rcases hq with rfl
    · exact S132) (fun as σ hl => ?_)
  match as, hl with
  | [a0, a1, a2], _ =>
  refine ⟨[], 400, ?_, ?_⟩
  · exact fun q hq => absurd hq List.not_mem_nil
  · refine fun o1 τ1 g1 => ?_
    rcases g1 with ⟨r1, rfl, g1⟩ | ⟨rfl, g1⟩ | ⟨rfl, g1⟩
    · refine fun h2 => ?_
      exact ⟨_, rfl, sp_326_en (q_r a0) (q_i a1) (q_r a2) σ τ1 r1 g1 (q_inp h2)⟩
    · exact ⟨_, rfl, sp_326_ex2_ (q_r a0) (q_i a1) (q_r a2) σ τ1 g1⟩
    · exact ⟨_, rfl, sp_326_ex4_ (q_r a0) (q_i a1) (q_r a2) σ τ1 g1⟩
theorem zJ_327 : zJ3 327 z_m327 z_c327 z_h327 := ⟨rfl, rfl, rfl⟩
noncomputable def p_327 (a : Nat) (o : Nat) (σ : zSg) (k : Int32) (σ' : zSg) : Prop := ∃ e τ, p_133 a  σ e τ ∧ ((∃ v, e = .inl v ∧ k = Int32.ofInt 0 ∧ σ' = q_w τ o 0 (.long v.toInt64)) ∨ (e = .inr 4 ∧ k = Int32.ofInt 1 ∧ σ' = τ))
theorem sp_327_en (a0 : Nat) (a1 : Nat) (σ : zSg) (τ1 : zSg) (r1 : Int32) (g1 : p_133 a0 σ (.inl r1) τ1) (h2 : 0 ≤ (Int32.ofInt (0)).toInt ∧ (Int32.ofInt (0)).toInt < (τ1.2.1 a1 : Int)) :
    p_327 (a0) (a1) σ (Int32.ofInt (0)) (q_w τ1 a1 (Int32.ofInt (0)).toNatClampNeg (.long r1.toInt64)) := by
  exact ⟨_, _, g1, Or.inl ⟨_, rfl, rfl, rfl⟩⟩
theorem sp_327_ex4_ (a0 : Nat) (a1 : Nat) (σ : zSg) (τ1 : zSg) (g1 : p_133 a0 σ (.inr 4) τ1) :
    p_327 (a0) (a1) σ (Int32.ofInt (1)) τ1 := by
  exact ⟨_, _, g1, Or.inr (⟨rfl, rfl, rfl⟩)⟩
noncomputable def qP_327 : zPp := fun as σ o σ' => match as with
  | [a0, a1] => ∃ r, o = .inl (some (.int r)) ∧ p_327 (q_r a0) (q_r a1) σ r σ'
  | _ => True
set_option maxRecDepth 100000 in
theorem sp_327 {sx : zX} (S133 : zEe sx 133 1 qP_133) : zEe sx 327 2 qP_327 := by
  refine zfle zJ_327 (sps := [(133, 1, qP_133)]) (fun q hq => by
    simp only [List.mem_cons, List.not_mem_nil, or_false] at hq
    rcases hq with rfl
    · exact S133) (fun as σ hl => ?_)
  match as, hl with
  | [a0, a1], _ =>
  refine ⟨[], 400, ?_, ?_⟩
  · exact fun q hq => absurd hq List.not_mem_nil
  · refine fun o1 τ1 g1 => ?_
    rcases g1 with ⟨r1, rfl, g1⟩ | ⟨rfl, g1⟩
    · refine fun h2 => ?_
      exact ⟨_, rfl, sp_327_en (q_r a0) (q_r a1) σ τ1 r1 g1 (q_inp h2)⟩
    · exact ⟨_, rfl, sp_327_ex4_ (q_r a0) (q_r a1) σ τ1 g1⟩
theorem zJ_328 : zJ3 328 z_m328 z_c328 z_h328 := ⟨rfl, rfl, rfl⟩
noncomputable def p_328 (a : Nat) (a1 : Int32) (o : Nat) (σ : zSg) (k : Int32) (σ' : zSg) : Prop := ∃ e τ, p_135 a a1 σ e τ ∧ ((∃ v, e = .inl v ∧ k = Int32.ofInt 0 ∧ σ' = q_w τ o 0 (.long v.toInt64)) ∨ (e = .inr 0 ∧ k = Int32.ofInt 1 ∧ σ' = τ))
theorem sp_328_en (a0 : Nat) (a1 : Int32) (a2 : Nat) (σ : zSg) (τ1 : zSg) (r1 : Int32) (g1 : p_135 a0 a1 σ (.inl r1) τ1) (h2 : 0 ≤ (Int32.ofInt (0)).toInt ∧ (Int32.ofInt (0)).toInt < (τ1.2.1 a2 : Int)) :
    p_328 (a0) (a1) (a2) σ (Int32.ofInt (0)) (q_w τ1 a2 (Int32.ofInt (0)).toNatClampNeg (.long r1.toInt64)) := by
  exact ⟨_, _, g1, Or.inl ⟨_, rfl, rfl, rfl⟩⟩
theorem sp_328_ex0_ (a0 : Nat) (a1 : Int32) (a2 : Nat) (σ : zSg) (τ1 : zSg) (g1 : p_135 a0 a1 σ (.inr 0) τ1) :
    p_328 (a0) (a1) (a2) σ (Int32.ofInt (1)) τ1 := by
  exact ⟨_, _, g1, Or.inr (⟨rfl, rfl, rfl⟩)⟩
noncomputable def qP_328 : zPp := fun as σ o σ' => match as with
  | [a0, a1, a2] => ∃ r, o = .inl (some (.int r)) ∧ p_328 (q_r a0) (q_i a1) (q_r a2) σ r σ'
  | _ => True
set_option maxRecDepth 100000 in
theorem sp_328 {sx : zX} (S135 : zEe sx 135 2 qP_135) : zEe sx 328 3 qP_328 := by
  refine zfle zJ_328 (sps := [(135, 2, qP_135)]) (fun q hq => by
    simp only [List.mem_cons, List.not_mem_nil, or_false] at hq
    rcases hq with rfl
    · exact S135) (fun as σ hl => ?_)
  match as, hl with
  | [a0, a1, a2], _ =>
  refine ⟨[], 400, ?_, ?_⟩
  · exact fun q hq => absurd hq List.not_mem_nil
  · refine fun o1 τ1 g1 => ?_
    rcases g1 with ⟨r1, rfl, g1⟩ | ⟨rfl, g1⟩
    · refine fun h2 => ?_
      exact ⟨_, rfl, sp_328_en (q_r a0) (q_i a1) (q_r a2) σ τ1 r1 g1 (q_inp h2)⟩
    · exact ⟨_, rfl, sp_328_ex0_ (q_r a0) (q_i a1) (q_r a2) σ τ1 g1⟩
theorem zJ_335 : zJ3 335 z_m335 z_c335 z_h335 := ⟨rfl, rfl, rfl⟩
noncomputable def p_335 (a : Nat) (a1 a2 : Int32) (o : Nat) (σ : zSg) (k : Int32) (σ' : zSg) : Prop := ∃ e τ, p_151 a a1 a2 σ e τ ∧ ((∃ v, e = .inl v ∧ k = Int32.ofInt 0 ∧ σ' = q_w τ o 0 (.long v.toInt64)) ∨ (e = .inr 0 ∧ k = Int32.ofInt 1 ∧ σ' = τ) ∨ (e = .inr 3 ∧ k = Int32.ofInt 2 ∧ σ' = τ))
theorem sp_335_en (a0 : Nat) (a1 : Int32) (a2 : Int32) (a3 : Nat) (σ : zSg) (τ1 : zSg) (r1 : Int32) (g1 : p_151 a0 a1 a2 σ (.inl r1) τ1) (h2 : 0 ≤ (Int32.ofInt (0)).toInt ∧ (Int32.ofInt (0)).toInt < (τ1.2.1 a3 : Int)) :
    p_335 (a0) (a1) (a2) (a3) σ (Int32.ofInt (0)) (q_w τ1 a3 (Int32.ofInt (0)).toNatClampNeg (.long r1.toInt64)) := by
  exact ⟨_, _, g1, Or.inl ⟨_, rfl, rfl, rfl⟩⟩
theorem sp_335_ex0_ (a0 : Nat) (a1 : Int32) (a2 : Int32) (a3 : Nat) (σ : zSg) (τ1 : zSg) (g1 : p_151 a0 a1 a2 σ (.inr 0) τ1) :
    p_335 (a0) (a1) (a2) (a3) σ (Int32.ofInt (1)) τ1 := by
  exact ⟨_, _, g1, Or.inr (Or.inl (⟨rfl, rfl, rfl⟩))⟩
theorem sp_335_ex3_ (a0 : Nat) (a1 : Int32) (a2 : Int32) (a3 : Nat) (σ : zSg) (τ1 : zSg) (g1 : p_151 a0 a1 a2 σ (.inr 3) τ1) :
    p_335 (a0) (a1) (a2) (a3) σ (Int32.ofInt (2)) τ1 := by
  exact ⟨_, _, g1, Or.inr (Or.inr (⟨rfl, rfl, rfl⟩))⟩
noncomputable def qP_335 : zPp := fun as σ o σ' => match as with
  | [a0, a1, a2, a3] => ∃ r, o = .inl (some (.int r)) ∧ p_335 (q_r a0) (q_i a1) (q_i a2) (q_r a3) σ r σ'
  | _ => True
set_option maxRecDepth 100000 in
theorem sp_335 {sx : zX} (S151 : zEe sx 151 3 qP_151) : zEe sx 335 4 qP_335 := by
  refine zfle zJ_335 (sps := [(151, 3, qP_151)]) (fun q hq => by
    simp only [List.mem_cons, List.not_mem_nil, or_false] at hq
    rcases hq with rfl
    · exact S151) (fun as σ hl => ?_)
  match as, hl with
  | [a0, a1, a2, a3], _ =>
  refine ⟨[], 400, ?_, ?_⟩
  · exact fun q hq => absurd hq List.not_mem_nil
  · refine fun o1 τ1 g1 => ?_
    rcases g1 with ⟨r1, rfl, g1⟩ | ⟨rfl, g1⟩ | ⟨rfl, g1⟩
    · refine fun h2 => ?_
      exact ⟨_, rfl, sp_335_en (q_r a0) (q_i a1) (q_i a2) (q_r a3) σ τ1 r1 g1 (q_inp h2)⟩
    · exact ⟨_, rfl, sp_335_ex0_ (q_r a0) (q_i a1) (q_i a2) (q_r a3) σ τ1 g1⟩
    · exact ⟨_, rfl, sp_335_ex3_ (q_r a0) (q_i a1) (q_i a2) (q_r a3) σ τ1 g1⟩
theorem zJ_336 : zJ3 336 z_m336 z_c336 z_h336 := ⟨rfl, rfl, rfl⟩
noncomputable def p_336 (a : Nat) (a1 : Int32) (o : Nat) (σ : zSg) (k : Int32) (σ' : zSg) : Prop := ∃ e τ, p_152 a a1 σ e τ ∧ ((∃ v, e = .inl v ∧ k = Int32.ofInt 0 ∧ σ' = q_w τ o 0 (.long v.toInt64)) ∨ (e = .inr 0 ∧ k = Int32.ofInt 1 ∧ σ' = τ))
theorem sp_336_en (a0 : Nat) (a1 : Int32) (a2 : Nat) (σ : zSg) (τ1 : zSg) (r1 : Int32) (g1 : p_152 a0 a1 σ (.inl r1) τ1) (h2 : 0 ≤ (Int32.ofInt (0)).toInt ∧ (Int32.ofInt (0)).toInt < (τ1.2.1 a2 : Int)) :
    p_336 (a0) (a1) (a2) σ (Int32.ofInt (0)) (q_w τ1 a2 (Int32.ofInt (0)).toNatClampNeg (.long r1.toInt64)) := by
  exact ⟨_, _, g1, Or.inl ⟨_, rfl, rfl, rfl⟩⟩
theorem sp_336_ex0_ (a0 : Nat) (a1 : Int32) (a2 : Nat) (σ : zSg) (τ1 : zSg) (g1 : p_152 a0 a1 σ (.inr 0) τ1) :
    p_336 (a0) (a1) (a2) σ (Int32.ofInt (1)) τ1 := by
  exact ⟨_, _, g1, Or.inr (⟨rfl, rfl, rfl⟩)⟩
noncomputable def qP_336 : zPp := fun as σ o σ' => match as with
  | [a0, a1, a2] => ∃ r, o = .inl (some (.int r)) ∧ p_336 (q_r a0) (q_i a1) (q_r a2) σ r σ'
  | _ => True
set_option maxRecDepth 100000 in
theorem sp_336 {sx : zX} (S152 : zEe sx 152 2 qP_152) : zEe sx 336 3 qP_336 := by
  refine zfle zJ_336 (sps := [(152, 2, qP_152)]) (fun q hq => by
    simp only [List.mem_cons, List.not_mem_nil, or_false] at hq
    rcases hq with rfl
    · exact S152) (fun as σ hl => ?_)
  match as, hl with
  | [a0, a1, a2], _ =>
  refine ⟨[], 400, ?_, ?_⟩
  · exact fun q hq => absurd hq List.not_mem_nil
  · refine fun o1 τ1 g1 => ?_
    rcases g1 with ⟨r1, rfl, g1⟩ | ⟨rfl, g1⟩
    · refine fun h2 => ?_
      exact ⟨_, rfl, sp_336_en (q_r a0) (q_i a1) (q_r a2) σ τ1 r1 g1 (q_inp h2)⟩
    · exact ⟨_, rfl, sp_336_ex0_ (q_r a0) (q_i a1) (q_r a2) σ τ1 g1⟩
theorem zJ_337 : zJ3 337 z_m337 z_c337 z_h337 := ⟨rfl, rfl, rfl⟩
noncomputable def p_337 (a : Nat) (a1 : Int32) (o : Nat) (σ : zSg) (k : Int32) (σ' : zSg) : Prop := ∃ e τ, p_153 a a1 σ e τ ∧ ((∃ v, e = .inl v ∧ k = Int32.ofInt 0 ∧ σ' = q_w τ o 0 (.long v.toInt64)) ∨ (e = .inr 0 ∧ k = Int32.ofInt 1 ∧ σ' = τ))
theorem sp_337_en (a0 : Nat) (a1 : Int32) (a2 : Nat) (σ : zSg) (τ1 : zSg) (r1 : Int32) (g1 : p_153 a0 a1 σ (.inl r1) τ1) (h2 : 0 ≤ (Int32.ofInt (0)).toInt ∧ (Int32.ofInt (0)).toInt < (τ1.2.1 a2 : Int)) :
    p_337 (a0) (a1) (a2) σ (Int32.ofInt (0)) (q_w τ1 a2 (Int32.ofInt (0)).toNatClampNeg (.long r1.toInt64)) := by
  exact ⟨_, _, g1, Or.inl ⟨_, rfl, rfl, rfl⟩⟩
theorem sp_337_ex0_ (a0 : Nat) (a1 : Int32) (a2 : Nat) (σ : zSg) (τ1 : zSg) (g1 : p_153 a0 a1 σ (.inr 0) τ1) :
    p_337 (a0) (a1) (a2) σ (Int32.ofInt (1)) τ1 := by
  exact ⟨_, _, g1, Or.inr (⟨rfl, rfl, rfl⟩)⟩
noncomputable def qP_337 : zPp := fun as σ o σ' => match as with
  | [a0, a1, a2] => ∃ r, o = .inl (some (.int r)) ∧ p_337 (q_r a0) (q_i a1) (q_r a2) σ r σ'
  | _ => True
set_option maxRecDepth 100000 in
theorem sp_337 {sx : zX} (S153 : zEe sx 153 2 qP_153) : zEe sx 337 3 qP_337 := by
  refine zfle zJ_337 (sps := [(153, 2, qP_153)]) (fun q hq => by
    simp only [List.mem_cons, List.not_mem_nil, or_false] at hq
    rcases hq with rfl
    · exact S153) (fun as σ hl => ?_)
  match as, hl with
  | [a0, a1, a2], _ =>
  refine ⟨[], 400, ?_, ?_⟩
  · exact fun q hq => absurd hq List.not_mem_nil
  · refine fun o1 τ1 g1 => ?_
    rcases g1 with ⟨r1, rfl, g1⟩ | ⟨rfl, g1⟩
    · refine fun h2 => ?_
      exact ⟨_, rfl, sp_337_en (q_r a0) (q_i a1) (q_r a2) σ τ1 r1 g1 (q_inp h2)⟩
    · exact ⟨_, rfl, sp_337_ex0_ (q_r a0) (q_i a1) (q_r a2) σ τ1 g1⟩
theorem zJ_338 : zJ3 338 z_m338 z_c338 z_h338 := ⟨rfl, rfl, rfl⟩
noncomputable def p_338 (a : Nat) (a1 : Int32) (o : Nat) (σ : zSg) (k : Int32) (σ' : zSg) : Prop := ∃ e τ, p_154 a a1 σ e τ ∧ ((∃ v, e = .inl v ∧ k = Int32.ofInt 0 ∧ σ' = q_w τ o 0 (.long v.toInt64)) ∨ (e = .inr 2 ∧ k = Int32.ofInt 1 ∧ σ' = τ))
theorem sp_338_en (a0 : Nat) (a1 : Int32) (a2 : Nat) (σ : zSg) (τ1 : zSg) (r1 : Int32) (g1 : p_154 a0 a1 σ (.inl r1) τ1) (h2 : 0 ≤ (Int32.ofInt (0)).toInt ∧ (Int32.ofInt (0)).toInt < (τ1.2.1 a2 : Int)) :
    p_338 (a0) (a1) (a2) σ (Int32.ofInt (0)) (q_w τ1 a2 (Int32.ofInt (0)).toNatClampNeg (.long r1.toInt64)) := by
  exact ⟨_, _, g1, Or.inl ⟨_, rfl, rfl, rfl⟩⟩
theorem sp_338_ex2_ (a0 : Nat) (a1 : Int32) (a2 : Nat) (σ : zSg) (τ1 : zSg) (g1 : p_154 a0 a1 σ (.inr 2) τ1) :
    p_338 (a0) (a1) (a2) σ (Int32.ofInt (1)) τ1 := by
  exact ⟨_, _, g1, Or.inr (⟨rfl, rfl, rfl⟩)⟩
noncomputable def qP_338 : zPp := fun as σ o σ' => match as with
  | [a0, a1, a2] => ∃ r, o = .inl (some (.int r)) ∧ p_338 (q_r a0) (q_i a1) (q_r a2) σ r σ'
  | _ => True
set_option maxRecDepth 100000 in
theorem sp_338 {sx : zX} (S154 : zEe sx 154 2 qP_154) : zEe sx 338 3 qP_338 := by
  refine zfle zJ_338 (sps := [(154, 2, qP_154)]) (fun q hq => by
    simp only [List.mem_cons, List.not_mem_nil, or_false] at hq
    rcases hq with rfl
    · exact S154) (fun as σ hl => ?_)
  match as, hl with
  | [a0, a1, a2], _ =>
  refine ⟨[], 400, ?_, ?_⟩
  · exact fun q hq => absurd hq List.not_mem_nil
  · refine fun o1 τ1 g1 => ?_
    rcases g1 with ⟨r1, rfl, g1⟩ | ⟨rfl, g1⟩
    · refine fun h2 => ?_
      exact ⟨_, rfl, sp_338_en (q_r a0) (q_i a1) (q_r a2) σ τ1 r1 g1 (q_inp h2)⟩
    · exact ⟨_, rfl, sp_338_ex2_ (q_r a0) (q_i a1) (q_r a2) σ τ1 g1⟩
theorem zJ_339 : zJ3 339 z_m339 z_c339 z_h339 := ⟨rfl, rfl, rfl⟩
noncomputable def p_339 (a : Nat) (a1 a2 : Int32) (o : Nat) (σ : zSg) (k : Int32) (σ' : zSg) : Prop := ∃ e τ, p_157 a a1 a2 σ e τ ∧ ((∃ v, e = .inl v ∧ k = Int32.ofInt 0 ∧ σ' = q_w τ o 0 (.long v.toInt64)) ∨ (e = .inr 0 ∧ k = Int32.ofInt 1 ∧ σ' = τ))
theorem sp_339_en (a0 : Nat) (a1 : Int32) (a2 : Int32) (a3 : Nat) (σ : zSg) (τ1 : zSg) (r1 : Int32) (g1 : p_157 a0 a1 a2 σ (.inl r1) τ1) (h2 : 0 ≤ (Int32.ofInt (0)).toInt ∧ (Int32.ofInt (0)).toInt < (τ1.2.1 a3 : Int)) :
    p_339 (a0) (a1) (a2) (a3) σ (Int32.ofInt (0)) (q_w τ1 a3 (Int32.ofInt (0)).toNatClampNeg (.long r1.toInt64)) := by
  exact ⟨_, _, g1, Or.inl ⟨_, rfl, rfl, rfl⟩⟩
theorem sp_339_ex0_ (a0 : Nat) (a1 : Int32) (a2 : Int32) (a3 : Nat) (σ : zSg) (τ1 : zSg) (g1 : p_157 a0 a1 a2 σ (.inr 0) τ1) :
    p_339 (a0) (a1) (a2) (a3) σ (Int32.ofInt (1)) τ1 := by
  exact ⟨_, _, g1, Or.inr (⟨rfl, rfl, rfl⟩)⟩
noncomputable def qP_339 : zPp := fun as σ o σ' => match as with
  | [a0, a1, a2, a3] => ∃ r, o = .inl (some (.int r)) ∧ p_339 (q_r a0) (q_i a1) (q_i a2) (q_r a3) σ r σ'
  | _ => True
set_option maxRecDepth 100000 in
theorem sp_339 {sx : zX} (S157 : zEe sx 157 3 qP_157) : zEe sx 339 4 qP_339 := by
  refine zfle zJ_339 (sps := [(157, 3, qP_157)]) (fun q hq => by
    simp only [List.mem_cons, List.not_mem_nil, or_false] at hq
    rcases hq with rfl
    · exact S157) (fun as σ hl => ?_)
  match as, hl with
  | [a0, a1, a2, a3], _ =>
  refine ⟨[], 400, ?_, ?_⟩
  · exact fun q hq => absurd hq List.not_mem_nil
  · refine fun o1 τ1 g1 => ?_
    rcases g1 with ⟨r1, rfl, g1⟩ | ⟨rfl, g1⟩
    · refine fun h2 => ?_
      exact ⟨_, rfl, sp_339_en (q_r a0) (q_i a1) (q_i a2) (q_r a3) σ τ1 r1 g1 (q_inp h2)⟩
    · exact ⟨_, rfl, sp_339_ex0_ (q_r a0) (q_i a1) (q_i a2) (q_r a3) σ τ1 g1⟩
noncomputable def p_121w (x : Nat) (σ : zSg) (e : Int32 ⊕ Nat) (σ' : zSg) : Prop := p_121 x σ e σ' ∧ ∀ t r nw me C K0 K1 K2 B b E, cLw σ x t r nw me C K0 K1 K2 B b E → e = .inr 0 → σ'.2 = σ.2 ∧ σ'.1 nw 5 = σ.1 nw 5 ∧ σ'.1 me 2 = σ.1 me 2
theorem sp_121w_et (a0 : Nat) (σ : zSg) (τ1 : zSg) (r1 : Int32) (τ3 : zSg) (r3 : Nat) (τ4 : zSg) (g1 : p_47 (q_r (σ.1 a0 1)) (q_r (σ.1 a0 0)) σ r1 τ1) (h2 : (q_i ((q_w (q_w τ1 a0 7 (.int r1)) (q_r ((q_w τ1 a0 7 (.int r1)).1 a0 0)) 1 (.int (Int32.ofInt (0)))).1 a0 7)).toInt = (-1 : Int)) (g3 : p_48 (q_r ((q_w (q_w τ1 a0 7 (.int r1)) (q_r ((q_w τ1 a0 7 (.int r1)).1 a0 0)) 1 (.int (Int32.ofInt (0)))).1 a0 1)) (q_w (q_w τ1 a0 7 (.int r1)) (q_r ((q_w τ1 a0 7 (.int r1)).1 a0 0)) 1 (.int (Int32.ofInt (0)))) r3 τ3) (g4 : p_64 (q_r ((q_w τ3 (q_r (τ3.1 a0 2)) 5 (.ref r3)).1 a0 5)) (q_w τ3 (q_r (τ3.1 a0 2)) 5 (.ref r3)) τ4) :
    p_121w (a0) σ (.inl (q_i (τ4.1 r3 0))) τ4 := by
  exact ⟨sp_121_et _ _ _ _ _ _ _ g1 h2 g3 g4, fun _ _ _ _ _ _ _ _ _ _ _ _ h => (by cases h)⟩
theorem sp_121w_ef (a0 : Nat) (σ : zSg) (τ1 : zSg) (r1 : Int32) (g1 : p_47 (q_r (σ.1 a0 1)) (q_r (σ.1 a0 0)) σ r1 τ1) (h2 : (q_i ((q_w (q_w τ1 a0 7 (.int r1)) (q_r ((q_w τ1 a0 7 (.int r1)).1 a0 0)) 1 (.int (Int32.ofInt (0)))).1 a0 7)).toInt ≠ (-1 : Int)) :
    p_121w (a0) σ (.inr 0) (q_w (q_w τ1 a0 7 (.int r1)) (q_r ((q_w τ1 a0 7 (.int r1)).1 a0 0)) 1 (.int (Int32.ofInt (0)))) := by
  refine ⟨sp_121_ef _ _ _ _ g1 h2, ?_⟩
  intro t r nw me C K0 K1 K2 B b E H
  obtain ⟨x0, x1, x2, x5, t0, hA, ⟨l0, l1, l2⟩, ⟨n0, n1, n2, n3, n4, n5, n6, n7, n8⟩, ⟨d1, d2, d3, d4, d5, d6, d7, d8⟩, ⟨w1, w2, w3, w4, w5, w6, w7⟩, ⟨v1, v2, v3, v4, v5, v6⟩⟩ := H
  have qt : q_r (σ.1 a0 0) = t := by rw [x0]; rfl
  have qr : q_r (σ.1 a0 1) = r := by rw [x1]; rfl
  rw [qt, qr] at g1
  obtain ⟨hH, R, hR, hT⟩ := g1 C K0 K1 K2 b E hA
  have hN : τ1.2.2 = σ.2.2 := by rw [hH.1]
  have hx : ∀ k, τ1.1 a0 k = σ.1 a0 k := fun k => hH.2 a0 k (fun q => d1 q.1) (fun q => d2 q.1) d5 d6 d7 d8
  have hn : ∀ k, τ1.1 nw k = σ.1 nw k := fun k => hH.2 nw k (fun q => w1 q.1) (fun q => w2 q.1) w4 w5 w6 w7
  have hm : ∀ k, τ1.1 me k = σ.1 me k := fun k => hH.2 me k (fun q => v1 q.1) (fun q => v2 q.1) v3 v4 v5 v6
  have qt2 : q_r ((q_w τ1 a0 7 (.int r1)).1 a0 0) = t := by rw [q_w_ne (fun _ q => by omega), hx, x0]; rfl
  simp only [qt2] at *
  have e7 : (q_w (q_w τ1 a0 7 (.int r1)) t 1 (.int (Int32.ofInt 0))).1 a0 7 = .int r1 := by rw [q_w_ne (fun q _ => d1 q), q_w_at]
  intro _
  refine ⟨hH.1, ?_, ?_⟩
  · rw [q_w_ne (fun q _ => w1 q), q_w_ne (fun q _ => d3 q.symm)]; exact hn 5
  · rw [q_w_ne (fun q _ => v1 q), q_w_ne (fun q _ => d4 q.symm)]; exact hm 2
noncomputable def qP_121w : zPp := fun as σ o σ' => match as with
  | [a0] => (∃ r, o = .inl (some (.int r)) ∧ p_121w (q_r a0) σ (.inl r) σ') ∨ (o = .inr 0 ∧ p_121w (q_r a0) σ (.inr 0) σ')
  | _ => True
set_option maxRecDepth 100000 in
theorem sp_121w {sx : zX} (S47 : zEe sx 47 2 qP_47) (S48 : zEe sx 48 1 qP_48) (S64 : zEe sx 64 1 qP_64) : zEe sx 121 1 qP_121w := by
  refine zfle zJ_121 (sps := [(47, 2, qP_47), (48, 1, qP_48), (64, 1, qP_64)]) (fun q hq => by
    simp only [List.mem_cons, List.not_mem_nil, or_false] at hq
    rcases hq with rfl | rfl | rfl
    · exact S47
    · exact S48
    · exact S64) (fun as σ hl => ?_)
  match as, hl with
  | [a0], _ =>
  refine ⟨[], 400, ?_, ?_⟩
  · exact fun q hq => absurd hq List.not_mem_nil
  · refine fun o1 τ1 g1 => ?_
    obtain ⟨r1, rfl, g1⟩ := g1
    refine And.intro (fun h2 => ?_) (fun h2 => ?_)
    · refine fun o3 τ3 g3 => ?_
      obtain ⟨r3, rfl, g3⟩ := g3
      refine fun o4 τ4 g4 => ?_
      obtain ⟨rfl, g4⟩ := g4
      exact Or.inl ⟨_, rfl, sp_121w_et (q_r a0) σ τ1 r1 τ3 r3 τ4 g1 (cm0t h2) g3 g4⟩
    · exact Or.inr (⟨rfl, sp_121w_ef (q_r a0) σ τ1 r1 g1 (cm0f h2)⟩)
noncomputable def p_316w (a : Nat) (o : Nat) (σ : zSg) (k : Int32) (σ' : zSg) : Prop := ∃ e τ, p_121w a σ e τ ∧ ((∃ v, e = .inl v ∧ k = Int32.ofInt 0 ∧ σ' = q_w τ o 0 (.long v.toInt64)) ∨ (e = .inr 0 ∧ k = Int32.ofInt 1 ∧ σ' = τ))
theorem sp_316w_en (a0 : Nat) (a1 : Nat) (σ : zSg) (τ1 : zSg) (r1 : Int32) (g1 : p_121w a0 σ (.inl r1) τ1) (h2 : 0 ≤ (Int32.ofInt (0)).toInt ∧ (Int32.ofInt (0)).toInt < (τ1.2.1 a1 : Int)) :
    p_316w (a0) (a1) σ (Int32.ofInt (0)) (q_w τ1 a1 (Int32.ofInt (0)).toNatClampNeg (.long r1.toInt64)) := by
  exact ⟨_, _, g1, Or.inl ⟨_, rfl, rfl, rfl⟩⟩
theorem sp_316w_ex0_ (a0 : Nat) (a1 : Nat) (σ : zSg) (τ1 : zSg) (g1 : p_121w a0 σ (.inr 0) τ1) :
    p_316w (a0) (a1) σ (Int32.ofInt (1)) τ1 := by
  exact ⟨_, _, g1, Or.inr ⟨rfl, rfl, rfl⟩⟩
noncomputable def qP_316w : zPp := fun as σ o σ' => match as with
  | [a0, a1] => ∃ r, o = .inl (some (.int r)) ∧ p_316w (q_r a0) (q_r a1) σ r σ'
  | _ => True
set_option maxRecDepth 100000 in
theorem sp_316w {sx : zX} (S121 : zEe sx 121 1 qP_121w) : zEe sx 316 2 qP_316w := by
  refine zfle zJ_316 (sps := [(121, 1, qP_121w)]) (fun q hq => by
    simp only [List.mem_cons, List.not_mem_nil, or_false] at hq
    rcases hq with rfl
    · exact S121) (fun as σ hl => ?_)
  match as, hl with
  | [a0, a1], _ =>
  refine ⟨[], 400, ?_, ?_⟩
  · exact fun q hq => absurd hq List.not_mem_nil
  · refine fun o1 τ1 g1 => ?_
    rcases g1 with ⟨r1, rfl, g1⟩ | ⟨rfl, g1⟩
    · refine fun h2 => ?_
      exact ⟨_, rfl, sp_316w_en (q_r a0) (q_r a1) σ τ1 r1 g1 (q_inp h2)⟩
    · exact ⟨_, rfl, sp_316w_ex0_ (q_r a0) (q_r a1) σ τ1 g1⟩
theorem zJ_122 : zJ3 122 z_m122 z_c122 z_h122 := ⟨rfl, rfl, rfl⟩
noncomputable def p_122 (a : Nat) (σ : zSg) (r : Int32) (σ' : zSg) : Prop := σ' = σ ∧ r = q_i (σ.1 a 7)
theorem sp_122_e (a0 : Nat) (σ : zSg)  :
    p_122 (a0) σ (q_i (σ.1 a0 7)) σ := by
  exact ⟨rfl, rfl⟩
noncomputable def qP_122 : zPp := fun as σ o σ' => match as with
  | [a0] => ∃ r, o = .inl (some (.int r)) ∧ p_122 (q_r a0) σ r σ'
  | _ => True
set_option maxRecDepth 100000 in
theorem sp_122 {sx : zX}  : zEe sx 122 1 qP_122 := by
  refine zfle zJ_122 (sps := []) (fun q hq => absurd hq List.not_mem_nil) (fun as σ hl => ?_)
  match as, hl with
  | [a0], _ =>
  refine ⟨[], 400, ?_, ?_⟩
  · exact fun q hq => absurd hq List.not_mem_nil
  · exact ⟨_, rfl, sp_122_e (q_r a0) σ ⟩
theorem zJ_209 : zJ3 209 z_m209 z_c209 z_h209 := ⟨rfl, rfl, rfl⟩
noncomputable def p_209 (a : Nat) (σ : zSg) (r : Int32) (σ' : zSg) : Prop := σ' = q_w σ a 0 (.int (Int32.ofInt 0)) ∧ r = q_i (σ.1 a 14)
theorem sp_209_e (a0 : Nat) (σ : zSg)  :
    p_209 (a0) σ (q_i ((q_w σ a0 0 (.int (Int32.ofInt (0)))).1 a0 14)) (q_w σ a0 0 (.int (Int32.ofInt (0)))) := by
  exact ⟨rfl, by rw [q_w_ne (fun _ e => by omega)]⟩
noncomputable def qP_209 : zPp := fun as σ o σ' => match as with
  | [a0] => ∃ r, o = .inl (some (.int r)) ∧ p_209 (q_r a0) σ r σ'
  | _ => True
set_option maxRecDepth 100000 in
theorem sp_209 {sx : zX}  : zEe sx 209 1 qP_209 := by
  refine zfle zJ_209 (sps := []) (fun q hq => absurd hq List.not_mem_nil) (fun as σ hl => ?_)
  match as, hl with
  | [a0], _ =>
  refine ⟨[], 400, ?_, ?_⟩
  · exact fun q hq => absurd hq List.not_mem_nil
  · exact ⟨_, rfl, sp_209_e (q_r a0) σ ⟩
end
section
/-! the reference's does and thing, exact; printed with wip/gen/gen_dr.py -/
theorem rEv.z {σ : zSg} {A : Nat → Int32} {nt : Nat} {Lo : Option (Nat × List gLn4 × zSs)} (K : rEv σ A nt Lo) : rEv (r0 σ) A nt Lo :=
  ⟨K.1.el (by omega), (q_w_ne (fun _ e => by omega)).trans K.2.1, K.2.2.1, K.2.2.2.1, K.2.2.2.2.1, K.2.2.2.2.2.of (fun k _ => q_w_ne (fun e _ => by omega)) rfl⟩
end
section
/-! readers of both sides, exact: holds, changes, gaps; printed with wip/gen/gen_ds.py -/
noncomputable def fB (P : Nat → Bool) : Nat → Int32
  | 0 => Int32.ofInt 0
  | n + 1 => fB P n ||| (if P n = true then Int32.ofInt 1 <<< (Int32.ofNat n &&& 31) else Int32.ofInt 0)
end
