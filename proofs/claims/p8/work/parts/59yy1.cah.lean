section
/-! what the class sees of hours ahead, exact; printed with wip/gen/gen_dk.py -/
noncomputable def xDr (σ σ' : zSg) : Prop := σ'.2 = σ.2 ∧ ∀ c k, ¬ (21 ≤ c ∧ c ≤ 33) → ¬ (219 ≤ c ∧ c % 6 = 5) → σ'.1 c k = σ.1 c k
noncomputable def xDp (σ : zSg) (A : Nat → Int32) (nf nt : Nat) (Lo : Option (Nat × List gLn4 × zSs)) : Prop := xSk σ ∧ hH σ 8 A ∧ (∃ D, hH σ 21 D) ∧ aI nf nt A ∧ hW σ 8 Lo
noncomputable def xDa (σ τ : zSg) (A B : Nat → Int32) (Lo : Option (Nat × List gLn4 × zSs)) : Prop := xDr σ τ ∧ hH τ 21 B ∧ hW τ 21 Lo
section XDR
variable {σ τ υ : zSg} {A B B' : Nat → Int32} {nf nt : Nat} {Lo : Option (Nat × List gLn4 × zSs)}
theorem xDr.rf : xDr σ σ := ⟨rfl, fun _ _ _ _ => rfl⟩
theorem xDr.tr (h1 : xDr σ τ) (h2 : xDr τ υ) : xDr σ υ := ⟨h2.1.trans h1.1, fun c k q1 q2 => (h2.2 c k q1 q2).trans (h1.2 c k q1 q2)⟩
theorem xDr.sk (R : xDr σ τ) (K : xSk σ) : xSk τ := K.of (fun k _ => R.2 0 k (by omega) (by omega))
theorem hEF.d (f : hEF 21 σ τ) : xDr σ τ := ⟨f.1, fun c k q1 q2 => f.2 c k (by omega) q2⟩
theorem xDp.cp (K : xDp σ A nf nt Lo) (G : p_23 21 8 σ τ) : xDa σ τ A A Lo := by
  obtain ⟨k1, k2, ⟨D, k3⟩, k4, k5⟩ := K
  have I := G (by unfold dsj; omega) k3.ks k2.ks k2.ii
  obtain ⟨g1, g2⟩ := I.hH k2 k3
  have f : xDr σ τ := ⟨I.1, fun c k q1 q2 => I.fr (by omega)⟩
  refine ⟨f, g1, ?_⟩
  unfold hW at k5 ⊢
  match Lo, k5 with
  | none, k5 => exact g2.trans k5
  | some (L, ls, l), ⟨w1, w2, w3, w4, w5, w6⟩ => exact ⟨g2.trans w1, w2, w3, w4.fr f.1 (fun c k q1 q2 q3 => f.2 c k (by omega) (by omega)), by rw [f.1]; exact w5, w6⟩
theorem xDa.st (K : xDa σ τ A B Lo) (f : hEF 21 τ υ) (h : hH υ 21 B') : xDa σ υ A B' Lo := ⟨K.1.tr f.d, h, K.2.2.ef f (by omega)⟩
end XDR
/-- the first of 0 to 200 that is so; none -/
noncomputable def aFst (P : Nat → Prop) (r : Int32) : Prop := (∃ n, n ≤ 200 ∧ r = Int32.ofNat n ∧ P n ∧ ∀ i, i < n → ¬ P i) ∨ (r = Int32.ofInt (-1) ∧ ∀ i, i ≤ 200 → ¬ P i)
theorem aFst.det {P : Nat → Prop} {r s : Int32} (h : aFst P r) (h' : aFst P s) : r = s := by
  rcases h with ⟨n, h1, h2, h3, h4⟩ | ⟨h1, h2⟩ <;> rcases h' with ⟨m, g1, g2, g3, g4⟩ | ⟨g1, g2⟩
  · have : n = m := by
      refine Decidable.byContradiction fun q => ?_
      by_cases w : n < m
      · exact g4 n w h3
      · exact h4 m (by omega) g3
    rw [h2, g2, this]
  · exact absurd h3 (g2 n h1)
  · exact absurd g3 (h2 m g1)
  · rw [h1, g1]
theorem zJ_125 : zJ3 125 z_m125 z_c125 z_h125 := ⟨rfl, rfl, rfl⟩
noncomputable def p_125 (a : Nat) (f h w : Int32) (σ : zSg) (e : Int32 ⊕ Nat) (σ' : zSg) : Prop := a = 0 → ∀ A nf nt Lo, xSk σ → hH σ 8 A → aI nf nt A → hW σ 8 Lo → (¬ ((0 ≤ f.toInt ∧ f.toInt < (nf : Int)) ∧ (0 ≤ h.toInt ∧ h.toInt < 24)) → e = .inr 2 ∧ σ' = σ) ∧ (∀ F n, f = Int32.ofNat F → F < nf → h = Int32.ofNat n → n < 24 → (¬ (0 ≤ w.toInt ∧ w.toInt ≤ 1) → e = .inr 3 ∧ σ' = σ) ∧ ((0 ≤ w.toInt ∧ w.toInt ≤ 1) → eFr 8 σ σ' ∧ e = .inl (if w.toInt = 0 then A (42 + 4 * F) + eSm Lo (eFa A nt F n) 0 else A (41 + 4 * F) + eSm Lo (eFa A nt F n) 1)))
theorem sp_125_ennnt (a0 : Nat) (a1 : Int32) (a2 : Int32) (a3 : Int32) (σ : zSg) (τ1 : zSg) (τ2 : zSg) (τ3 : zSg) (τ5 : zSg) (r5 : Int32) (g1 : p_167 a0 a1 σ (.inl 0) τ1) (g2 : p_166 a0 a2 τ1 (.inl 0) τ2) (g3 : p_169 a0 a3 (Int32.ofInt (1)) τ2 (.inl 0) τ3) (h4 : a3.toInt ≠ (0 : Int)) (g5 : p_31 (q_r (τ3.1 a0 2)) a1 a2 τ3 r5 τ5) :
    p_125 (a0) (a1) (a2) (a3) σ (.inl r5) τ5 := by
  rintro rfl A nf nt Lo S K I W
  have q8 := S.q.2.1
  have k6 := I.1.2.1
  have k8 := I.1.2.2.2.1
  have q3 : (Int32.ofInt 3).toInt = 3 := rfl
  obtain ⟨rfl, g1⟩ := g1
  have u1 := (g1 rfl S A nf K I.1.1 I.1.2.1)
  have u := u1.1 rfl
  obtain ⟨rfl, v, -⟩ := g2
  have v := v rfl
  obtain ⟨rfl, w, -⟩ := g3
  have w := w rfl
  refine ⟨fun q => absurd ⟨u, v⟩ q, fun F n eF hF en hn => ⟨fun q => absurd w q, fun _ => ?_⟩⟩
  subst eF en
  rw [q8] at g5
  obtain ⟨f4, x4⟩ := g5 (by omega) A nf nt F n Lo K I.1 W rfl hF rfl hn
  exact ⟨f4, by rw [if_neg h4, x4]⟩
theorem sp_125_ennnf (a0 : Nat) (a1 : Int32) (a2 : Int32) (a3 : Int32) (σ : zSg) (τ1 : zSg) (τ2 : zSg) (τ3 : zSg) (τ6 : zSg) (r6 : Int32) (g1 : p_167 a0 a1 σ (.inl 0) τ1) (g2 : p_166 a0 a2 τ1 (.inl 0) τ2) (g3 : p_169 a0 a3 (Int32.ofInt (1)) τ2 (.inl 0) τ3) (h4 : a3.toInt = (0 : Int)) (g6 : p_30 (q_r (τ3.1 a0 2)) a1 a2 τ3 r6 τ6) :
    p_125 (a0) (a1) (a2) (a3) σ (.inl r6) τ6 := by
  rintro rfl A nf nt Lo S K I W
  have q8 := S.q.2.1
  have k6 := I.1.2.1
  have k8 := I.1.2.2.2.1
  have q3 : (Int32.ofInt 3).toInt = 3 := rfl
  obtain ⟨rfl, g1⟩ := g1
  have u1 := (g1 rfl S A nf K I.1.1 I.1.2.1)
  have u := u1.1 rfl
  obtain ⟨rfl, v, -⟩ := g2
  have v := v rfl
  obtain ⟨rfl, w, -⟩ := g3
  have w := w rfl
  refine ⟨fun q => absurd ⟨u, v⟩ q, fun F n eF hF en hn => ⟨fun q => absurd w q, fun _ => ?_⟩⟩
  subst eF en
  rw [q8] at g6
  obtain ⟨f4, x4⟩ := g6 (by omega) A nf nt F n Lo K I.1 W rfl hF rfl hn
  exact ⟨f4, by rw [if_pos h4, x4]⟩
theorem sp_125_ennx3_ (a0 : Nat) (a1 : Int32) (a2 : Int32) (a3 : Int32) (σ : zSg) (τ1 : zSg) (τ2 : zSg) (τ3 : zSg) (g1 : p_167 a0 a1 σ (.inl 0) τ1) (g2 : p_166 a0 a2 τ1 (.inl 0) τ2) (g3 : p_169 a0 a3 (Int32.ofInt (1)) τ2 (.inr 3) τ3) :
    p_125 (a0) (a1) (a2) (a3) σ (.inr 3) τ3 := by
  rintro rfl A nf nt Lo S K I W
  have q8 := S.q.2.1
  have k6 := I.1.2.1
  have k8 := I.1.2.2.2.1
  have q3 : (Int32.ofInt 3).toInt = 3 := rfl
  obtain ⟨rfl, g1⟩ := g1
  have u1 := (g1 rfl S A nf K I.1.1 I.1.2.1)
  have u := u1.1 rfl
  obtain ⟨rfl, v, -⟩ := g2
  have v := v rfl
  obtain ⟨rfl, -, w⟩ := g3
  have w := w rfl
  exact ⟨fun q => absurd ⟨u, v⟩ q, fun F n eF hF en hn => ⟨fun _ => ⟨rfl, rfl⟩, fun q => absurd q w⟩⟩
theorem sp_125_enx2_ (a0 : Nat) (a1 : Int32) (a2 : Int32) (a3 : Int32) (σ : zSg) (τ1 : zSg) (τ2 : zSg) (g1 : p_167 a0 a1 σ (.inl 0) τ1) (g2 : p_166 a0 a2 τ1 (.inr 2) τ2) :
    p_125 (a0) (a1) (a2) (a3) σ (.inr 2) τ2 := by
  rintro rfl A nf nt Lo S K I W
  have q8 := S.q.2.1
  have k6 := I.1.2.1
  have k8 := I.1.2.2.2.1
  have q3 : (Int32.ofInt 3).toInt = 3 := rfl
  obtain ⟨rfl, g1⟩ := g1
  have u1 := (g1 rfl S A nf K I.1.1 I.1.2.1)
  have u := u1.1 rfl
  obtain ⟨rfl, -, v⟩ := g2
  have v := v rfl
  exact ⟨fun _ => ⟨rfl, rfl⟩, fun F n eF hF en hn => absurd (by rw [en, o32 (by omega)]; omega) v⟩
theorem sp_125_ex2_ (a0 : Nat) (a1 : Int32) (a2 : Int32) (a3 : Int32) (σ : zSg) (τ1 : zSg) (g1 : p_167 a0 a1 σ (.inr 2) τ1) :
    p_125 (a0) (a1) (a2) (a3) σ (.inr 2) τ1 := by
  rintro rfl A nf nt Lo S K I W
  have q8 := S.q.2.1
  have k6 := I.1.2.1
  have k8 := I.1.2.2.2.1
  have q3 : (Int32.ofInt 3).toInt = 3 := rfl
  obtain ⟨rfl, g1⟩ := g1
  have u1 := (g1 rfl S A nf K I.1.1 I.1.2.1)
  have u := u1.2 rfl
  exact ⟨fun _ => ⟨rfl, rfl⟩, fun F n eF hF en hn => absurd (by rw [eF, o32 (by omega)]; omega) u⟩
noncomputable def qP_125 : zPp := fun as σ o σ' => match as with
  | [a0, a1, a2, a3] => (∃ r, o = .inl (some (.int r)) ∧ p_125 (q_r a0) (q_i a1) (q_i a2) (q_i a3) σ (.inl r) σ') ∨ (o = .inr 2 ∧ p_125 (q_r a0) (q_i a1) (q_i a2) (q_i a3) σ (.inr 2) σ') ∨ (o = .inr 3 ∧ p_125 (q_r a0) (q_i a1) (q_i a2) (q_i a3) σ (.inr 3) σ')
  | _ => True
set_option maxRecDepth 100000 in
theorem sp_125 {sx : zX} (S167 : zEe sx 167 2 qP_167) (S166 : zEe sx 166 2 qP_166) (S169 : zEe sx 169 3 qP_169) (S31 : zEe sx 31 3 qP_31) (S30 : zEe sx 30 3 qP_30) : zEe sx 125 4 qP_125 := by
  refine zfle zJ_125 (sps := [(167, 2, qP_167), (166, 2, qP_166), (169, 3, qP_169), (31, 3, qP_31), (30, 3, qP_30)]) (fun q hq => by
    simp only [List.mem_cons, List.not_mem_nil, or_false] at hq
    rcases hq with rfl | rfl | rfl | rfl | rfl
    · exact S167
    · exact S166
    · exact S169
    · exact S31
    · exact S30) (fun as σ hl => ?_)
  match as, hl with
  | [a0, a1, a2, a3], _ =>
  refine ⟨[], 400, ?_, ?_⟩
  · exact fun q hq => absurd hq List.not_mem_nil
  · refine fun o1 τ1 g1 => ?_
    rcases g1 with ⟨rfl, g1⟩ | ⟨rfl, g1⟩
    · refine fun o2 τ2 g2 => ?_
      rcases g2 with ⟨rfl, g2⟩ | ⟨rfl, g2⟩
      · refine fun o3 τ3 g3 => ?_
        rcases g3 with ⟨rfl, g3⟩ | ⟨rfl, g3⟩
        · refine And.intro (fun h4 => ?_) (fun h4 => ?_)
          · refine fun o5 τ5 g5 => ?_
            obtain ⟨r5, rfl, g5⟩ := g5
            exact Or.inl ⟨_, rfl, sp_125_ennnt (q_r a0) (q_i a1) (q_i a2) (q_i a3) σ τ1 τ2 τ3 τ5 r5 g1 g2 g3 (cm1t h4) g5⟩
          · refine fun o6 τ6 g6 => ?_
            obtain ⟨r6, rfl, g6⟩ := g6
            exact Or.inl ⟨_, rfl, sp_125_ennnf (q_r a0) (q_i a1) (q_i a2) (q_i a3) σ τ1 τ2 τ3 τ6 r6 g1 g2 g3 (cm1f h4) g6⟩
        · exact Or.inr (Or.inr (⟨rfl, sp_125_ennx3_ (q_r a0) (q_i a1) (q_i a2) (q_i a3) σ τ1 τ2 τ3 g1 g2 g3⟩))
      · exact Or.inr (Or.inl (⟨rfl, sp_125_enx2_ (q_r a0) (q_i a1) (q_i a2) (q_i a3) σ τ1 τ2 g1 g2⟩))
    · exact Or.inr (Or.inl (⟨rfl, sp_125_ex2_ (q_r a0) (q_i a1) (q_i a2) (q_i a3) σ τ1 g1⟩))
theorem zJ_126 : zJ3 126 z_m126 z_c126 z_h126 := ⟨rfl, rfl, rfl⟩
noncomputable def p_126 (a : Nat) (t w : Int32) (σ : zSg) (e : Int32 ⊕ Nat) (σ' : zSg) : Prop := a = 0 → ∀ A nf nt Lo, xSk σ → hH σ 8 A → aI nf nt A → hW σ 8 Lo → (¬ (0 ≤ t.toInt ∧ t.toInt < (nt : Int)) → e = .inr 2 ∧ σ' = σ) ∧ (∀ T, t = Int32.ofNat T → T < nt → (¬ (0 ≤ w.toInt ∧ w.toInt ≤ 3) → e = .inr 3 ∧ σ' = σ) ∧ ((0 ≤ w.toInt ∧ w.toInt ≤ 3) → eFr 8 σ σ' ∧ (w.toInt = 0 → e = .inl (A (64 + 3 * T))) ∧ (w.toInt = 1 → e = .inl (A (65 + 3 * T))) ∧ (w.toInt = 2 → e = .inl (A (66 + 3 * T))) ∧ (w.toInt = 3 → ∀ F n, A (64 + 3 * T) = Int32.ofNat F → F < nf → A 4 = Int32.ofNat n → n < 24 → e = .inl (A 11 * A (65 + 3 * T) + eSm Lo (eFa A nt F n) 2))))
theorem sp_126_enns0_ (a0 : Nat) (a1 : Int32) (a2 : Int32) (σ : zSg) (τ1 : zSg) (τ2 : zSg) (g1 : p_168 a0 a1 σ (.inl 0) τ1) (g2 : p_169 a0 a2 (Int32.ofInt (3)) τ1 (.inl 0) τ2) (h3 : a2.toInt = 0) (h4 : 0 ≤ a1.toInt ∧ a1.toInt < (τ2.2.1 (q_r (τ2.1 (q_r (τ2.1 (q_r (τ2.1 a0 2)) 2)) 0)) : Int)) :
    p_126 (a0) (a1) (a2) σ (.inl (q_i (τ2.1 (q_r (τ2.1 (q_r (τ2.1 (q_r (τ2.1 a0 2)) 2)) 0)) a1.toNatClampNeg))) τ2 := by
  rintro rfl A nf nt Lo S K I W
  have q8 := S.q.2.1
  have k6 := I.1.2.1
  have k8 := I.1.2.2.2.1
  have q3 : (Int32.ofInt 3).toInt = 3 := rfl
  obtain ⟨rfl, g1⟩ := g1
  have u1 := (g1 rfl S A nt K I.1.2.2.1 I.1.2.2.2.1)
  have u := u1.1 rfl
  obtain ⟨rfl, w, -⟩ := g2
  have w := w rfl
  refine ⟨fun q => absurd u q, fun T et hT => ⟨fun q => absurd w q, fun _ => ?_⟩⟩
  subst et
  have t8 : T < 8 := by omega
  have d2 := K.k hk_2
  have nT : (Int32.ofNat T).toNatClampNeg = T := o32n (by omega)
  have d0 := K.k hk_t0
  have wo := K.p (hp_o t8)
  simp only [q8, d2, d0, nT, wo]
  exact ⟨eFr.rf, fun _ => trivial, fun q => absurd q (by omega), fun q => absurd q (by omega), fun q => absurd q (by omega)⟩
theorem sp_126_enns1_ (a0 : Nat) (a1 : Int32) (a2 : Int32) (σ : zSg) (τ1 : zSg) (τ2 : zSg) (g1 : p_168 a0 a1 σ (.inl 0) τ1) (g2 : p_169 a0 a2 (Int32.ofInt (3)) τ1 (.inl 0) τ2) (h3 : a2.toInt ≠ 0) (h5 : a2.toInt = 1) (h6 : 0 ≤ a1.toInt ∧ a1.toInt < (τ2.2.1 (q_r (τ2.1 (q_r (τ2.1 (q_r (τ2.1 a0 2)) 2)) 1)) : Int)) :
    p_126 (a0) (a1) (a2) σ (.inl (q_i (τ2.1 (q_r (τ2.1 (q_r (τ2.1 (q_r (τ2.1 a0 2)) 2)) 1)) a1.toNatClampNeg))) τ2 := by
  rintro rfl A nf nt Lo S K I W
  have q8 := S.q.2.1
  have k6 := I.1.2.1
  have k8 := I.1.2.2.2.1
  have q3 : (Int32.ofInt 3).toInt = 3 := rfl
  obtain ⟨rfl, g1⟩ := g1
  have u1 := (g1 rfl S A nt K I.1.2.2.1 I.1.2.2.2.1)
  have u := u1.1 rfl
  obtain ⟨rfl, w, -⟩ := g2
  have w := w rfl
  refine ⟨fun q => absurd u q, fun T et hT => ⟨fun q => absurd w q, fun _ => ?_⟩⟩
  subst et
  have t8 : T < 8 := by omega
  have d2 := K.k hk_2
  have nT : (Int32.ofNat T).toNatClampNeg = T := o32n (by omega)
  have d0 := K.k hk_t1
  have wo := K.p (hp_b t8)
  simp only [q8, d2, d0, nT, wo]
  exact ⟨eFr.rf, fun q => absurd q (by omega), fun _ => trivial, fun q => absurd q (by omega), fun q => absurd q (by omega)⟩
theorem sp_126_enns2_t (a0 : Nat) (a1 : Int32) (a2 : Int32) (σ : zSg) (τ1 : zSg) (τ2 : zSg) (τ8 : zSg) (r8 : Int32) (g1 : p_168 a0 a1 σ (.inl 0) τ1) (g2 : p_169 a0 a2 (Int32.ofInt (3)) τ1 (.inl 0) τ2) (h3 : a2.toInt ≠ 0) (h5 : a2.toInt ≠ 1) (h7 : a2.toInt = 2) (g8 : p_105 (q_r (τ2.1 (q_r (τ2.1 a0 2)) 2)) a1 τ2 r8 τ8) (h9 : r8.toInt = (0 : Int)) :
    p_126 (a0) (a1) (a2) σ (.inl (Int32.ofInt (0))) τ8 := by
  rintro rfl A nf nt Lo S K I W
  have q8 := S.q.2.1
  have k6 := I.1.2.1
  have k8 := I.1.2.2.2.1
  have q3 : (Int32.ofInt 3).toInt = 3 := rfl
  obtain ⟨rfl, g1⟩ := g1
  have u1 := (g1 rfl S A nt K I.1.2.2.1 I.1.2.2.2.1)
  have u := u1.1 rfl
  obtain ⟨rfl, w, -⟩ := g2
  have w := w rfl
  refine ⟨fun q => absurd u q, fun T et hT => ⟨fun q => absurd w q, fun _ => ?_⟩⟩
  subst et
  have t8 : T < 8 := by omega
  have d2 := K.k hk_2
  have nT : (Int32.ofNat T).toNatClampNeg = T := o32n (by omega)
  simp only [q8, d2] at g8
  obtain ⟨e3, g3⟩ := g8
  subst e3
  have x3 := g3 8 A rfl K T rfl t8
  rw [x3] at h9
  have hL : A (66 + 3 * T) = Int32.ofInt 0 ∨ A (66 + 3 * T) = Int32.ofInt 1 := by
    obtain ⟨l, -, hl'⟩ := K.2.2.1
    have e9 := hl' T t8
    by_cases hb : btb l (Int32.ofNat T) = true
    · rw [if_pos hb] at e9; exact Or.inr e9
    · rw [if_neg hb] at e9; exact Or.inl e9
  refine ⟨eFr.rf, fun q => absurd q (by omega), fun q => absurd q (by omega), fun _ => ?_, fun q => absurd q (by omega)⟩
  rcases hL with h | h
  · first
    | (rw [h] at h9; exact absurd rfl h9)
    | rw [h]
  · first
    | (rw [h] at h9; exact absurd h9 (by decide))
    | rw [h]
theorem sp_126_enns2_f (a0 : Nat) (a1 : Int32) (a2 : Int32) (σ : zSg) (τ1 : zSg) (τ2 : zSg) (τ8 : zSg) (r8 : Int32) (g1 : p_168 a0 a1 σ (.inl 0) τ1) (g2 : p_169 a0 a2 (Int32.ofInt (3)) τ1 (.inl 0) τ2) (h3 : a2.toInt ≠ 0) (h5 : a2.toInt ≠ 1) (h7 : a2.toInt = 2) (g8 : p_105 (q_r (τ2.1 (q_r (τ2.1 a0 2)) 2)) a1 τ2 r8 τ8) (h9 : r8.toInt ≠ (0 : Int)) :
    p_126 (a0) (a1) (a2) σ (.inl (Int32.ofInt (1))) τ8 := by
  rintro rfl A nf nt Lo S K I W
  have q8 := S.q.2.1
  have k6 := I.1.2.1
  have k8 := I.1.2.2.2.1
  have q3 : (Int32.ofInt 3).toInt = 3 := rfl
  obtain ⟨rfl, g1⟩ := g1
  have u1 := (g1 rfl S A nt K I.1.2.2.1 I.1.2.2.2.1)
  have u := u1.1 rfl
  obtain ⟨rfl, w, -⟩ := g2
  have w := w rfl
  refine ⟨fun q => absurd u q, fun T et hT => ⟨fun q => absurd w q, fun _ => ?_⟩⟩
  subst et
  have t8 : T < 8 := by omega
  have d2 := K.k hk_2
  have nT : (Int32.ofNat T).toNatClampNeg = T := o32n (by omega)
  simp only [q8, d2] at g8
  obtain ⟨e3, g3⟩ := g8
  subst e3
  have x3 := g3 8 A rfl K T rfl t8
  rw [x3] at h9
  have hL : A (66 + 3 * T) = Int32.ofInt 0 ∨ A (66 + 3 * T) = Int32.ofInt 1 := by
    obtain ⟨l, -, hl'⟩ := K.2.2.1
    have e9 := hl' T t8
    by_cases hb : btb l (Int32.ofNat T) = true
    · rw [if_pos hb] at e9; exact Or.inr e9
    · rw [if_neg hb] at e9; exact Or.inl e9
  refine ⟨eFr.rf, fun q => absurd q (by omega), fun q => absurd q (by omega), fun _ => ?_, fun q => absurd q (by omega)⟩
  rcases hL with h | h
  · first
    | (rw [h] at h9; exact absurd rfl h9)
    | rw [h]
  · first
    | (rw [h] at h9; exact absurd h9 (by decide))
    | rw [h]
theorem sp_126_ennd (a0 : Nat) (a1 : Int32) (a2 : Int32) (σ : zSg) (τ1 : zSg) (τ2 : zSg) (τ10 : zSg) (r10 : Int32) (g1 : p_168 a0 a1 σ (.inl 0) τ1) (g2 : p_169 a0 a2 (Int32.ofInt (3)) τ1 (.inl 0) τ2) (h3 : a2.toInt ≠ 0) (h5 : a2.toInt ≠ 1) (h7 : a2.toInt ≠ 2) (g10 : p_32 (q_r (τ2.1 a0 2)) a1 τ2 r10 τ10) :
    p_126 (a0) (a1) (a2) σ (.inl r10) τ10 := by
  rintro rfl A nf nt Lo S K I W
  have q8 := S.q.2.1
  have k6 := I.1.2.1
  have k8 := I.1.2.2.2.1
  have q3 : (Int32.ofInt 3).toInt = 3 := rfl
  obtain ⟨rfl, g1⟩ := g1
  have u1 := (g1 rfl S A nt K I.1.2.2.1 I.1.2.2.2.1)
  have u := u1.1 rfl
  obtain ⟨rfl, w, -⟩ := g2
  have w := w rfl
  refine ⟨fun q => absurd u q, fun T et hT => ⟨fun q => absurd w q, fun _ => ?_⟩⟩
  subst et
  have t8 : T < 8 := by omega
  have d2 := K.k hk_2
  have nT : (Int32.ofNat T).toNatClampNeg = T := o32n (by omega)
  have hw : a2.toInt = 3 := by omega
  rw [q8] at g10
  obtain ⟨i4, h4, e4⟩ := I.2.2.2.2.2.1
  obtain ⟨F0, hF0, eF0⟩ := I.2.2.1 T hT
  obtain ⟨f3, x3⟩ := g10 (by omega) A nf nt F0 i4 T Lo K I.1 W rfl hT eF0 hF0 e4 h4
  refine ⟨f3, fun q => absurd q (by omega), fun q => absurd q (by omega), fun q => absurd q (by omega), fun _ F n eF hF en hn => ?_⟩
  have e1 := congrArg Int32.toInt (eF0.symm.trans eF)
  have e2 := congrArg Int32.toInt (e4.symm.trans en)
  rw [o32 (by omega), o32 (by omega)] at e1 e2
  have r1 : F0 = F := by omega
  have r2 : i4 = n := by omega
  rw [x3, r1, r2]
theorem sp_126_enx3_ (a0 : Nat) (a1 : Int32) (a2 : Int32) (σ : zSg) (τ1 : zSg) (τ2 : zSg) (g1 : p_168 a0 a1 σ (.inl 0) τ1) (g2 : p_169 a0 a2 (Int32.ofInt (3)) τ1 (.inr 3) τ2) :
    p_126 (a0) (a1) (a2) σ (.inr 3) τ2 := by
  rintro rfl A nf nt Lo S K I W
  have q8 := S.q.2.1
  have k6 := I.1.2.1
  have k8 := I.1.2.2.2.1
  have q3 : (Int32.ofInt 3).toInt = 3 := rfl
  obtain ⟨rfl, g1⟩ := g1
  have u1 := (g1 rfl S A nt K I.1.2.2.1 I.1.2.2.2.1)
  have u := u1.1 rfl
  obtain ⟨rfl, -, w⟩ := g2
  have w := w rfl
  exact ⟨fun q => absurd u q, fun T et hT => ⟨fun _ => ⟨rfl, rfl⟩, fun q => absurd q w⟩⟩
theorem sp_126_ex2_ (a0 : Nat) (a1 : Int32) (a2 : Int32) (σ : zSg) (τ1 : zSg) (g1 : p_168 a0 a1 σ (.inr 2) τ1) :
    p_126 (a0) (a1) (a2) σ (.inr 2) τ1 := by
  rintro rfl A nf nt Lo S K I W
  have q8 := S.q.2.1
  have k6 := I.1.2.1
  have k8 := I.1.2.2.2.1
  have q3 : (Int32.ofInt 3).toInt = 3 := rfl
  obtain ⟨rfl, g1⟩ := g1
  have u1 := (g1 rfl S A nt K I.1.2.2.1 I.1.2.2.2.1)
  have u := u1.2 rfl
  exact ⟨fun _ => ⟨rfl, rfl⟩, fun T et hT => absurd (by rw [et, o32 (by omega)]; omega) u⟩
noncomputable def qP_126 : zPp := fun as σ o σ' => match as with
  | [a0, a1, a2] => (∃ r, o = .inl (some (.int r)) ∧ p_126 (q_r a0) (q_i a1) (q_i a2) σ (.inl r) σ') ∨ (o = .inr 2 ∧ p_126 (q_r a0) (q_i a1) (q_i a2) σ (.inr 2) σ') ∨ (o = .inr 3 ∧ p_126 (q_r a0) (q_i a1) (q_i a2) σ (.inr 3) σ')
  | _ => True
set_option maxRecDepth 100000 in
theorem sp_126 {sx : zX} (S168 : zEe sx 168 2 qP_168) (S169 : zEe sx 169 3 qP_169) (S105 : zEe sx 105 2 qP_105) (S32 : zEe sx 32 2 qP_32) : zEe sx 126 3 qP_126 := by
  refine zfle zJ_126 (sps := [(168, 2, qP_168), (169, 3, qP_169), (105, 2, qP_105), (32, 2, qP_32)]) (fun q hq => by
    simp only [List.mem_cons, List.not_mem_nil, or_false] at hq
    rcases hq with rfl | rfl | rfl | rfl
    · exact S168
    · exact S169
    · exact S105
    · exact S32) (fun as σ hl => ?_)
  match as, hl with
  | [a0, a1, a2], _ =>
  refine ⟨[], 400, ?_, ?_⟩
  · exact fun q hq => absurd hq List.not_mem_nil
  · refine fun o1 τ1 g1 => ?_
    rcases g1 with ⟨rfl, g1⟩ | ⟨rfl, g1⟩
    · refine fun o2 τ2 g2 => ?_
      rcases g2 with ⟨rfl, g2⟩ | ⟨rfl, g2⟩
      · refine And.intro (fun h3 => ?_) (fun h3 => ?_)
        · refine fun h4 => ?_
          exact Or.inl ⟨_, rfl, sp_126_enns0_ (q_r a0) (q_i a1) (q_i a2) σ τ1 τ2 g1 g2 h3 (q_inp h4)⟩
        refine And.intro (fun h5 => ?_) (fun h5 => ?_)
        · refine fun h6 => ?_
          exact Or.inl ⟨_, rfl, sp_126_enns1_ (q_r a0) (q_i a1) (q_i a2) σ τ1 τ2 g1 g2 h3 h5 (q_inp h6)⟩
        refine And.intro (fun h7 => ?_) (fun h7 => ?_)
        · refine fun o8 τ8 g8 => ?_
          obtain ⟨r8, rfl, g8⟩ := g8
          refine And.intro (fun h9 => ?_) (fun h9 => ?_)
          · exact Or.inl ⟨_, rfl, sp_126_enns2_t (q_r a0) (q_i a1) (q_i a2) σ τ1 τ2 τ8 r8 g1 g2 h3 h5 h7 g8 (cm0t h9)⟩
          · exact Or.inl ⟨_, rfl, sp_126_enns2_f (q_r a0) (q_i a1) (q_i a2) σ τ1 τ2 τ8 r8 g1 g2 h3 h5 h7 g8 (cm0f h9)⟩
        refine fun o10 τ10 g10 => ?_
        obtain ⟨r10, rfl, g10⟩ := g10
        exact Or.inl ⟨_, rfl, sp_126_ennd (q_r a0) (q_i a1) (q_i a2) σ τ1 τ2 τ10 r10 g1 g2 h3 h5 h7 g10⟩
      · exact Or.inr (Or.inr (⟨rfl, sp_126_enx3_ (q_r a0) (q_i a1) (q_i a2) σ τ1 τ2 g1 g2⟩))
    · exact Or.inr (Or.inl (⟨rfl, sp_126_ex2_ (q_r a0) (q_i a1) (q_i a2) σ τ1 g1⟩))
theorem zJ_151 : zJ3 151 z_m151 z_c151 z_h151 := ⟨rfl, rfl, rfl⟩
noncomputable def p_151 (a : Nat) (n w : Int32) (σ : zSg) (e : Int32 ⊕ Nat) (σ' : zSg) : Prop := a = 0 → ∀ A nf nt Lo, xDp σ A nf nt Lo → (¬ (0 ≤ n.toInt ∧ n.toInt ≤ 200) → e = .inr 0 ∧ σ' = σ) ∧ ((0 ≤ n.toInt ∧ n.toInt ≤ 200) → ¬ (0 ≤ w.toInt ∧ w.toInt ≤ 2) → e = .inr 3 ∧ σ' = σ) ∧ (∀ N, n = Int32.ofNat N → N ≤ 200 → (0 ≤ w.toInt ∧ w.toInt ≤ 2) → xDa σ σ' A (hHs Lo nt true A N).1 Lo ∧ (w.toInt = 0 → e = .inl ((hHs Lo nt true A N).1 6)) ∧ (w.toInt = 1 → e = .inl ((hHs Lo nt true A N).1 7)) ∧ (w.toInt = 2 → e = .inl ((hHs Lo nt true A N).1 (16 + hN (hHs Lo nt true A N).1))))
noncomputable def i_151 (a : Nat) (n w : Int32) (σ : zSg) (l0 : Nat) (l1 l2 l3 : Int32) (τ : zSg) : Prop := l0 = a ∧ l1 = n ∧ l2 = w ∧ (a = 0 → ∀ A nf nt Lo, xDp σ A nf nt Lo → ∃ N, (0 ≤ w.toInt ∧ w.toInt ≤ 2) ∧ n = Int32.ofNat N ∧ N ≤ 200 ∧ ∃ i, i ≤ N ∧ l3 = Int32.ofNat i ∧ xDa σ τ A (hHs Lo nt true A i).1 Lo)
theorem sp_151_enn (a0 : Nat) (a1 : Int32) (a2 : Int32) (σ : zSg) (τ1 : zSg) (τ2 : zSg) (τ3 : zSg) (g1 : p_170 a0 a1 (Int32.ofInt (0)) (Int32.ofInt (200)) σ (.inl 0) τ1) (g2 : p_169 a0 a2 (Int32.ofInt (2)) τ1 (.inl 0) τ2) (g3 : p_23 (q_r (τ2.1 a0 3)) (q_r (τ2.1 a0 2)) τ2 τ3) :
    i_151 a0 a1 a2 σ a0 a1 a2 (Int32.ofInt (0)) τ3 := by
  refine ⟨rfl, rfl, rfl, ?_⟩
  rintro rfl A nf nt Lo K
  have z0 : (Int32.ofInt 0).toInt = 0 := rfl
  have z1 : (Int32.ofInt 1).toInt = 1 := rfl
  have z2 : (Int32.ofInt 2).toInt = 2 := rfl
  have z99 : (Int32.ofInt 99).toInt = 99 := rfl
  have z200 : (Int32.ofInt 200).toInt = 200 := rfl
  obtain ⟨rfl, u, -⟩ := g1
  have u := u rfl
  obtain ⟨rfl, v, -⟩ := g2
  have v := v rfl
  have q0 := K.1.q
  rw [q0.2.1, q0.2.2.1] at g3
  exact ⟨a1.toInt.toNat, by omega, Int32.toInt_inj.mp (by rw [o32 (by omega)]; omega), by omega, 0, Nat.zero_le _, rfl, K.cp g3⟩
theorem sp_151_enx3_ (a0 : Nat) (a1 : Int32) (a2 : Int32) (σ : zSg) (τ1 : zSg) (τ2 : zSg) (g1 : p_170 a0 a1 (Int32.ofInt (0)) (Int32.ofInt (200)) σ (.inl 0) τ1) (g2 : p_169 a0 a2 (Int32.ofInt (2)) τ1 (.inr 3) τ2) :
    p_151 (a0) (a1) (a2) σ (.inr 3) τ2 := by
  rintro rfl A nf nt Lo K
  have z0 : (Int32.ofInt 0).toInt = 0 := rfl
  have z1 : (Int32.ofInt 1).toInt = 1 := rfl
  have z2 : (Int32.ofInt 2).toInt = 2 := rfl
  have z99 : (Int32.ofInt 99).toInt = 99 := rfl
  have z200 : (Int32.ofInt 200).toInt = 200 := rfl
  obtain ⟨rfl, u, -⟩ := g1
  have u := u rfl
  obtain ⟨rfl, -, v⟩ := g2
  have v := v rfl
  exact ⟨fun q => absurd u (by omega), fun _ _ => ⟨rfl, rfl⟩, fun N e h q => absurd q (by omega)⟩
theorem sp_151_ex0_ (a0 : Nat) (a1 : Int32) (a2 : Int32) (σ : zSg) (τ1 : zSg) (g1 : p_170 a0 a1 (Int32.ofInt (0)) (Int32.ofInt (200)) σ (.inr 0) τ1) :
    p_151 (a0) (a1) (a2) σ (.inr 0) τ1 := by
  rintro rfl A nf nt Lo K
  have z0 : (Int32.ofInt 0).toInt = 0 := rfl
  have z1 : (Int32.ofInt 1).toInt = 1 := rfl
  have z2 : (Int32.ofInt 2).toInt = 2 := rfl
  have z99 : (Int32.ofInt 99).toInt = 99 := rfl
  have z200 : (Int32.ofInt 200).toInt = 200 := rfl
  obtain ⟨rfl, -, u⟩ := g1
  have u := u rfl
  exact ⟨fun _ => ⟨rfl, rfl⟩, fun q => absurd q (by omega), fun N e h => absurd (by rw [e, o32 (by omega)]; omega) u⟩
theorem sp_151_c16_ts0_ (a0 : Nat) (a1 : Int32) (a2 : Int32) (σ : zSg) (l0 : Nat) (l1 : Int32) (l2 : Int32) (l3 : Int32) (τ : zSg) (hI : i_151 a0 a1 a2 σ l0 l1 l2 l3 τ) (h4 : l3.toInt ≥ l1.toInt) (h5 : l2.toInt = 0) :
    p_151 (a0) (a1) (a2) σ (.inl (q_i (τ.1 (q_r (τ.1 l0 3)) 9))) τ := by
  obtain ⟨rfl, rfl, rfl, hI⟩ := hI
  rintro rfl A nf nt Lo K
  obtain ⟨N, w02, rfl, hN2, i, hi, rfl, D⟩ := hI rfl A nf nt Lo K
  rw [o32 (by omega), o32 (by omega)] at h4
  have ei : i = N := by omega
  subst ei
  have qs := (D.1.sk K.1).q
  refine ⟨fun q => absurd (by rw [o32 (by omega)]; omega) q, fun _ q => absurd w02 q, fun M eM hM hw => ?_⟩
  have h9 := congrArg Int32.toInt eM
  rw [o32 (by omega), o32 (by omega)] at h9
  have r1 : i = M := by omega
  rw [← r1]
  have y := D.2.1.p (hp_s (k := 6) (by omega) (by omega))
  simp only [Nat.reduceAdd] at y
  rw [qs.2.2.1, y]
  exact ⟨D, fun _ => rfl, fun q => absurd q (by omega), fun q => absurd q (by omega)⟩
theorem sp_151_c16_ts1_ (a0 : Nat) (a1 : Int32) (a2 : Int32) (σ : zSg) (l0 : Nat) (l1 : Int32) (l2 : Int32) (l3 : Int32) (τ : zSg) (hI : i_151 a0 a1 a2 σ l0 l1 l2 l3 τ) (h4 : l3.toInt ≥ l1.toInt) (h5 : l2.toInt ≠ 0) (h6 : l2.toInt = 1) :
    p_151 (a0) (a1) (a2) σ (.inl (q_i (τ.1 (q_r (τ.1 l0 3)) 10))) τ := by
  obtain ⟨rfl, rfl, rfl, hI⟩ := hI
  rintro rfl A nf nt Lo K
  obtain ⟨N, w02, rfl, hN2, i, hi, rfl, D⟩ := hI rfl A nf nt Lo K
  rw [o32 (by omega), o32 (by omega)] at h4
  have ei : i = N := by omega
  subst ei
  have qs := (D.1.sk K.1).q
  refine ⟨fun q => absurd (by rw [o32 (by omega)]; omega) q, fun _ q => absurd w02 q, fun M eM hM hw => ?_⟩
  have h9 := congrArg Int32.toInt eM
  rw [o32 (by omega), o32 (by omega)] at h9
  have r1 : i = M := by omega
  rw [← r1]
  have y := D.2.1.p (hp_s (k := 7) (by omega) (by omega))
  simp only [Nat.reduceAdd] at y
  rw [qs.2.2.1, y]
  exact ⟨D, fun q => absurd q (by omega), fun _ => rfl, fun q => absurd q (by omega)⟩
theorem sp_151_c16_td (a0 : Nat) (a1 : Int32) (a2 : Int32) (σ : zSg) (l0 : Nat) (l1 : Int32) (l2 : Int32) (l3 : Int32) (τ : zSg) (τ7 : zSg) (r7 : Int32) (hI : i_151 a0 a1 a2 σ l0 l1 l2 l3 τ) (h4 : l3.toInt ≥ l1.toInt) (h5 : l2.toInt ≠ 0) (h6 : l2.toInt ≠ 1) (g7 : p_27 (q_r (τ.1 l0 3)) τ r7 τ7) :
    p_151 (a0) (a1) (a2) σ (.inl r7) τ7 := by
  obtain ⟨rfl, rfl, rfl, hI⟩ := hI
  rintro rfl A nf nt Lo K
  obtain ⟨N, w02, rfl, hN2, i, hi, rfl, D⟩ := hI rfl A nf nt Lo K
  rw [o32 (by omega), o32 (by omega)] at h4
  have ei : i = N := by omega
  subst ei
  have qs := (D.1.sk K.1).q
  refine ⟨fun q => absurd (by rw [o32 (by omega)]; omega) q, fun _ q => absurd w02 q, fun M eM hM hw => ?_⟩
  have h9 := congrArg Int32.toInt eM
  rw [o32 (by omega), o32 (by omega)] at h9
  have r1 : i = M := by omega
  rw [← r1]
  have IA := K.2.2.2.1.hs (Lo := Lo) (calm := true) i
  obtain ⟨hn', e4', -⟩ := IA.in
  rw [qs.2.2.1] at g7
  obtain ⟨e9, g9⟩ := g7
  subst e9
  have x9 := g9 _ _ D.2.1 e4' hn'
  rw [x9]
  exact ⟨D, fun q => absurd q (by omega), fun q => absurd q (by omega), fun _ => rfl⟩
theorem sp_151_c16_f (a0 : Nat) (a1 : Int32) (a2 : Int32) (σ : zSg) (l0 : Nat) (l1 : Int32) (l2 : Int32) (l3 : Int32) (τ : zSg) (τ8 : zSg) (r8 : Int32) (hI : i_151 a0 a1 a2 σ l0 l1 l2 l3 τ) (h4 : l3.toInt < l1.toInt) (g8 : p_34 (q_r (τ.1 l0 3)) (Int32.ofInt (0)) τ r8 τ8) :
    i_151 a0 a1 a2 σ l0 l1 l2 (l3 + Int32.ofInt (1)) τ8 := by
  obtain ⟨rfl, rfl, rfl, hI⟩ := hI
  refine ⟨rfl, rfl, rfl, ?_⟩
  rintro rfl A nf nt Lo K
  obtain ⟨N, w02, rfl, hN2, i, hi, rfl, D⟩ := hI rfl A nf nt Lo K
  rw [o32 (by omega), o32 (by omega)] at h4
  have qs := (D.1.sk K.1).q
  have IA := K.2.2.2.1.hs (Lo := Lo) (calm := true) i
  rw [qs.2.2.1] at g8
  obtain ⟨fE, KE, -⟩ := (g8 (by omega) _ nf nt Lo D.2.1 IA D.2.2).1 rfl
  have D' := D.st fE KE
  exact ⟨N, w02, rfl, hN2, i + 1, by omega, o32i (by omega), D'⟩
noncomputable def qP_151 : zPp := fun as σ o σ' => match as with
  | [a0, a1, a2] => (∃ r, o = .inl (some (.int r)) ∧ p_151 (q_r a0) (q_i a1) (q_i a2) σ (.inl r) σ') ∨ (o = .inr 0 ∧ p_151 (q_r a0) (q_i a1) (q_i a2) σ (.inr 0) σ') ∨ (o = .inr 3 ∧ p_151 (q_r a0) (q_i a1) (q_i a2) σ (.inr 3) σ')
  | _ => True
set_option maxRecDepth 100000 in
theorem sp_151 {sx : zX} (S170 : zEe sx 170 4 qP_170) (S169 : zEe sx 169 3 qP_169) (S23 : zEe sx 23 2 qP_23) (S27 : zEe sx 27 1 qP_27) (S34 : zEe sx 34 2 qP_34) : zEe sx 151 3 qP_151 := by
  refine zfle zJ_151 (sps := [(170, 4, qP_170), (169, 3, qP_169), (23, 2, qP_23), (27, 1, qP_27), (34, 2, qP_34)]) (fun q hq => by
    simp only [List.mem_cons, List.not_mem_nil, or_false] at hq
    rcases hq with rfl | rfl | rfl | rfl | rfl
    · exact S170
    · exact S169
    · exact S23
    · exact S27
    · exact S34) (fun as σ hl => ?_)
  match as, hl with
  | [a0, a1, a2], _ =>
  refine ⟨[(16, fun lo st τ => st = [] ∧ i_151 (q_r a0) (q_i a1) (q_i a2) σ (q_r (lo 0)) (q_i (lo 1)) (q_i (lo 2)) (q_i (lo 3)) τ)], 400, ?_, ?_⟩
  · intro q hq
    simp only [List.mem_cons, List.not_mem_nil, or_false] at hq
    rcases hq with rfl
    · rintro lo st τ ⟨rfl, hI⟩
      refine ⟨400, ?_⟩
      refine And.intro (fun h4 => ?_) (fun h4 => ?_)
      · refine And.intro (fun h5 => ?_) (fun h5 => ?_)
        · exact Or.inl ⟨_, rfl, sp_151_c16_ts0_ (q_r a0) (q_i a1) (q_i a2) σ (q_r (lo 0)) (q_i (lo 1)) (q_i (lo 2)) (q_i (lo 3)) τ hI (cm3t h4) h5⟩
        refine And.intro (fun h6 => ?_) (fun h6 => ?_)
        · exact Or.inl ⟨_, rfl, sp_151_c16_ts1_ (q_r a0) (q_i a1) (q_i a2) σ (q_r (lo 0)) (q_i (lo 1)) (q_i (lo 2)) (q_i (lo 3)) τ hI (cm3t h4) h5 h6⟩
        refine fun o7 τ7 g7 => ?_
        obtain ⟨r7, rfl, g7⟩ := g7
        exact Or.inl ⟨_, rfl, sp_151_c16_td (q_r a0) (q_i a1) (q_i a2) σ (q_r (lo 0)) (q_i (lo 1)) (q_i (lo 2)) (q_i (lo 3)) τ τ7 r7 hI (cm3t h4) h5 h6 g7⟩
      · refine fun o8 τ8 g8 => ?_
        obtain ⟨r8, rfl, g8⟩ := g8
        exact ⟨rfl, sp_151_c16_f (q_r a0) (q_i a1) (q_i a2) σ (q_r (lo 0)) (q_i (lo 1)) (q_i (lo 2)) (q_i (lo 3)) τ τ8 r8 hI (cm3f h4) g8⟩
  · refine fun o1 τ1 g1 => ?_
    rcases g1 with ⟨rfl, g1⟩ | ⟨rfl, g1⟩
    · refine fun o2 τ2 g2 => ?_
      rcases g2 with ⟨rfl, g2⟩ | ⟨rfl, g2⟩
      · refine fun o3 τ3 g3 => ?_
        obtain ⟨rfl, g3⟩ := g3
        exact ⟨rfl, sp_151_enn (q_r a0) (q_i a1) (q_i a2) σ τ1 τ2 τ3 g1 g2 g3⟩
      · exact Or.inr (Or.inr (⟨rfl, sp_151_enx3_ (q_r a0) (q_i a1) (q_i a2) σ τ1 τ2 g1 g2⟩))
    · exact Or.inr (Or.inl (⟨rfl, sp_151_ex0_ (q_r a0) (q_i a1) (q_i a2) σ τ1 g1⟩))
theorem zJ_152 : zJ3 152 z_m152 z_c152 z_h152 := ⟨rfl, rfl, rfl⟩
noncomputable def p_152 (a : Nat) (n : Int32) (σ : zSg) (e : Int32 ⊕ Nat) (σ' : zSg) : Prop := a = 0 → ∀ A nf nt Lo, xDp σ A nf nt Lo → (¬ (1 ≤ n.toInt ∧ n.toInt ≤ 99) → e = .inr 0 ∧ σ' = σ) ∧ ((1 ≤ n.toInt ∧ n.toInt ≤ 99) → (∃ B, xDa σ σ' A B Lo) ∧ ∃ r, e = .inl r ∧ aFst (fun i => n.toInt ≤ ((hHs Lo nt true A i).1 7).toInt) r)
noncomputable def i_152 (a : Nat) (n : Int32) (σ : zSg) (l0 : Nat) (l1 l2 : Int32) (τ : zSg) : Prop := l0 = a ∧ l1 = n ∧ (a = 0 → ∀ A nf nt Lo, xDp σ A nf nt Lo → (1 ≤ n.toInt ∧ n.toInt ≤ 99) ∧ ∃ N, N ≤ 201 ∧ l2 = Int32.ofNat N ∧ xDa σ τ A (hHs Lo nt true A N).1 Lo ∧ ∀ i, i < N → ¬ n.toInt ≤ ((hHs Lo nt true A i).1 7).toInt)
theorem sp_152_en (a0 : Nat) (a1 : Int32) (σ : zSg) (τ1 : zSg) (τ2 : zSg) (g1 : p_170 a0 a1 (Int32.ofInt (1)) (Int32.ofInt (99)) σ (.inl 0) τ1) (g2 : p_23 (q_r (τ1.1 a0 3)) (q_r (τ1.1 a0 2)) τ1 τ2) :
    i_152 a0 a1 σ a0 a1 (Int32.ofInt (0)) τ2 := by
  refine ⟨rfl, rfl, ?_⟩
  rintro rfl A nf nt Lo K
  have z0 : (Int32.ofInt 0).toInt = 0 := rfl
  have z1 : (Int32.ofInt 1).toInt = 1 := rfl
  have z2 : (Int32.ofInt 2).toInt = 2 := rfl
  have z99 : (Int32.ofInt 99).toInt = 99 := rfl
  have z200 : (Int32.ofInt 200).toInt = 200 := rfl
  obtain ⟨rfl, u, -⟩ := g1
  have u := u rfl
  have q0 := K.1.q
  rw [q0.2.1, q0.2.2.1] at g2
  exact ⟨by omega, 0, by omega, rfl, K.cp g2, fun i hi => absurd hi (by omega)⟩
theorem sp_152_ex0_ (a0 : Nat) (a1 : Int32) (σ : zSg) (τ1 : zSg) (g1 : p_170 a0 a1 (Int32.ofInt (1)) (Int32.ofInt (99)) σ (.inr 0) τ1) :
    p_152 (a0) (a1) σ (.inr 0) τ1 := by
  rintro rfl A nf nt Lo K
  have z0 : (Int32.ofInt 0).toInt = 0 := rfl
  have z1 : (Int32.ofInt 1).toInt = 1 := rfl
  have z2 : (Int32.ofInt 2).toInt = 2 := rfl
  have z99 : (Int32.ofInt 99).toInt = 99 := rfl
  have z200 : (Int32.ofInt 200).toInt = 200 := rfl
  obtain ⟨rfl, -, u⟩ := g1
  have u := u rfl
  exact ⟨fun _ => ⟨rfl, rfl⟩, fun q => absurd q (by omega)⟩
theorem sp_152_c12_t (a0 : Nat) (a1 : Int32) (σ : zSg) (l0 : Nat) (l1 : Int32) (l2 : Int32) (τ : zSg) (hI : i_152 a0 a1 σ l0 l1 l2 τ) (h3 : l2.toInt > (200 : Int)) :
    p_152 (a0) (a1) σ (.inl (Int32.ofInt (-1))) τ := by
  obtain ⟨rfl, rfl, hI⟩ := hI
  rintro rfl A nf nt Lo K
  obtain ⟨RNG, N, hN2, rfl, D, hno⟩ := hI rfl A nf nt Lo K
  have z200 : (Int32.ofInt 200).toInt = 200 := rfl
  rw [o32 (by omega)] at h3
  refine ⟨fun q => absurd RNG q, fun _ => ⟨⟨_, D⟩, _, rfl, Or.inr ⟨rfl, fun i hi => hno i (by omega)⟩⟩⟩
theorem sp_152_c12_ft (a0 : Nat) (a1 : Int32) (σ : zSg) (l0 : Nat) (l1 : Int32) (l2 : Int32) (τ : zSg) (τ5 : zSg) (r5 : Int32) (hI : i_152 a0 a1 σ l0 l1 l2 τ) (h3 : l2.toInt ≤ (200 : Int)) (h4 : (q_i (τ.1 (q_r (τ.1 l0 3)) 10)).toInt < l1.toInt) (g5 : p_34 (q_r (τ.1 l0 3)) (Int32.ofInt (0)) τ r5 τ5) :
    i_152 a0 a1 σ l0 l1 (l2 + Int32.ofInt (1)) τ5 := by
  obtain ⟨rfl, rfl, hI⟩ := hI
  refine ⟨rfl, rfl, ?_⟩
  rintro rfl A nf nt Lo K
  obtain ⟨RNG, N, hN2, rfl, D, hno⟩ := hI rfl A nf nt Lo K
  have z200 : (Int32.ofInt 200).toInt = 200 := rfl
  rw [o32 (by omega)] at h3
  have qs := (D.1.sk K.1).q
  have IA := K.2.2.2.1.hs (Lo := Lo) (calm := true) N
  rw [qs.2.2.1] at g5
  obtain ⟨fE, KE, -⟩ := (g5 (by omega) _ nf nt Lo D.2.1 IA D.2.2).1 rfl
  have D' := D.st fE KE
  have y := D.2.1.p (hp_s (k := 7) (by omega) (by omega))
  simp only [Nat.reduceAdd] at y
  rw [qs.2.2.1, y] at h4
  refine ⟨RNG, N + 1, by omega, o32i (by omega), D', fun i hi => ?_⟩
  by_cases q : i = N
  · rw [q]; omega
  · exact hno i (by omega)
theorem sp_152_c12_ff (a0 : Nat) (a1 : Int32) (σ : zSg) (l0 : Nat) (l1 : Int32) (l2 : Int32) (τ : zSg) (hI : i_152 a0 a1 σ l0 l1 l2 τ) (h3 : l2.toInt ≤ (200 : Int)) (h4 : (q_i (τ.1 (q_r (τ.1 l0 3)) 10)).toInt ≥ l1.toInt) :
    p_152 (a0) (a1) σ (.inl l2) τ := by
  obtain ⟨rfl, rfl, hI⟩ := hI
  rintro rfl A nf nt Lo K
  obtain ⟨RNG, N, hN2, rfl, D, hno⟩ := hI rfl A nf nt Lo K
  have z200 : (Int32.ofInt 200).toInt = 200 := rfl
  rw [o32 (by omega)] at h3
  have qs := (D.1.sk K.1).q
  have y := D.2.1.p (hp_s (k := 7) (by omega) (by omega))
  simp only [Nat.reduceAdd] at y
  rw [qs.2.2.1, y] at h4
  exact ⟨fun q => absurd RNG q, fun _ => ⟨⟨_, D⟩, _, rfl, Or.inl ⟨N, by omega, rfl, by omega, hno⟩⟩⟩
noncomputable def qP_152 : zPp := fun as σ o σ' => match as with
  | [a0, a1] => (∃ r, o = .inl (some (.int r)) ∧ p_152 (q_r a0) (q_i a1) σ (.inl r) σ') ∨ (o = .inr 0 ∧ p_152 (q_r a0) (q_i a1) σ (.inr 0) σ')
  | _ => True
set_option maxRecDepth 100000 in
theorem sp_152 {sx : zX} (S170 : zEe sx 170 4 qP_170) (S23 : zEe sx 23 2 qP_23) (S34 : zEe sx 34 2 qP_34) : zEe sx 152 2 qP_152 := by
  refine zfle zJ_152 (sps := [(170, 4, qP_170), (23, 2, qP_23), (34, 2, qP_34)]) (fun q hq => by
    simp only [List.mem_cons, List.not_mem_nil, or_false] at hq
    rcases hq with rfl | rfl | rfl
    · exact S170
    · exact S23
    · exact S34) (fun as σ hl => ?_)
  match as, hl with
  | [a0, a1], _ =>
  refine ⟨[(12, fun lo st τ => st = [] ∧ i_152 (q_r a0) (q_i a1) σ (q_r (lo 0)) (q_i (lo 1)) (q_i (lo 2)) τ)], 400, ?_, ?_⟩
  · intro q hq
    simp only [List.mem_cons, List.not_mem_nil, or_false] at hq
    rcases hq with rfl
    · rintro lo st τ ⟨rfl, hI⟩
      refine ⟨400, ?_⟩
      refine And.intro (fun h3 => ?_) (fun h3 => ?_)
      · exact Or.inl ⟨_, rfl, sp_152_c12_t (q_r a0) (q_i a1) σ (q_r (lo 0)) (q_i (lo 1)) (q_i (lo 2)) τ hI (cm4t h3)⟩
      · refine And.intro (fun h4 => ?_) (fun h4 => ?_)
        · refine fun o5 τ5 g5 => ?_
          obtain ⟨r5, rfl, g5⟩ := g5
          exact ⟨rfl, sp_152_c12_ft (q_r a0) (q_i a1) σ (q_r (lo 0)) (q_i (lo 1)) (q_i (lo 2)) τ τ5 r5 hI (cm4f h3) (cm2t h4) g5⟩
        · exact Or.inl ⟨_, rfl, sp_152_c12_ff (q_r a0) (q_i a1) σ (q_r (lo 0)) (q_i (lo 1)) (q_i (lo 2)) τ hI (cm4f h3) (cm2f h4)⟩
  · refine fun o1 τ1 g1 => ?_
    rcases g1 with ⟨rfl, g1⟩ | ⟨rfl, g1⟩
    · refine fun o2 τ2 g2 => ?_
      obtain ⟨rfl, g2⟩ := g2
      exact ⟨rfl, sp_152_en (q_r a0) (q_i a1) σ τ1 τ2 g1 g2⟩
    · exact Or.inr (⟨rfl, sp_152_ex0_ (q_r a0) (q_i a1) σ τ1 g1⟩)
theorem zJ_154 : zJ3 154 z_m154 z_c154 z_h154 := ⟨rfl, rfl, rfl⟩
noncomputable def p_154 (a : Nat) (f : Int32) (σ : zSg) (e : Int32 ⊕ Nat) (σ' : zSg) : Prop := a = 0 → ∀ A nf nt Lo, xDp σ A nf nt Lo → (¬ (0 ≤ f.toInt ∧ f.toInt < (nf : Int)) → e = .inr 2 ∧ σ' = σ) ∧ (∀ F, f = Int32.ofNat F → F < nf → (∃ B, xDa σ σ' A B Lo) ∧ ∃ r, e = .inl r ∧ aFst (fun i => (hHs Lo nt true A i).1 (40 + 4 * F) = Int32.ofInt 0) r)
noncomputable def i_154 (a : Nat) (f : Int32) (σ : zSg) (l0 : Nat) (l1 l2 : Int32) (τ : zSg) : Prop := l0 = a ∧ l1 = f ∧ (a = 0 → ∀ A nf nt Lo, xDp σ A nf nt Lo → (0 ≤ f.toInt ∧ f.toInt < (nf : Int)) ∧ ∃ N, N ≤ 201 ∧ l2 = Int32.ofNat N ∧ xDa σ τ A (hHs Lo nt true A N).1 Lo ∧ ∀ i, i < N → ∀ F, f = Int32.ofNat F → F < nf → ¬ (hHs Lo nt true A i).1 (40 + 4 * F) = Int32.ofInt 0)
theorem sp_154_en (a0 : Nat) (a1 : Int32) (σ : zSg) (τ1 : zSg) (τ2 : zSg) (g1 : p_167 a0 a1 σ (.inl 0) τ1) (g2 : p_23 (q_r (τ1.1 a0 3)) (q_r (τ1.1 a0 2)) τ1 τ2) :
    i_154 a0 a1 σ a0 a1 (Int32.ofInt (0)) τ2 := by
  refine ⟨rfl, rfl, ?_⟩
  rintro rfl A nf nt Lo K
  have z0 : (Int32.ofInt 0).toInt = 0 := rfl
  have z1 : (Int32.ofInt 1).toInt = 1 := rfl
  have z2 : (Int32.ofInt 2).toInt = 2 := rfl
  have z99 : (Int32.ofInt 99).toInt = 99 := rfl
  have z200 : (Int32.ofInt 200).toInt = 200 := rfl
  obtain ⟨rfl, g1⟩ := g1
  have u := (g1 rfl K.1 A nf K.2.1 K.2.2.2.1.1.1 K.2.2.2.1.1.2.1).1 rfl
  have q0 := K.1.q
  rw [q0.2.1, q0.2.2.1] at g2
  exact ⟨u, 0, by omega, rfl, K.cp g2, fun i hi => absurd hi (by omega)⟩
theorem sp_154_ex2_ (a0 : Nat) (a1 : Int32) (σ : zSg) (τ1 : zSg) (g1 : p_167 a0 a1 σ (.inr 2) τ1) :
    p_154 (a0) (a1) σ (.inr 2) τ1 := by
  rintro rfl A nf nt Lo K
  have z0 : (Int32.ofInt 0).toInt = 0 := rfl
  have z1 : (Int32.ofInt 1).toInt = 1 := rfl
  have z2 : (Int32.ofInt 2).toInt = 2 := rfl
  have z99 : (Int32.ofInt 99).toInt = 99 := rfl
  have z200 : (Int32.ofInt 200).toInt = 200 := rfl
  have k6 := K.2.2.2.1.1.2.1
  obtain ⟨rfl, g1⟩ := g1
  have u := (g1 rfl K.1 A nf K.2.1 K.2.2.2.1.1.1 K.2.2.2.1.1.2.1).2 rfl
  exact ⟨fun _ => ⟨rfl, rfl⟩, fun F e h => absurd (by rw [e, o32 (by omega)]; omega) u⟩
theorem sp_154_c10_t (a0 : Nat) (a1 : Int32) (σ : zSg) (l0 : Nat) (l1 : Int32) (l2 : Int32) (τ : zSg) (hI : i_154 a0 a1 σ l0 l1 l2 τ) (h3 : l2.toInt > (200 : Int)) :
    p_154 (a0) (a1) σ (.inl (Int32.ofInt (-1))) τ := by
  obtain ⟨rfl, rfl, hI⟩ := hI
  rintro rfl A nf nt Lo K
  obtain ⟨RNG, N, hN2, rfl, D, hno⟩ := hI rfl A nf nt Lo K
  have z200 : (Int32.ofInt 200).toInt = 200 := rfl
  rw [o32 (by omega)] at h3
  refine ⟨fun q => absurd RNG q, fun F eF hF => ⟨⟨_, D⟩, _, rfl, Or.inr ⟨rfl, fun i hi => hno i (by omega) F eF hF⟩⟩⟩
theorem sp_154_c10_ft (a0 : Nat) (a1 : Int32) (σ : zSg) (l0 : Nat) (l1 : Int32) (l2 : Int32) (τ : zSg) (τ4 : zSg) (r4 : Int32) (τ6 : zSg) (r6 : Int32) (hI : i_154 a0 a1 σ l0 l1 l2 τ) (h3 : l2.toInt ≤ (200 : Int)) (g4 : p_16 (q_r (τ.1 (q_r (τ.1 l0 3)) 1)) l1 τ r4 τ4) (h5 : r4.toInt ≠ (0 : Int)) (g6 : p_34 (q_r (τ4.1 l0 3)) (Int32.ofInt (0)) τ4 r6 τ6) :
    i_154 a0 a1 σ l0 l1 (l2 + Int32.ofInt (1)) τ6 := by
  obtain ⟨rfl, rfl, hI⟩ := hI
  refine ⟨rfl, rfl, ?_⟩
  rintro rfl A nf nt Lo K
  obtain ⟨RNG, N, hN2, rfl, D, hno⟩ := hI rfl A nf nt Lo K
  have z200 : (Int32.ofInt 200).toInt = 200 := rfl
  rw [o32 (by omega)] at h3
  have qs := (D.1.sk K.1).q
  have d1 := D.2.1.k hk_1
  rw [qs.2.2.1, d1] at g4
  obtain ⟨e9, g9⟩ := g4
  subst e9
  have qs := (D.1.sk K.1).q
  have IA := K.2.2.2.1.hs (Lo := Lo) (calm := true) N
  rw [qs.2.2.1] at g6
  obtain ⟨fE, KE, -⟩ := (g6 (by omega) _ nf nt Lo D.2.1 IA D.2.2).1 rfl
  have D' := D.st fE KE
  refine ⟨RNG, N + 1, by omega, o32i (by omega), D', fun i hi F eF hF => ?_⟩
  by_cases q : i = N
  · rw [q]
    have x9 := g9 21 _ nf rfl D.2.1 IA.1.1 IA.1.2.1 F eF hF
    rw [← x9]
    intro w
    rw [w] at h5
    exact h5 rfl
  · exact hno i (by omega) F eF hF
theorem sp_154_c10_ff (a0 : Nat) (a1 : Int32) (σ : zSg) (l0 : Nat) (l1 : Int32) (l2 : Int32) (τ : zSg) (τ4 : zSg) (r4 : Int32) (hI : i_154 a0 a1 σ l0 l1 l2 τ) (h3 : l2.toInt ≤ (200 : Int)) (g4 : p_16 (q_r (τ.1 (q_r (τ.1 l0 3)) 1)) l1 τ r4 τ4) (h5 : r4.toInt = (0 : Int)) :
    p_154 (a0) (a1) σ (.inl l2) τ4 := by
  obtain ⟨rfl, rfl, hI⟩ := hI
  rintro rfl A nf nt Lo K
  obtain ⟨RNG, N, hN2, rfl, D, hno⟩ := hI rfl A nf nt Lo K
  have z200 : (Int32.ofInt 200).toInt = 200 := rfl
  rw [o32 (by omega)] at h3
  have qs := (D.1.sk K.1).q
  have d1 := D.2.1.k hk_1
  rw [qs.2.2.1, d1] at g4
  obtain ⟨e9, g9⟩ := g4
  subst e9
  have IA := K.2.2.2.1.hs (Lo := Lo) (calm := true) N
  refine ⟨fun q => absurd RNG q, fun F eF hF => ⟨⟨_, D⟩, _, rfl, Or.inl ⟨N, by omega, rfl, ?_, fun i hi => hno i hi F eF hF⟩⟩⟩
  have x9 := g9 21 _ nf rfl D.2.1 IA.1.1 IA.1.2.1 F eF hF
  show (hHs Lo nt true A N).1 (40 + 4 * F) = Int32.ofInt 0
  rw [← x9]
  exact Int32.toInt_inj.mp h5
noncomputable def qP_154 : zPp := fun as σ o σ' => match as with
  | [a0, a1] => (∃ r, o = .inl (some (.int r)) ∧ p_154 (q_r a0) (q_i a1) σ (.inl r) σ') ∨ (o = .inr 2 ∧ p_154 (q_r a0) (q_i a1) σ (.inr 2) σ')
  | _ => True
set_option maxRecDepth 100000 in
theorem sp_154 {sx : zX} (S167 : zEe sx 167 2 qP_167) (S23 : zEe sx 23 2 qP_23) (S16 : zEe sx 16 2 qP_16) (S34 : zEe sx 34 2 qP_34) : zEe sx 154 2 qP_154 := by
  refine zfle zJ_154 (sps := [(167, 2, qP_167), (23, 2, qP_23), (16, 2, qP_16), (34, 2, qP_34)]) (fun q hq => by
    simp only [List.mem_cons, List.not_mem_nil, or_false] at hq
    rcases hq with rfl | rfl | rfl | rfl
    · exact S167
    · exact S23
    · exact S16
    · exact S34) (fun as σ hl => ?_)
  match as, hl with
  | [a0, a1], _ =>
  refine ⟨[(10, fun lo st τ => st = [] ∧ i_154 (q_r a0) (q_i a1) σ (q_r (lo 0)) (q_i (lo 1)) (q_i (lo 2)) τ)], 400, ?_, ?_⟩
  · intro q hq
    simp only [List.mem_cons, List.not_mem_nil, or_false] at hq
    rcases hq with rfl
    · rintro lo st τ ⟨rfl, hI⟩
      refine ⟨400, ?_⟩
      refine And.intro (fun h3 => ?_) (fun h3 => ?_)
      · exact Or.inl ⟨_, rfl, sp_154_c10_t (q_r a0) (q_i a1) σ (q_r (lo 0)) (q_i (lo 1)) (q_i (lo 2)) τ hI (cm4t h3)⟩
      · refine fun o4 τ4 g4 => ?_
        obtain ⟨r4, rfl, g4⟩ := g4
        refine And.intro (fun h5 => ?_) (fun h5 => ?_)
        · refine fun o6 τ6 g6 => ?_
          obtain ⟨r6, rfl, g6⟩ := g6
          exact ⟨rfl, sp_154_c10_ft (q_r a0) (q_i a1) σ (q_r (lo 0)) (q_i (lo 1)) (q_i (lo 2)) τ τ4 r4 τ6 r6 hI (cm4f h3) g4 (cm1t h5) g6⟩
        · exact Or.inl ⟨_, rfl, sp_154_c10_ff (q_r a0) (q_i a1) σ (q_r (lo 0)) (q_i (lo 1)) (q_i (lo 2)) τ τ4 r4 hI (cm4f h3) g4 (cm1f h5)⟩
  · refine fun o1 τ1 g1 => ?_
    rcases g1 with ⟨rfl, g1⟩ | ⟨rfl, g1⟩
    · refine fun o2 τ2 g2 => ?_
      obtain ⟨rfl, g2⟩ := g2
      exact ⟨rfl, sp_154_en (q_r a0) (q_i a1) σ τ1 τ2 g1 g2⟩
    · exact Or.inr (⟨rfl, sp_154_ex2_ (q_r a0) (q_i a1) σ τ1 g1⟩)
/-- the hour on which the heat is the greatest so far, and the heat -/
noncomputable def aWm (f : Nat → Int32) : Nat → Nat × Int32
  | 0 => (0, f 0)
  | n + 1 => if (aWm f n).2.toInt < (f (n + 1)).toInt then (n + 1, f (n + 1)) else aWm f n
theorem zJ_153 : zJ3 153 z_m153 z_c153 z_h153 := ⟨rfl, rfl, rfl⟩
noncomputable def p_153 (a : Nat) (n : Int32) (σ : zSg) (e : Int32 ⊕ Nat) (σ' : zSg) : Prop := a = 0 → ∀ A nf nt Lo, xDp σ A nf nt Lo → (¬ (1 ≤ n.toInt ∧ n.toInt ≤ 200) → e = .inr 0 ∧ σ' = σ) ∧ (∀ N, n = Int32.ofNat N → 1 ≤ N → N ≤ 200 → (∃ B, xDa σ σ' A B Lo) ∧ e = .inl (Int32.ofNat (aWm (fun i => (hHs Lo nt true A i).1 6) N).1))
noncomputable def i_153 (a : Nat) (n : Int32) (σ : zSg) (l0 : Nat) (l1 l2 l3 l4 : Int32) (τ : zSg) : Prop := l0 = a ∧ l1 = n ∧ (a = 0 → ∀ A nf nt Lo, xDp σ A nf nt Lo → ∃ N, n = Int32.ofNat N ∧ 1 ≤ N ∧ N ≤ 200 ∧ ∃ i, 1 ≤ i ∧ i ≤ N + 1 ∧ l4 = Int32.ofNat i ∧ xDa σ τ A (hHs Lo nt true A (i - 1)).1 Lo ∧ l2 = Int32.ofNat (aWm (fun i => (hHs Lo nt true A i).1 6) (i - 1)).1 ∧ l3 = (aWm (fun i => (hHs Lo nt true A i).1 6) (i - 1)).2)
theorem sp_153_en (a0 : Nat) (a1 : Int32) (σ : zSg) (τ1 : zSg) (τ2 : zSg) (g1 : p_170 a0 a1 (Int32.ofInt (1)) (Int32.ofInt (200)) σ (.inl 0) τ1) (g2 : p_23 (q_r (τ1.1 a0 3)) (q_r (τ1.1 a0 2)) τ1 τ2) :
    i_153 a0 a1 σ a0 a1 (Int32.ofInt (0)) (q_i (τ2.1 (q_r (τ2.1 a0 3)) 9)) (Int32.ofInt (1)) τ2 := by
  refine ⟨rfl, rfl, ?_⟩
  rintro rfl A nf nt Lo K
  have z0 : (Int32.ofInt 0).toInt = 0 := rfl
  have z1 : (Int32.ofInt 1).toInt = 1 := rfl
  have z2 : (Int32.ofInt 2).toInt = 2 := rfl
  have z99 : (Int32.ofInt 99).toInt = 99 := rfl
  have z200 : (Int32.ofInt 200).toInt = 200 := rfl
  obtain ⟨rfl, u, -⟩ := g1
  have u := u rfl
  have q0 := K.1.q
  rw [q0.2.1, q0.2.2.1] at g2
  have D := K.cp g2
  have qs := (D.1.sk K.1).q
  have y := D.2.1.p (hp_s (k := 6) (by omega) (by omega))
  simp only [Nat.reduceAdd] at y
  rw [qs.2.2.1, y]
  exact ⟨a1.toInt.toNat, Int32.toInt_inj.mp (by rw [o32 (by omega)]; omega), by omega, by omega, 1, by omega, by omega, rfl, D, rfl, rfl⟩
theorem sp_153_ex0_ (a0 : Nat) (a1 : Int32) (σ : zSg) (τ1 : zSg) (g1 : p_170 a0 a1 (Int32.ofInt (1)) (Int32.ofInt (200)) σ (.inr 0) τ1) :
    p_153 (a0) (a1) σ (.inr 0) τ1 := by
  rintro rfl A nf nt Lo K
  have z0 : (Int32.ofInt 0).toInt = 0 := rfl
  have z1 : (Int32.ofInt 1).toInt = 1 := rfl
  have z2 : (Int32.ofInt 2).toInt = 2 := rfl
  have z99 : (Int32.ofInt 99).toInt = 99 := rfl
  have z200 : (Int32.ofInt 200).toInt = 200 := rfl
  obtain ⟨rfl, -, u⟩ := g1
  have u := u rfl
  exact ⟨fun _ => ⟨rfl, rfl⟩, fun N e h1 h2 => absurd (by rw [e, o32 (by omega)]; omega) u⟩
theorem sp_153_c18_t (a0 : Nat) (a1 : Int32) (σ : zSg) (l0 : Nat) (l1 : Int32) (l2 : Int32) (l3 : Int32) (l4 : Int32) (τ : zSg) (hI : i_153 a0 a1 σ l0 l1 l2 l3 l4 τ) (h3 : l4.toInt > l1.toInt) :
    p_153 (a0) (a1) σ (.inl l2) τ := by
  obtain ⟨rfl, rfl, hI⟩ := hI
  rintro rfl A nf nt Lo K
  obtain ⟨N, rfl, h1, h200, i, hi1, hi, e4, D, ew⟩ := hI rfl A nf nt Lo K
  subst e4
  rw [o32 (by omega), o32 (by omega)] at h3
  have ei : i - 1 = N := by omega
  obtain ⟨rfl, rfl⟩ := ew
  refine ⟨fun q => absurd (by rw [o32 (by omega)]; omega) q, fun M eM g1 g2 => ?_⟩
  have h9 := congrArg Int32.toInt eM
  rw [o32 (by omega), o32 (by omega)] at h9
  have r1 : i - 1 = M := by omega
  rw [r1] at D ⊢
  exact ⟨⟨_, D⟩, rfl⟩
theorem sp_153_c18_ft (a0 : Nat) (a1 : Int32) (σ : zSg) (l0 : Nat) (l1 : Int32) (l2 : Int32) (l3 : Int32) (l4 : Int32) (τ : zSg) (τ4 : zSg) (r4 : Int32) (hI : i_153 a0 a1 σ l0 l1 l2 l3 l4 τ) (h3 : l4.toInt ≤ l1.toInt) (g4 : p_34 (q_r (τ.1 l0 3)) (Int32.ofInt (0)) τ r4 τ4) (h5 : (q_i (τ4.1 (q_r (τ4.1 l0 3)) 9)).toInt ≤ l3.toInt) :
    i_153 a0 a1 σ l0 l1 l2 l3 (l4 + Int32.ofInt (1)) τ4 := by
  obtain ⟨rfl, rfl, hI⟩ := hI
  refine ⟨rfl, rfl, ?_⟩
  rintro rfl A nf nt Lo K
  obtain ⟨N, rfl, h1, h200, i, hi1, hi, e4, D, ew⟩ := hI rfl A nf nt Lo K
  subst e4
  rw [o32 (by omega), o32 (by omega)] at h3
  have qs := (D.1.sk K.1).q
  have IA := K.2.2.2.1.hs (Lo := Lo) (calm := true) (i - 1)
  rw [qs.2.2.1] at g4
  obtain ⟨fE, KE, -⟩ := (g4 (by omega) _ nf nt Lo D.2.1 IA D.2.2).1 rfl
  have D' := D.st fE KE
  obtain ⟨k, rfl⟩ : ∃ k, i = k + 1 := ⟨i - 1, by omega⟩
  rw [Nat.add_sub_cancel] at D' ew
  have qt := (D'.1.sk K.1).q
  have y := D'.2.1.p (hp_s (k := 6) (by omega) (by omega))
  simp only [Nat.reduceAdd] at y
  obtain ⟨rfl, rfl⟩ := ew
  rw [qt.2.2.1, y] at h5
  have es : aWm (fun i => (hHs Lo nt true A i).1 6) (k + 1) = aWm (fun i => (hHs Lo nt true A i).1 6) k := if_neg (fun q => absurd q (Int.not_lt.mpr h5))
  refine ⟨N, rfl, h1, h200, k + 1 + 1, by omega, by omega, o32i (by omega), D', ?_, ?_⟩
  · rw [Nat.add_sub_cancel, es]
  · rw [Nat.add_sub_cancel, es]
theorem sp_153_c18_ff (a0 : Nat) (a1 : Int32) (σ : zSg) (l0 : Nat) (l1 : Int32) (l2 : Int32) (l3 : Int32) (l4 : Int32) (τ : zSg) (τ4 : zSg) (r4 : Int32) (hI : i_153 a0 a1 σ l0 l1 l2 l3 l4 τ) (h3 : l4.toInt ≤ l1.toInt) (g4 : p_34 (q_r (τ.1 l0 3)) (Int32.ofInt (0)) τ r4 τ4) (h5 : (q_i (τ4.1 (q_r (τ4.1 l0 3)) 9)).toInt > l3.toInt) :
    i_153 a0 a1 σ l0 l1 l4 (q_i (τ4.1 (q_r (τ4.1 l0 3)) 9)) (l4 + Int32.ofInt (1)) τ4 := by
  obtain ⟨rfl, rfl, hI⟩ := hI
  refine ⟨rfl, rfl, ?_⟩
  rintro rfl A nf nt Lo K
  obtain ⟨N, rfl, h1, h200, i, hi1, hi, e4, D, ew⟩ := hI rfl A nf nt Lo K
  subst e4
  rw [o32 (by omega), o32 (by omega)] at h3
  have qs := (D.1.sk K.1).q
  have IA := K.2.2.2.1.hs (Lo := Lo) (calm := true) (i - 1)
  rw [qs.2.2.1] at g4
  obtain ⟨fE, KE, -⟩ := (g4 (by omega) _ nf nt Lo D.2.1 IA D.2.2).1 rfl
  have D' := D.st fE KE
  obtain ⟨k, rfl⟩ : ∃ k, i = k + 1 := ⟨i - 1, by omega⟩
  rw [Nat.add_sub_cancel] at D' ew
  have qt := (D'.1.sk K.1).q
  have y := D'.2.1.p (hp_s (k := 6) (by omega) (by omega))
  simp only [Nat.reduceAdd] at y
  obtain ⟨rfl, rfl⟩ := ew
  rw [qt.2.2.1, y] at h5
  have es : aWm (fun i => (hHs Lo nt true A i).1 6) (k + 1) = (k + 1, (hHs Lo nt true A (k + 1)).1 6) := if_pos h5
  refine ⟨N, rfl, h1, h200, k + 1 + 1, by omega, by omega, o32i (by omega), D', ?_, ?_⟩
  · rw [Nat.add_sub_cancel, es]
  · rw [Nat.add_sub_cancel, es, qt.2.2.1, y]
    rfl
noncomputable def qP_153 : zPp := fun as σ o σ' => match as with
  | [a0, a1] => (∃ r, o = .inl (some (.int r)) ∧ p_153 (q_r a0) (q_i a1) σ (.inl r) σ') ∨ (o = .inr 0 ∧ p_153 (q_r a0) (q_i a1) σ (.inr 0) σ')
  | _ => True
set_option maxRecDepth 100000 in
theorem sp_153 {sx : zX} (S170 : zEe sx 170 4 qP_170) (S23 : zEe sx 23 2 qP_23) (S34 : zEe sx 34 2 qP_34) : zEe sx 153 2 qP_153 := by
  refine zfle zJ_153 (sps := [(170, 4, qP_170), (23, 2, qP_23), (34, 2, qP_34)]) (fun q hq => by
    simp only [List.mem_cons, List.not_mem_nil, or_false] at hq
    rcases hq with rfl | rfl | rfl
    · exact S170
    · exact S23
    · exact S34) (fun as σ hl => ?_)
  match as, hl with
  | [a0, a1], _ =>
  refine ⟨[(18, fun lo st τ => st = [] ∧ i_153 (q_r a0) (q_i a1) σ (q_r (lo 0)) (q_i (lo 1)) (q_i (lo 2)) (q_i (lo 3)) (q_i (lo 4)) τ)], 400, ?_, ?_⟩
  · intro q hq
    simp only [List.mem_cons, List.not_mem_nil, or_false] at hq
    rcases hq with rfl
    · rintro lo st τ ⟨rfl, hI⟩
      refine ⟨400, ?_⟩
      refine And.intro (fun h3 => ?_) (fun h3 => ?_)
      · exact Or.inl ⟨_, rfl, sp_153_c18_t (q_r a0) (q_i a1) σ (q_r (lo 0)) (q_i (lo 1)) (q_i (lo 2)) (q_i (lo 3)) (q_i (lo 4)) τ hI (cm4t h3)⟩
      · refine fun o4 τ4 g4 => ?_
        obtain ⟨r4, rfl, g4⟩ := g4
        refine And.intro (fun h5 => ?_) (fun h5 => ?_)
        · exact ⟨rfl, sp_153_c18_ft (q_r a0) (q_i a1) σ (q_r (lo 0)) (q_i (lo 1)) (q_i (lo 2)) (q_i (lo 3)) (q_i (lo 4)) τ τ4 r4 hI (cm4f h3) g4 (cm5t h5)⟩
        · exact ⟨rfl, sp_153_c18_ff (q_r a0) (q_i a1) σ (q_r (lo 0)) (q_i (lo 1)) (q_i (lo 2)) (q_i (lo 3)) (q_i (lo 4)) τ τ4 r4 hI (cm4f h3) g4 (cm5f h5)⟩
  · refine fun o1 τ1 g1 => ?_
    rcases g1 with ⟨rfl, g1⟩ | ⟨rfl, g1⟩
    · refine fun o2 τ2 g2 => ?_
      obtain ⟨rfl, g2⟩ := g2
      exact ⟨rfl, sp_153_en (q_r a0) (q_i a1) σ τ1 τ2 g1 g2⟩
    · exact Or.inr (⟨rfl, sp_153_ex0_ (q_r a0) (q_i a1) σ τ1 g1⟩)
theorem zJ_38 : zJ3 38 z_m38 z_c38 z_h38 := ⟨rfl, rfl, rfl⟩
theorem zJ_19 : zJ3 19 z_m19 z_c19 z_h19 := ⟨rfl, rfl, rfl⟩
theorem zJ_157 : zJ3 157 z_m157 z_c157 z_h157 := ⟨rfl, rfl, rfl⟩
end
section
/-! what the reference sees of hours ahead, exact; printed with wip/gen/gen_dl.py -/
noncomputable def rDp (σ : zSg) (A : Nat → Int32) (nf nt : Nat) (Lo : Option (Nat × List gLn4 × zSs)) : Prop := rSk σ ∧ rEv σ A nt Lo ∧ aI nf nt A
/-- the world was kept aside -/
noncomputable def rKp (σ τ : zSg) (A B : Nat → Int32) : Prop := τ.2 = σ.2 ∧ (∀ c k, ¬ (c = 205 ∧ k = 0) → ¬ (c = 206 ∧ k < 388) → c ≠ 209 → c ≠ 213 → τ.1 c k = σ.1 c k) ∧ τ.1 205 0 = .int (Int32.ofInt 0) ∧ (∀ k, k < 388 → τ.1 209 k = .int (A k)) ∧ rW τ B
/-- and brought back -/
noncomputable def rKF (σ σ' : zSg) : Prop := σ'.2 = σ.2 ∧ (∀ c k, ¬ (c = 205 ∧ k = 0) → c ≠ 209 → c ≠ 213 → σ'.1 c k = σ.1 c k) ∧ σ'.1 205 0 = .int (Int32.ofInt 0)
section RKP
variable {σ τ υ : zSg} {A B B' : Nat → Int32} {nf nt : Nat} {Lo : Option (Nat × List gLn4 × zSs)}
theorem rKp.mk (K : rDp σ A nf nt Lo) (G : p_266 205 (r0 σ) τ) : rKp σ τ A A := by
  obtain ⟨k1, k2, k3⟩ := K
  have w0 : rW (r0 σ) A := k2.1.el (by omega)
  have e := G rfl (k1.w (Or.inl rfl))
  subst e
  refine ⟨rfl, fun c k q1 q2 q3 q4 => ?_, ?_, fun k hk => ?_, ⟨?_, fun k hk => ?_⟩⟩
  · rw [rCy_ne (fun q => q3 q.1)]; exact q_w_ne (fun e1 e2 => q1 ⟨e1, e2⟩)
  · rw [rCy_ne (fun q => by omega)]; exact q_w_at _ _ _ _
  · show (if 209 = 209 ∧ 0 ≤ k ∧ k < 0 + 388 then Value.int (q_i ((r0 σ).1 206 (0 + (k - 0)))) else _) = _
    rw [if_pos ⟨rfl, by omega, by omega⟩, show 0 + (k - 0) = k by omega, w0.2 k hk]
    rfl
  · rw [rCy_ne (fun q => by omega)]; exact w0.1
  · rw [rCy_ne (fun q => by omega)]; exact w0.2 k hk
theorem rKp.st (K : rKp σ τ A B) (f : rHF τ υ) (W : rW υ B') : rKp σ υ A B' := by
  obtain ⟨k1, k2, k3, k4, k5⟩ := K
  exact ⟨f.1.trans k1, fun c k q1 q2 q3 q4 => (f.2 c k q2 q4).trans (k2 c k q1 q2 q3 q4), (f.2 _ _ (by omega) (by omega)).trans k3, fun k hk => (f.2 _ _ (by omega) (by omega)).trans (k4 k hk), W⟩
theorem rKp.ev (K : rKp σ τ A B) (D : rDp σ A nf nt Lo) (I : aI nf nt B) (h3 : B 3 = A 3) : rEv τ B nt Lo := by
  obtain ⟨k1, k2, k3, k4, k5⟩ := K
  obtain ⟨a1, a2, a3, a4, a5, a6⟩ := D.2.1
  refine ⟨k5, (k2 _ _ (by omega) (by omega) (by omega) (by omega)).trans a2, I.1.2.2.1, a4, fun t ht q => ?_, a6.of (fun k hk => k2 _ _ (by omega) (by omega) (by omega) (by omega)) h3⟩
  have k6 := I.1.2.1
  obtain ⟨F, hF, e⟩ := I.2.2.1 t ht
  rw [e] at q
  have := congrArg Int32.toInt q
  rw [o32 (by omega), show (Int32.ofInt (-1)).toInt = -1 from rfl] at this
  omega
theorem rKp.bb (K : rKp σ τ A B) (D : rDp σ A nf nt Lo) (G : p_267 205 τ υ) : rKp σ υ A A := by
  obtain ⟨k1, k2, k3, k4, k5⟩ := K
  have s : rSk τ := by
    obtain ⟨s1, s2, s3, s4, s5⟩ := D.1
    exact ⟨k5.1, (k2 _ _ (by omega) (by omega) (by omega) (by omega)).trans s2, (k2 _ _ (by omega) (by omega) (by omega) (by omega)).trans s3, (k2 _ _ (by omega) (by omega) (by omega) (by omega)).trans s4, (k2 _ _ (by omega) (by omega) (by omega) (by omega)).trans s5⟩
  have e := G rfl s
  subst e
  refine ⟨k1, fun c k q1 q2 q3 q4 => ?_, ?_, fun k hk => ?_, ⟨?_, fun k hk => ?_⟩⟩
  · rw [rCy_ne (fun q => q2 ⟨q.1, by omega⟩)]; exact k2 c k q1 q2 q3 q4
  · rw [rCy_ne (fun q => by omega)]; exact k3
  · rw [rCy_ne (fun q => by omega)]; exact k4 k hk
  · rw [rCy_ne (fun q => by omega)]; exact k5.1
  · show (if 206 = 206 ∧ 0 ≤ k ∧ k < 0 + 388 then Value.int (q_i (τ.1 209 (0 + (k - 0)))) else _) = _
    rw [if_pos ⟨rfl, by omega, by omega⟩, show 0 + (k - 0) = k by omega, k4 k hk]
    rfl
theorem rKp.fin (K : rKp σ τ A A) (D : rDp σ A nf nt Lo) : rKF σ τ := by
  obtain ⟨k1, k2, k3, k4, k5⟩ := K
  refine ⟨k1, fun c k q1 q3 q4 => ?_, k3⟩
  by_cases q : c = 206 ∧ k < 388
  · obtain ⟨rfl, hk⟩ := q
    rw [k5.2 k hk, D.2.1.1.2 k hk]
  · exact k2 c k q1 q q3 q4
theorem aI.sd (K : aI nf nt A) {x : Int32} : aI nf nt (aU A 15 x) := K.of (fun k hk => aU_ne (by omega)) (fun t h1 h2 => (aU_ne (by omega)).trans (K.1.2.2.2.2 t h1 h2)) (by rw [aU_ne (by omega)]; exact K.2.2.2.2.1) (by rw [aU_ne (by omega)]; exact K.2.2.2.2.2.1) (by rw [aU_ne (by omega)]; exact K.2.2.2.2.2.2.1)
end RKP
theorem zJ_270 : zJ3 270 z_m270 z_c270 z_h270 := ⟨rfl, rfl, rfl⟩
noncomputable def p_270 (a : Nat) (n w : Int32) (σ : zSg) (r : Int32) (σ' : zSg) : Prop := a = 205 → ∀ A nf nt Lo, rDp σ A nf nt Lo → (¬ (0 ≤ n.toInt ∧ n.toInt ≤ 200) → r = Int32.ofInt 0 ∧ σ' = rTh σ 1) ∧ ((0 ≤ n.toInt ∧ n.toInt ≤ 200) → ¬ (0 ≤ w.toInt ∧ w.toInt ≤ 2) → r = Int32.ofInt 0 ∧ σ' = rTh σ 2) ∧ (∀ N, n = Int32.ofNat N → N ≤ 200 → (0 ≤ w.toInt ∧ w.toInt ≤ 2) → rKF σ σ' ∧ (w.toInt = 0 → r = (hHs Lo nt true A N).1 6) ∧ (w.toInt = 1 → r = (hHs Lo nt true A N).1 7) ∧ (w.toInt = 2 → r = (hHs Lo nt true A N).1 (16 + hN (hHs Lo nt true A N).1)))
theorem sp_270_etttt (a0 : Nat) (a1 : Int32) (a2 : Int32) (σ : zSg) (τ1 : zSg) (r1 : Int32) (τ5 : zSg) (r5 : Int32) (τ9 : zSg) (τ10 : zSg) (r10 : Int32) (τ13 : zSg) (r13 : Int32) (τ14 : zSg) (g1 : p_177 a1 (Int32.ofInt (0)) (Int32.ofInt (200)) (q_w σ a0 0 (.int (Int32.ofInt (0)))) r1 τ1) (h2 : r1.toInt ≠ (0 : Int)) (g5 : p_177 a2 (Int32.ofInt (0)) (Int32.ofInt (2)) τ1 r5 τ5) (h6 : r5.toInt ≠ (0 : Int)) (g9 : p_266 a0 τ5 τ9) (g10 : p_268 a0 a1 (Int32.ofInt (1)) τ9 r10 τ10) (h11 : a2.toInt ≠ (0 : Int)) (h12 : a2.toInt ≠ (1 : Int)) (g13 : p_188 a0 τ10 r13 τ13) (g14 : p_267 a0 τ13 τ14) :
    p_270 (a0) (a1) (a2) σ r13 τ14 := by
  rintro rfl A nf nt Lo K
  have z0 : (Int32.ofInt 0).toInt = 0 := rfl
  have z1 : (Int32.ofInt 1).toInt = 1 := rfl
  have z2 : (Int32.ofInt 2).toInt = 2 := rfl
  have z99 : (Int32.ofInt 99).toInt = 99 := rfl
  have z200 : (Int32.ofInt 200).toInt = 200 := rfl
  obtain ⟨e0, e1⟩ := g1
  have e0 : τ1 = r0 σ := e0
  subst e0
  have u := e1.mp h2
  obtain ⟨e2, f2⟩ := g5
  subst e2
  have v := f2.mp h6
  have D := rKp.mk K g9
  have G4 := g10 rfl A nf nt Lo a1.toInt.toNat true (D.ev K K.2.2 rfl) K.2.2 (Int32.toInt_inj.mp (by rw [o32 (by omega)]; omega)) (by omega) (Or.inr ⟨by decide, rfl⟩)
  obtain ⟨f4, K4, -⟩ := G4
  have D4 := D.st f4 K4
  have IA := K.2.2.hs (Lo := Lo) (calm := true) a1.toInt.toNat
  refine ⟨fun q => absurd u q, fun _ q => absurd v q, fun N eN hN hw => ?_⟩
  have eM : a1.toInt.toNat = N := by
    rw [eN, o32 (by omega)]
    omega
  rw [eM] at D4 K4 IA
  obtain ⟨hn', e4', -⟩ := IA.in
  obtain ⟨e5, g5⟩ := g13
  subst e5
  have R := (D4.bb K g14).fin K
  exact ⟨R, fun q => absurd q (by omega), fun q => absurd q (by omega), fun _ => g5 rfl _ K4 _ e4' hn'⟩
theorem sp_270_etttf (a0 : Nat) (a1 : Int32) (a2 : Int32) (σ : zSg) (τ1 : zSg) (r1 : Int32) (τ5 : zSg) (r5 : Int32) (τ9 : zSg) (τ10 : zSg) (r10 : Int32) (τ16 : zSg) (g1 : p_177 a1 (Int32.ofInt (0)) (Int32.ofInt (200)) (q_w σ a0 0 (.int (Int32.ofInt (0)))) r1 τ1) (h2 : r1.toInt ≠ (0 : Int)) (g5 : p_177 a2 (Int32.ofInt (0)) (Int32.ofInt (2)) τ1 r5 τ5) (h6 : r5.toInt ≠ (0 : Int)) (g9 : p_266 a0 τ5 τ9) (g10 : p_268 a0 a1 (Int32.ofInt (1)) τ9 r10 τ10) (h11 : a2.toInt ≠ (0 : Int)) (h12 : a2.toInt = (1 : Int)) (h15 : 0 ≤ (Int32.ofInt (7)).toInt ∧ (Int32.ofInt (7)).toInt < (τ10.2.1 (q_r (τ10.1 a0 1)) : Int)) (g16 : p_267 a0 τ10 τ16) :
    p_270 (a0) (a1) (a2) σ (q_i (τ10.1 (q_r (τ10.1 a0 1)) (Int32.ofInt (7)).toNatClampNeg)) τ16 := by
  rintro rfl A nf nt Lo K
  have z0 : (Int32.ofInt 0).toInt = 0 := rfl
  have z1 : (Int32.ofInt 1).toInt = 1 := rfl
  have z2 : (Int32.ofInt 2).toInt = 2 := rfl
  have z99 : (Int32.ofInt 99).toInt = 99 := rfl
  have z200 : (Int32.ofInt 200).toInt = 200 := rfl
  obtain ⟨e0, e1⟩ := g1
  have e0 : τ1 = r0 σ := e0
  subst e0
  have u := e1.mp h2
  obtain ⟨e2, f2⟩ := g5
  subst e2
  have v := f2.mp h6
  have D := rKp.mk K g9
  have G4 := g10 rfl A nf nt Lo a1.toInt.toNat true (D.ev K K.2.2 rfl) K.2.2 (Int32.toInt_inj.mp (by rw [o32 (by omega)]; omega)) (by omega) (Or.inr ⟨by decide, rfl⟩)
  obtain ⟨f4, K4, -⟩ := G4
  have D4 := D.st f4 K4
  have IA := K.2.2.hs (Lo := Lo) (calm := true) a1.toInt.toNat
  refine ⟨fun q => absurd u q, fun _ q => absurd v q, fun N eN hN hw => ?_⟩
  have eM : a1.toInt.toNat = N := by
    rw [eN, o32 (by omega)]
    omega
  rw [eM] at D4 K4 IA
  have R := (D4.bb K g16).fin K
  rw [K4.q, kz7, K4.i (k := 7) (by omega)]
  exact ⟨R, fun q => absurd q (by omega), fun _ => rfl, fun q => absurd q (by omega)⟩
theorem sp_270_ettf (a0 : Nat) (a1 : Int32) (a2 : Int32) (σ : zSg) (τ1 : zSg) (r1 : Int32) (τ5 : zSg) (r5 : Int32) (τ9 : zSg) (τ10 : zSg) (r10 : Int32) (τ18 : zSg) (g1 : p_177 a1 (Int32.ofInt (0)) (Int32.ofInt (200)) (q_w σ a0 0 (.int (Int32.ofInt (0)))) r1 τ1) (h2 : r1.toInt ≠ (0 : Int)) (g5 : p_177 a2 (Int32.ofInt (0)) (Int32.ofInt (2)) τ1 r5 τ5) (h6 : r5.toInt ≠ (0 : Int)) (g9 : p_266 a0 τ5 τ9) (g10 : p_268 a0 a1 (Int32.ofInt (1)) τ9 r10 τ10) (h11 : a2.toInt = (0 : Int)) (h17 : 0 ≤ (Int32.ofInt (6)).toInt ∧ (Int32.ofInt (6)).toInt < (τ10.2.1 (q_r (τ10.1 a0 1)) : Int)) (g18 : p_267 a0 τ10 τ18) :
    p_270 (a0) (a1) (a2) σ (q_i (τ10.1 (q_r (τ10.1 a0 1)) (Int32.ofInt (6)).toNatClampNeg)) τ18 := by
  rintro rfl A nf nt Lo K
  have z0 : (Int32.ofInt 0).toInt = 0 := rfl
  have z1 : (Int32.ofInt 1).toInt = 1 := rfl
  have z2 : (Int32.ofInt 2).toInt = 2 := rfl
  have z99 : (Int32.ofInt 99).toInt = 99 := rfl
  have z200 : (Int32.ofInt 200).toInt = 200 := rfl
  obtain ⟨e0, e1⟩ := g1
  have e0 : τ1 = r0 σ := e0
  subst e0
  have u := e1.mp h2
  obtain ⟨e2, f2⟩ := g5
  subst e2
  have v := f2.mp h6
  have D := rKp.mk K g9
  have G4 := g10 rfl A nf nt Lo a1.toInt.toNat true (D.ev K K.2.2 rfl) K.2.2 (Int32.toInt_inj.mp (by rw [o32 (by omega)]; omega)) (by omega) (Or.inr ⟨by decide, rfl⟩)
  obtain ⟨f4, K4, -⟩ := G4
  have D4 := D.st f4 K4
  have IA := K.2.2.hs (Lo := Lo) (calm := true) a1.toInt.toNat
  refine ⟨fun q => absurd u q, fun _ q => absurd v q, fun N eN hN hw => ?_⟩
  have eM : a1.toInt.toNat = N := by
    rw [eN, o32 (by omega)]
    omega
  rw [eM] at D4 K4 IA
  have R := (D4.bb K g18).fin K
  rw [K4.q, kz6, K4.i (k := 6) (by omega)]
  exact ⟨R, fun _ => rfl, fun q => absurd q (by omega), fun q => absurd q (by omega)⟩
theorem sp_270_etf (a0 : Nat) (a1 : Int32) (a2 : Int32) (σ : zSg) (τ1 : zSg) (r1 : Int32) (τ5 : zSg) (r5 : Int32) (g1 : p_177 a1 (Int32.ofInt (0)) (Int32.ofInt (200)) (q_w σ a0 0 (.int (Int32.ofInt (0)))) r1 τ1) (h2 : r1.toInt ≠ (0 : Int)) (g5 : p_177 a2 (Int32.ofInt (0)) (Int32.ofInt (2)) τ1 r5 τ5) (h6 : r5.toInt = (0 : Int)) :
    p_270 (a0) (a1) (a2) σ (Int32.ofInt (0)) (q_w τ5 a0 0 (.int (Int32.ofInt (2)))) := by
  rintro rfl A nf nt Lo K
  have z0 : (Int32.ofInt 0).toInt = 0 := rfl
  have z1 : (Int32.ofInt 1).toInt = 1 := rfl
  have z2 : (Int32.ofInt 2).toInt = 2 := rfl
  have z99 : (Int32.ofInt 99).toInt = 99 := rfl
  have z200 : (Int32.ofInt 200).toInt = 200 := rfl
  obtain ⟨e0, e1⟩ := g1
  have e0 : τ1 = r0 σ := e0
  subst e0
  have u := e1.mp h2
  obtain ⟨e2, f2⟩ := g5
  subst e2
  exact ⟨fun q => absurd u q, fun _ _ => ⟨rfl, r0_T⟩, fun N e h q => absurd (f2.mpr q) (by omega)⟩
theorem sp_270_ef (a0 : Nat) (a1 : Int32) (a2 : Int32) (σ : zSg) (τ1 : zSg) (r1 : Int32) (g1 : p_177 a1 (Int32.ofInt (0)) (Int32.ofInt (200)) (q_w σ a0 0 (.int (Int32.ofInt (0)))) r1 τ1) (h2 : r1.toInt = (0 : Int)) :
    p_270 (a0) (a1) (a2) σ (Int32.ofInt (0)) (q_w τ1 a0 0 (.int (Int32.ofInt (1)))) := by
  rintro rfl A nf nt Lo K
  have z0 : (Int32.ofInt 0).toInt = 0 := rfl
  have z1 : (Int32.ofInt 1).toInt = 1 := rfl
  have z2 : (Int32.ofInt 2).toInt = 2 := rfl
  have z99 : (Int32.ofInt 99).toInt = 99 := rfl
  have z200 : (Int32.ofInt 200).toInt = 200 := rfl
  obtain ⟨e0, e1⟩ := g1
  have e0 : τ1 = r0 σ := e0
  subst e0
  exact ⟨fun _ => ⟨rfl, r0_T⟩, fun q => absurd (e1.mpr q) (by omega), fun N e h => absurd (e1.mpr (by rw [e, o32 (by omega)]; omega)) (by omega)⟩
noncomputable def qP_270 : zPp := fun as σ o σ' => match as with
  | [a0, a1, a2] => ∃ r, o = .inl (some (.int r)) ∧ p_270 (q_r a0) (q_i a1) (q_i a2) σ r σ'
  | _ => True
set_option maxRecDepth 100000 in
theorem sp_270 {sx : zX} (S177 : zEe sx 177 3 qP_177) (S176 : zEe sx 176 3 qP_176) (S266 : zEe sx 266 1 qP_266) (S268 : zEe sx 268 3 qP_268) (S188 : zEe sx 188 1 qP_188) (S267 : zEe sx 267 1 qP_267) : zEe sx 270 3 qP_270 := by
  refine zfle zJ_270 (sps := [(177, 3, qP_177), (176, 3, qP_176), (266, 1, qP_266), (268, 3, qP_268), (188, 1, qP_188), (267, 1, qP_267)]) (fun q hq => by
    simp only [List.mem_cons, List.not_mem_nil, or_false] at hq
    rcases hq with rfl | rfl | rfl | rfl | rfl | rfl
    · exact S177
    · exact S176
    · exact S266
    · exact S268
    · exact S188
    · exact S267) (fun as σ hl => ?_)
  match as, hl with
  | [a0, a1, a2], _ =>
  refine ⟨[], 400, ?_, ?_⟩
  · exact fun q hq => absurd hq List.not_mem_nil
  · refine fun o1 τ1 g1 => ?_
    obtain ⟨r1, rfl, g1⟩ := g1
    refine And.intro (fun h2 => ?_) (fun h2 => ?_)
    · refine fun o3 τ3 g3 => ?_
      obtain ⟨r3, rfl, rfl, y3, z3⟩ := g3
      have e3 := (z3 rfl).symm
      subst e3
      refine And.intro (fun h4 => absurd (show z_cmp 1 (Int32.ofInt (0)) 0 = true from h4) (by decide)) (fun _ => ?_)
      refine fun o5 τ5 g5 => ?_
      obtain ⟨r5, rfl, g5⟩ := g5
      refine And.intro (fun h6 => ?_) (fun h6 => ?_)
      · refine fun o7 τ7 g7 => ?_
        obtain ⟨r7, rfl, rfl, y7, z7⟩ := g7
        have e7 := (z7 rfl).symm
        subst e7
        refine And.intro (fun _ => ?_) (fun h8 => absurd (show z_cmp 0 (Int32.ofInt (0)) 0 = false from h8) (by decide))
        refine fun o9 τ9 g9 => ?_
        obtain ⟨rfl, g9⟩ := g9
        refine fun o10 τ10 g10 => ?_
        obtain ⟨r10, rfl, g10⟩ := g10
        refine And.intro (fun h11 => ?_) (fun h11 => ?_)
        · refine And.intro (fun h12 => ?_) (fun h12 => ?_)
          · refine fun o13 τ13 g13 => ?_
            obtain ⟨r13, rfl, g13⟩ := g13
            refine fun o14 τ14 g14 => ?_
            obtain ⟨rfl, g14⟩ := g14
            exact ⟨_, rfl, sp_270_etttt (q_r a0) (q_i a1) (q_i a2) σ τ1 r1 τ5 r5 τ9 τ10 r10 τ13 r13 τ14 g1 (cm1t h2) g5 (cm1t h6) g9 g10 (cm1t h11) (cm1t h12) g13 g14⟩
          · refine fun h15 => ?_
            refine fun o16 τ16 g16 => ?_
            obtain ⟨rfl, g16⟩ := g16
            exact ⟨_, rfl, sp_270_etttf (q_r a0) (q_i a1) (q_i a2) σ τ1 r1 τ5 r5 τ9 τ10 r10 τ16 g1 (cm1t h2) g5 (cm1t h6) g9 g10 (cm1t h11) (cm1f h12) (q_inp h15) g16⟩
        · refine fun h17 => ?_
          refine fun o18 τ18 g18 => ?_
          obtain ⟨rfl, g18⟩ := g18
          exact ⟨_, rfl, sp_270_ettf (q_r a0) (q_i a1) (q_i a2) σ τ1 r1 τ5 r5 τ9 τ10 r10 τ18 g1 (cm1t h2) g5 (cm1t h6) g9 g10 (cm1f h11) (q_inp h17) g18⟩
      · refine fun o19 τ19 g19 => ?_
        obtain ⟨r19, rfl, rfl, y19, z19⟩ := g19
        have e19 := (y19 (by decide)).symm
        subst e19
        refine And.intro (fun h20 => absurd (show z_cmp 0 (Int32.ofInt (1)) 0 = true from h20) (by decide)) (fun _ => ?_)
        exact ⟨_, rfl, sp_270_etf (q_r a0) (q_i a1) (q_i a2) σ τ1 r1 τ5 r5 g1 (cm1t h2) g5 (cm1f h6)⟩
    · refine fun o21 τ21 g21 => ?_
      obtain ⟨r21, rfl, rfl, y21, z21⟩ := g21
      have e21 := (y21 (by decide)).symm
      subst e21
      refine And.intro (fun _ => ?_) (fun h22 => absurd (show z_cmp 1 (Int32.ofInt (1)) 0 = false from h22) (by decide))
      exact ⟨_, rfl, sp_270_ef (q_r a0) (q_i a1) (q_i a2) σ τ1 r1 g1 (cm1f h2)⟩
theorem zJ_271 : zJ3 271 z_m271 z_c271 z_h271 := ⟨rfl, rfl, rfl⟩
noncomputable def p_271 (a : Nat) (n : Int32) (σ : zSg) (r : Int32) (σ' : zSg) : Prop := a = 205 → ∀ A nf nt Lo, rDp σ A nf nt Lo → (¬ (1 ≤ n.toInt ∧ n.toInt ≤ 99) → r = Int32.ofInt 0 ∧ σ' = rTh σ 1) ∧ ((1 ≤ n.toInt ∧ n.toInt ≤ 99) → rKF σ σ' ∧ aFst (fun i => n.toInt ≤ ((hHs Lo nt true A i).1 7).toInt) r)
noncomputable def i_271 (a : Nat) (n : Int32) (σ : zSg) (l0 : Nat) (l1 l2 l3 : Int32) (τ : zSg) : Prop := l0 = a ∧ l1 = n ∧ (a = 205 → ∀ A nf nt Lo, rDp σ A nf nt Lo → (1 ≤ n.toInt ∧ n.toInt ≤ 99) ∧ ∃ N, N ≤ 201 ∧ l3 = Int32.ofNat N ∧ rKp σ τ A (hHs Lo nt true A N).1 ∧ ((l2 = Int32.ofInt (-1) ∧ ∀ i, i < N → ¬ n.toInt ≤ ((hHs Lo nt true A i).1 7).toInt) ∨ ∃ k, N = k + 1 ∧ k ≤ 200 ∧ l2 = Int32.ofNat k ∧ n.toInt ≤ ((hHs Lo nt true A k).1 7).toInt ∧ ∀ i, i < k → ¬ n.toInt ≤ ((hHs Lo nt true A i).1 7).toInt))
theorem sp_271_et (a0 : Nat) (a1 : Int32) (σ : zSg) (τ1 : zSg) (r1 : Int32) (τ5 : zSg) (g1 : p_177 a1 (Int32.ofInt (1)) (Int32.ofInt (99)) (q_w σ a0 0 (.int (Int32.ofInt (0)))) r1 τ1) (h2 : r1.toInt ≠ (0 : Int)) (g5 : p_266 a0 τ1 τ5) :
    i_271 a0 a1 σ a0 a1 (Int32.ofInt (-1)) (Int32.ofInt (0)) τ5 := by
  refine ⟨rfl, rfl, ?_⟩
  rintro rfl A nf nt Lo K
  have z0 : (Int32.ofInt 0).toInt = 0 := rfl
  have z1 : (Int32.ofInt 1).toInt = 1 := rfl
  have z2 : (Int32.ofInt 2).toInt = 2 := rfl
  have z99 : (Int32.ofInt 99).toInt = 99 := rfl
  have z200 : (Int32.ofInt 200).toInt = 200 := rfl
  obtain ⟨e0, e1⟩ := g1
  have e0 : τ1 = r0 σ := e0
  subst e0
  have u := e1.mp h2
  exact ⟨u, 0, by omega, rfl, rKp.mk K g5, Or.inl ⟨rfl, fun i hi => absurd hi (by omega)⟩⟩
theorem sp_271_ef (a0 : Nat) (a1 : Int32) (σ : zSg) (τ1 : zSg) (r1 : Int32) (g1 : p_177 a1 (Int32.ofInt (1)) (Int32.ofInt (99)) (q_w σ a0 0 (.int (Int32.ofInt (0)))) r1 τ1) (h2 : r1.toInt = (0 : Int)) :
    p_271 (a0) (a1) σ (Int32.ofInt (0)) (q_w τ1 a0 0 (.int (Int32.ofInt (1)))) := by
  rintro rfl A nf nt Lo K
  have z0 : (Int32.ofInt 0).toInt = 0 := rfl
  have z1 : (Int32.ofInt 1).toInt = 1 := rfl
  have z2 : (Int32.ofInt 2).toInt = 2 := rfl
  have z99 : (Int32.ofInt 99).toInt = 99 := rfl
  have z200 : (Int32.ofInt 200).toInt = 200 := rfl
  obtain ⟨e0, e1⟩ := g1
  have e0 : τ1 = r0 σ := e0
  subst e0
  exact ⟨fun _ => ⟨rfl, r0_T⟩, fun q => absurd (e1.mpr q) (by omega)⟩
theorem sp_271_c23_t (a0 : Nat) (a1 : Int32) (σ : zSg) (l0 : Nat) (l1 : Int32) (l2 : Int32) (l3 : Int32) (τ : zSg) (τ9 : zSg) (hI : i_271 a0 a1 σ l0 l1 l2 l3 τ) (h8 : l3.toInt > (200 : Int)) (g9 : p_267 l0 τ τ9) :
    p_271 (a0) (a1) σ l2 τ9 := by
  obtain ⟨rfl, rfl, hI⟩ := hI
  rintro rfl A nf nt Lo K
  obtain ⟨RNG, N, hN2, rfl, D, hF⟩ := hI rfl A nf nt Lo K
  have z200 : (Int32.ofInt 200).toInt = 200 := rfl
  have q1 : (Int32.ofInt (-1)).toInt = -1 := rfl
  rw [o32 (by omega)] at h8
  have R := (D.bb K g9).fin K
  have hf : aFst (fun i => l1.toInt ≤ ((hHs Lo nt true A i).1 7).toInt) l2 := by
    rcases hF with ⟨h1, h2⟩ | ⟨k, h1, h2, h3, h4, h5⟩
    · exact Or.inr ⟨h1, fun i hi => h2 i (by omega)⟩
    · exact Or.inl ⟨k, h2, h3, h4, h5⟩
  exact ⟨fun q => absurd RNG q, fun _ => ⟨R, hf⟩⟩
theorem sp_271_c23_ft (a0 : Nat) (a1 : Int32) (σ : zSg) (l0 : Nat) (l1 : Int32) (l2 : Int32) (l3 : Int32) (τ : zSg) (τ11 : zSg) (hI : i_271 a0 a1 σ l0 l1 l2 l3 τ) (h8 : l3.toInt ≤ (200 : Int)) (h10 : l2.toInt ≠ (-1 : Int)) (g11 : p_267 l0 τ τ11) :
    p_271 (a0) (a1) σ l2 τ11 := by
  obtain ⟨rfl, rfl, hI⟩ := hI
  rintro rfl A nf nt Lo K
  obtain ⟨RNG, N, hN2, rfl, D, hF⟩ := hI rfl A nf nt Lo K
  have z200 : (Int32.ofInt 200).toInt = 200 := rfl
  have q1 : (Int32.ofInt (-1)).toInt = -1 := rfl
  rw [o32 (by omega)] at h8
  have R := (D.bb K g11).fin K
  have hf : aFst (fun i => l1.toInt ≤ ((hHs Lo nt true A i).1 7).toInt) l2 := by
    rcases hF with ⟨h1, h2⟩ | ⟨k, h1, h2, h3, h4, h5⟩
    · exact absurd (by rw [h1]; rfl) h10
    · exact Or.inl ⟨k, h2, h3, h4, h5⟩
  exact ⟨fun q => absurd RNG q, fun _ => ⟨R, hf⟩⟩
theorem sp_271_c23_fft (a0 : Nat) (a1 : Int32) (σ : zSg) (l0 : Nat) (l1 : Int32) (l2 : Int32) (l3 : Int32) (τ : zSg) (τ14 : zSg) (r14 : Int32) (hI : i_271 a0 a1 σ l0 l1 l2 l3 τ) (h8 : l3.toInt ≤ (200 : Int)) (h10 : l2.toInt = (-1 : Int)) (h12 : 0 ≤ (Int32.ofInt (7)).toInt ∧ (Int32.ofInt (7)).toInt < (τ.2.1 (q_r (τ.1 l0 1)) : Int)) (h13 : (q_i (τ.1 (q_r (τ.1 l0 1)) (Int32.ofInt (7)).toNatClampNeg)).toInt < l1.toInt) (g14 : p_265 l0 (Int32.ofInt (1)) τ r14 τ14) :
    i_271 a0 a1 σ l0 l1 (Int32.ofInt (-1)) (l3 + Int32.ofInt (1)) τ14 := by
  obtain ⟨rfl, rfl, hI⟩ := hI
  refine ⟨rfl, rfl, ?_⟩
  rintro rfl A nf nt Lo K
  obtain ⟨RNG, N, hN2, rfl, D, hF⟩ := hI rfl A nf nt Lo K
  have z200 : (Int32.ofInt 200).toInt = 200 := rfl
  have q1 : (Int32.ofInt (-1)).toInt = -1 := rfl
  rw [o32 (by omega)] at h8
  obtain ⟨hm1, hno⟩ : l2 = Int32.ofInt (-1) ∧ ∀ i, i < N → ¬ l1.toInt ≤ ((hHs Lo nt true A i).1 7).toInt := by
    rcases hF with hF | ⟨k, h1, h2, h3, h4, h5⟩
    · exact hF
    · rw [h3, o32 (by omega)] at h10
      exact absurd h10 (by omega)
  have IA := K.2.2.hs (Lo := Lo) (calm := true) N
  have EV := D.ev K IA (hHs_k K.2.2 (by omega) N)
  obtain ⟨fH, KH, -⟩ := (g14 rfl _ nf nt Lo EV IA).2 (by decide)
  have D' := D.st fH KH
  rw [D.2.2.2.2.q, kz7, D.2.2.2.2.i (k := 7) (by omega)] at h13
  refine ⟨RNG, N + 1, by omega, o32i (by omega), D', Or.inl ⟨rfl, fun i hi => ?_⟩⟩
  by_cases q : i = N
  · rw [q]; omega
  · exact hno i (by omega)
theorem sp_271_c23_fff (a0 : Nat) (a1 : Int32) (σ : zSg) (l0 : Nat) (l1 : Int32) (l2 : Int32) (l3 : Int32) (τ : zSg) (τ15 : zSg) (r15 : Int32) (hI : i_271 a0 a1 σ l0 l1 l2 l3 τ) (h8 : l3.toInt ≤ (200 : Int)) (h10 : l2.toInt = (-1 : Int)) (h12 : 0 ≤ (Int32.ofInt (7)).toInt ∧ (Int32.ofInt (7)).toInt < (τ.2.1 (q_r (τ.1 l0 1)) : Int)) (h13 : (q_i (τ.1 (q_r (τ.1 l0 1)) (Int32.ofInt (7)).toNatClampNeg)).toInt ≥ l1.toInt) (g15 : p_265 l0 (Int32.ofInt (1)) τ r15 τ15) :
    i_271 a0 a1 σ l0 l1 l3 (l3 + Int32.ofInt (1)) τ15 := by
  obtain ⟨rfl, rfl, hI⟩ := hI
  refine ⟨rfl, rfl, ?_⟩
  rintro rfl A nf nt Lo K
  obtain ⟨RNG, N, hN2, rfl, D, hF⟩ := hI rfl A nf nt Lo K
  have z200 : (Int32.ofInt 200).toInt = 200 := rfl
  have q1 : (Int32.ofInt (-1)).toInt = -1 := rfl
  rw [o32 (by omega)] at h8
  obtain ⟨hm1, hno⟩ : l2 = Int32.ofInt (-1) ∧ ∀ i, i < N → ¬ l1.toInt ≤ ((hHs Lo nt true A i).1 7).toInt := by
    rcases hF with hF | ⟨k, h1, h2, h3, h4, h5⟩
    · exact hF
    · rw [h3, o32 (by omega)] at h10
      exact absurd h10 (by omega)
  have IA := K.2.2.hs (Lo := Lo) (calm := true) N
  have EV := D.ev K IA (hHs_k K.2.2 (by omega) N)
  obtain ⟨fH, KH, -⟩ := (g15 rfl _ nf nt Lo EV IA).2 (by decide)
  have D' := D.st fH KH
  rw [D.2.2.2.2.q, kz7, D.2.2.2.2.i (k := 7) (by omega)] at h13
  exact ⟨RNG, N + 1, by omega, o32i (by omega), D', Or.inr ⟨N, rfl, by omega, rfl, by omega, hno⟩⟩
noncomputable def qP_271 : zPp := fun as σ o σ' => match as with
  | [a0, a1] => ∃ r, o = .inl (some (.int r)) ∧ p_271 (q_r a0) (q_i a1) σ r σ'
  | _ => True
set_option maxRecDepth 100000 in
theorem sp_271 {sx : zX} (S177 : zEe sx 177 3 qP_177) (S176 : zEe sx 176 3 qP_176) (S266 : zEe sx 266 1 qP_266) (S267 : zEe sx 267 1 qP_267) (S265 : zEe sx 265 2 qP_265) : zEe sx 271 2 qP_271 := by
  refine zfle zJ_271 (sps := [(177, 3, qP_177), (176, 3, qP_176), (266, 1, qP_266), (267, 1, qP_267), (265, 2, qP_265)]) (fun q hq => by
    simp only [List.mem_cons, List.not_mem_nil, or_false] at hq
    rcases hq with rfl | rfl | rfl | rfl | rfl
    · exact S177
    · exact S176
    · exact S266
    · exact S267
    · exact S265) (fun as σ hl => ?_)
  match as, hl with
  | [a0, a1], _ =>
  refine ⟨[(23, fun lo st τ => st = [] ∧ i_271 (q_r a0) (q_i a1) σ (q_r (lo 0)) (q_i (lo 1)) (q_i (lo 2)) (q_i (lo 3)) τ)], 400, ?_, ?_⟩
  · intro q hq
    simp only [List.mem_cons, List.not_mem_nil, or_false] at hq
    rcases hq with rfl
    · rintro lo st τ ⟨rfl, hI⟩
      refine ⟨400, ?_⟩
      refine And.intro (fun h8 => ?_) (fun h8 => ?_)
      · refine fun o9 τ9 g9 => ?_
        obtain ⟨rfl, g9⟩ := g9
        exact ⟨_, rfl, sp_271_c23_t (q_r a0) (q_i a1) σ (q_r (lo 0)) (q_i (lo 1)) (q_i (lo 2)) (q_i (lo 3)) τ τ9 hI (cm4t h8) g9⟩
      · refine And.intro (fun h10 => ?_) (fun h10 => ?_)
        · refine fun o11 τ11 g11 => ?_
          obtain ⟨rfl, g11⟩ := g11
          exact ⟨_, rfl, sp_271_c23_ft (q_r a0) (q_i a1) σ (q_r (lo 0)) (q_i (lo 1)) (q_i (lo 2)) (q_i (lo 3)) τ τ11 hI (cm4f h8) (cm1t h10) g11⟩
        · refine fun h12 => ?_
          refine And.intro (fun h13 => ?_) (fun h13 => ?_)
          · refine fun o14 τ14 g14 => ?_
            obtain ⟨r14, rfl, g14⟩ := g14
            exact ⟨rfl, sp_271_c23_fft (q_r a0) (q_i a1) σ (q_r (lo 0)) (q_i (lo 1)) (q_i (lo 2)) (q_i (lo 3)) τ τ14 r14 hI (cm4f h8) (cm1f h10) (q_inp h12) (cm2t h13) g14⟩
          · refine fun o15 τ15 g15 => ?_
            obtain ⟨r15, rfl, g15⟩ := g15
            exact ⟨rfl, sp_271_c23_fff (q_r a0) (q_i a1) σ (q_r (lo 0)) (q_i (lo 1)) (q_i (lo 2)) (q_i (lo 3)) τ τ15 r15 hI (cm4f h8) (cm1f h10) (q_inp h12) (cm2f h13) g15⟩
  · refine fun o1 τ1 g1 => ?_
    obtain ⟨r1, rfl, g1⟩ := g1
    refine And.intro (fun h2 => ?_) (fun h2 => ?_)
    · refine fun o3 τ3 g3 => ?_
      obtain ⟨r3, rfl, rfl, y3, z3⟩ := g3
      have e3 := (z3 rfl).symm
      subst e3
      refine And.intro (fun _ => ?_) (fun h4 => absurd (show z_cmp 0 (Int32.ofInt (0)) 0 = false from h4) (by decide))
      refine fun o5 τ5 g5 => ?_
      obtain ⟨rfl, g5⟩ := g5
      exact ⟨rfl, sp_271_et (q_r a0) (q_i a1) σ τ1 r1 τ5 g1 (cm1t h2) g5⟩
    · refine fun o6 τ6 g6 => ?_
      obtain ⟨r6, rfl, rfl, y6, z6⟩ := g6
      have e6 := (y6 (by decide)).symm
      subst e6
      refine And.intro (fun h7 => absurd (show z_cmp 0 (Int32.ofInt (1)) 0 = true from h7) (by decide)) (fun _ => ?_)
      exact ⟨_, rfl, sp_271_ef (q_r a0) (q_i a1) σ τ1 r1 g1 (cm1f h2)⟩
theorem zJ_273 : zJ3 273 z_m273 z_c273 z_h273 := ⟨rfl, rfl, rfl⟩
noncomputable def p_273 (a : Nat) (f : Int32) (σ : zSg) (r : Int32) (σ' : zSg) : Prop := a = 205 → ∀ A nf nt Lo, rDp σ A nf nt Lo → (¬ (0 ≤ f.toInt ∧ f.toInt < (nf : Int)) → r = Int32.ofInt 0 ∧ σ' = rTh σ 1) ∧ ((0 ≤ f.toInt ∧ f.toInt < (nf : Int)) → rKF σ σ' ∧ aFst (fun i => (∀ F, f = Int32.ofNat F → F < nf → (hHs Lo nt true A i).1 (40 + 4 * F) = Int32.ofInt 0)) r)
noncomputable def i_273 (a : Nat) (f : Int32) (σ : zSg) (l0 : Nat) (l1 l2 l3 : Int32) (τ : zSg) : Prop := l0 = a ∧ l1 = f ∧ (a = 205 → ∀ A nf nt Lo, rDp σ A nf nt Lo → (0 ≤ f.toInt ∧ f.toInt < (nf : Int)) ∧ ∃ N, N ≤ 201 ∧ l3 = Int32.ofNat N ∧ rKp σ τ A (hHs Lo nt true A N).1 ∧ ((l2 = Int32.ofInt (-1) ∧ ∀ i, i < N → ¬ (∀ F, f = Int32.ofNat F → F < nf → (hHs Lo nt true A i).1 (40 + 4 * F) = Int32.ofInt 0)) ∨ ∃ k, N = k + 1 ∧ k ≤ 200 ∧ l2 = Int32.ofNat k ∧ (∀ F, f = Int32.ofNat F → F < nf → (hHs Lo nt true A k).1 (40 + 4 * F) = Int32.ofInt 0) ∧ ∀ i, i < k → ¬ (∀ F, f = Int32.ofNat F → F < nf → (hHs Lo nt true A i).1 (40 + 4 * F) = Int32.ofInt 0)))
theorem sp_273_et (a0 : Nat) (a1 : Int32) (σ : zSg) (τ1 : zSg) (r1 : Int32) (τ2 : zSg) (r2 : Int32) (τ4 : zSg) (g1 : p_195 a0 a1 (q_w σ a0 0 (.int (Int32.ofInt (0)))) r1 τ1) (g2 : p_176 a0 r1 (Int32.ofInt (1)) τ1 r2 τ2) (h3 : r2.toInt = (0 : Int)) (g4 : p_266 a0 τ2 τ4) :
    i_273 a0 a1 σ a0 a1 (Int32.ofInt (-1)) (Int32.ofInt (0)) τ4 := by
  refine ⟨rfl, rfl, ?_⟩
  rintro rfl A nf nt Lo K
  have z0 : (Int32.ofInt 0).toInt = 0 := rfl
  have z1 : (Int32.ofInt 1).toInt = 1 := rfl
  have z2 : (Int32.ofInt 2).toInt = 2 := rfl
  have z99 : (Int32.ofInt 99).toInt = 99 := rfl
  have z200 : (Int32.ofInt 200).toInt = 200 := rfl
  obtain ⟨e0, e1⟩ := g1
  have e0 : τ1 = r0 σ := e0
  subst e0
  have g1 := e1 rfl A (K.2.1.1.el (by omega)) nf K.2.2.1.1 K.2.2.1.2.1
  obtain ⟨x2, y2, n2⟩ := g2
  rw [x2] at h3
  have m2 := n2 h3
  subst m2
  have u : 0 ≤ a1.toInt ∧ a1.toInt < (nf : Int) := Decidable.byContradiction fun w => g1.mpr w h3
  exact ⟨u, 0, by omega, rfl, rKp.mk K g4, Or.inl ⟨rfl, fun i hi => absurd hi (by omega)⟩⟩
theorem sp_273_ef (a0 : Nat) (a1 : Int32) (σ : zSg) (τ1 : zSg) (r1 : Int32) (τ2 : zSg) (r2 : Int32) (g1 : p_195 a0 a1 (q_w σ a0 0 (.int (Int32.ofInt (0)))) r1 τ1) (g2 : p_176 a0 r1 (Int32.ofInt (1)) τ1 r2 τ2) (h3 : r2.toInt ≠ (0 : Int)) :
    p_273 (a0) (a1) σ (Int32.ofInt (0)) τ2 := by
  rintro rfl A nf nt Lo K
  have z0 : (Int32.ofInt 0).toInt = 0 := rfl
  have z1 : (Int32.ofInt 1).toInt = 1 := rfl
  have z2 : (Int32.ofInt 2).toInt = 2 := rfl
  have z99 : (Int32.ofInt 99).toInt = 99 := rfl
  have z200 : (Int32.ofInt 200).toInt = 200 := rfl
  obtain ⟨e0, e1⟩ := g1
  have e0 : τ1 = r0 σ := e0
  subst e0
  have g1 := e1 rfl A (K.2.1.1.el (by omega)) nf K.2.2.1.1 K.2.2.1.2.1
  obtain ⟨x2, y2, n2⟩ := g2
  rw [x2] at h3
  have m2 := y2 h3
  subst m2
  exact ⟨fun _ => ⟨rfl, r0_T⟩, fun q => absurd q (g1.mp h3)⟩
theorem sp_273_c18_t (a0 : Nat) (a1 : Int32) (σ : zSg) (l0 : Nat) (l1 : Int32) (l2 : Int32) (l3 : Int32) (τ : zSg) (τ6 : zSg) (hI : i_273 a0 a1 σ l0 l1 l2 l3 τ) (h5 : l3.toInt > (200 : Int)) (g6 : p_267 l0 τ τ6) :
    p_273 (a0) (a1) σ l2 τ6 := by
  obtain ⟨rfl, rfl, hI⟩ := hI
  rintro rfl A nf nt Lo K
  obtain ⟨RNG, N, hN2, rfl, D, hF⟩ := hI rfl A nf nt Lo K
  have z200 : (Int32.ofInt 200).toInt = 200 := rfl
  have q1 : (Int32.ofInt (-1)).toInt = -1 := rfl
  rw [o32 (by omega)] at h5
  have R := (D.bb K g6).fin K
  have hf : aFst (fun i => (∀ F, l1 = Int32.ofNat F → F < nf → (hHs Lo nt true A i).1 (40 + 4 * F) = Int32.ofInt 0)) l2 := by
    rcases hF with ⟨h1, h2⟩ | ⟨k, h1, h2, h3, h4, h5⟩
    · exact Or.inr ⟨h1, fun i hi => h2 i (by omega)⟩
    · exact Or.inl ⟨k, h2, h3, h4, h5⟩
  exact ⟨fun q => absurd RNG q, fun _ => ⟨R, hf⟩⟩
theorem sp_273_c18_ft (a0 : Nat) (a1 : Int32) (σ : zSg) (l0 : Nat) (l1 : Int32) (l2 : Int32) (l3 : Int32) (τ : zSg) (τ8 : zSg) (hI : i_273 a0 a1 σ l0 l1 l2 l3 τ) (h5 : l3.toInt ≤ (200 : Int)) (h7 : l2.toInt ≠ (-1 : Int)) (g8 : p_267 l0 τ τ8) :
    p_273 (a0) (a1) σ l2 τ8 := by
  obtain ⟨rfl, rfl, hI⟩ := hI
  rintro rfl A nf nt Lo K
  obtain ⟨RNG, N, hN2, rfl, D, hF⟩ := hI rfl A nf nt Lo K
  have z200 : (Int32.ofInt 200).toInt = 200 := rfl
  have q1 : (Int32.ofInt (-1)).toInt = -1 := rfl
  rw [o32 (by omega)] at h5
  have R := (D.bb K g8).fin K
  have hf : aFst (fun i => (∀ F, l1 = Int32.ofNat F → F < nf → (hHs Lo nt true A i).1 (40 + 4 * F) = Int32.ofInt 0)) l2 := by
    rcases hF with ⟨h1, h2⟩ | ⟨k, h1, h2, h3, h4, h5⟩
    · exact absurd (by rw [h1]; rfl) h7
    · exact Or.inl ⟨k, h2, h3, h4, h5⟩
  exact ⟨fun q => absurd RNG q, fun _ => ⟨R, hf⟩⟩
theorem sp_273_c18_fft (a0 : Nat) (a1 : Int32) (σ : zSg) (l0 : Nat) (l1 : Int32) (l2 : Int32) (l3 : Int32) (τ : zSg) (τ9 : zSg) (r9 : Int32) (τ11 : zSg) (r11 : Int32) (hI : i_273 a0 a1 σ l0 l1 l2 l3 τ) (h5 : l3.toInt ≤ (200 : Int)) (h7 : l2.toInt = (-1 : Int)) (g9 : p_190 l0 l1 (Int32.ofInt (0)) τ r9 τ9) (h10 : r9.toInt ≠ (0 : Int)) (g11 : p_265 l0 (Int32.ofInt (1)) τ9 r11 τ11) :
    i_273 a0 a1 σ l0 l1 (Int32.ofInt (-1)) (l3 + Int32.ofInt (1)) τ11 := by
  obtain ⟨rfl, rfl, hI⟩ := hI
  refine ⟨rfl, rfl, ?_⟩
  rintro rfl A nf nt Lo K
  obtain ⟨RNG, N, hN2, rfl, D, hF⟩ := hI rfl A nf nt Lo K
  have z200 : (Int32.ofInt 200).toInt = 200 := rfl
  have q1 : (Int32.ofInt (-1)).toInt = -1 := rfl
  rw [o32 (by omega)] at h5
  obtain ⟨hm1, hno⟩ : l2 = Int32.ofInt (-1) ∧ ∀ i, i < N → ¬ (∀ F, l1 = Int32.ofNat F → F < nf → (hHs Lo nt true A i).1 (40 + 4 * F) = Int32.ofInt 0) := by
    rcases hF with hF | ⟨k, h1, h2, h3, h4, h5⟩
    · exact hF
    · rw [h3, o32 (by omega)] at h7
      exact absurd h7 (by omega)
  have IA := K.2.2.hs (Lo := Lo) (calm := true) N
  have EV := D.ev K IA (hHs_k K.2.2 (by omega) N)
  have k6 := K.2.2.1.2.1
  obtain ⟨e5, g5⟩ := g9
  subst e5
  have ef : l1 = Int32.ofNat l1.toInt.toNat := Int32.toInt_inj.mp (by rw [o32 (by omega)]; omega)
  have x5 := g5 rfl _ D.2.2.2.2 l1.toInt.toNat 0 ef (by omega) rfl (by omega)
  have hF9 : ∀ F, l1 = Int32.ofNat F → F < nf → F = l1.toInt.toNat := fun F h1 h2 => by rw [h1, o32 (by omega)]; omega
  rw [x5] at h10
  obtain ⟨fH, KH, -⟩ := (g11 rfl _ nf nt Lo EV IA).2 (by decide)
  have D' := D.st fH KH
  first
  | (refine ⟨RNG, N + 1, by omega, o32i (by omega), D', Or.inl ⟨rfl, fun i hi w => ?_⟩⟩
     by_cases q : i = N
     · rw [q] at w
       have := w l1.toInt.toNat ef (by omega)
       exact h10 (by rw [show 40 + 0 + 4 * l1.toInt.toNat = 40 + 4 * l1.toInt.toNat by omega, this]; rfl)
     · exact hno i (by omega) w)
  | (refine ⟨RNG, N + 1, by omega, o32i (by omega), D', Or.inr ⟨N, rfl, by omega, rfl, fun F h1 h2 => ?_, hno⟩⟩
     rw [hF9 F h1 h2]
     exact Int32.toInt_inj.mp h10)
theorem sp_273_c18_fff (a0 : Nat) (a1 : Int32) (σ : zSg) (l0 : Nat) (l1 : Int32) (l2 : Int32) (l3 : Int32) (τ : zSg) (τ9 : zSg) (r9 : Int32) (τ12 : zSg) (r12 : Int32) (hI : i_273 a0 a1 σ l0 l1 l2 l3 τ) (h5 : l3.toInt ≤ (200 : Int)) (h7 : l2.toInt = (-1 : Int)) (g9 : p_190 l0 l1 (Int32.ofInt (0)) τ r9 τ9) (h10 : r9.toInt = (0 : Int)) (g12 : p_265 l0 (Int32.ofInt (1)) τ9 r12 τ12) :
    i_273 a0 a1 σ l0 l1 l3 (l3 + Int32.ofInt (1)) τ12 := by
  obtain ⟨rfl, rfl, hI⟩ := hI
  refine ⟨rfl, rfl, ?_⟩
  rintro rfl A nf nt Lo K
  obtain ⟨RNG, N, hN2, rfl, D, hF⟩ := hI rfl A nf nt Lo K
  have z200 : (Int32.ofInt 200).toInt = 200 := rfl
  have q1 : (Int32.ofInt (-1)).toInt = -1 := rfl
  rw [o32 (by omega)] at h5
  obtain ⟨hm1, hno⟩ : l2 = Int32.ofInt (-1) ∧ ∀ i, i < N → ¬ (∀ F, l1 = Int32.ofNat F → F < nf → (hHs Lo nt true A i).1 (40 + 4 * F) = Int32.ofInt 0) := by
    rcases hF with hF | ⟨k, h1, h2, h3, h4, h5⟩
    · exact hF
    · rw [h3, o32 (by omega)] at h7
      exact absurd h7 (by omega)
  have IA := K.2.2.hs (Lo := Lo) (calm := true) N
  have EV := D.ev K IA (hHs_k K.2.2 (by omega) N)
  have k6 := K.2.2.1.2.1
  obtain ⟨e5, g5⟩ := g9
  subst e5
  have ef : l1 = Int32.ofNat l1.toInt.toNat := Int32.toInt_inj.mp (by rw [o32 (by omega)]; omega)
  have x5 := g5 rfl _ D.2.2.2.2 l1.toInt.toNat 0 ef (by omega) rfl (by omega)
  have hF9 : ∀ F, l1 = Int32.ofNat F → F < nf → F = l1.toInt.toNat := fun F h1 h2 => by rw [h1, o32 (by omega)]; omega
  rw [x5] at h10
  obtain ⟨fH, KH, -⟩ := (g12 rfl _ nf nt Lo EV IA).2 (by decide)
  have D' := D.st fH KH
  first
  | (refine ⟨RNG, N + 1, by omega, o32i (by omega), D', Or.inl ⟨rfl, fun i hi w => ?_⟩⟩
     by_cases q : i = N
     · rw [q] at w
       have := w l1.toInt.toNat ef (by omega)
       exact h10 (by rw [show 40 + 0 + 4 * l1.toInt.toNat = 40 + 4 * l1.toInt.toNat by omega, this]; rfl)
     · exact hno i (by omega) w)
  | (refine ⟨RNG, N + 1, by omega, o32i (by omega), D', Or.inr ⟨N, rfl, by omega, rfl, fun F h1 h2 => ?_, hno⟩⟩
     rw [hF9 F h1 h2]
     exact Int32.toInt_inj.mp h10)
noncomputable def qP_273 : zPp := fun as σ o σ' => match as with
  | [a0, a1] => ∃ r, o = .inl (some (.int r)) ∧ p_273 (q_r a0) (q_i a1) σ r σ'
  | _ => True
set_option maxRecDepth 100000 in
theorem sp_273 {sx : zX} (S195 : zEe sx 195 2 qP_195) (S176 : zEe sx 176 3 qP_176) (S266 : zEe sx 266 1 qP_266) (S267 : zEe sx 267 1 qP_267) (S190 : zEe sx 190 3 qP_190) (S265 : zEe sx 265 2 qP_265) : zEe sx 273 2 qP_273 := by
  refine zfle zJ_273 (sps := [(195, 2, qP_195), (176, 3, qP_176), (266, 1, qP_266), (267, 1, qP_267), (190, 3, qP_190), (265, 2, qP_265)]) (fun q hq => by
    simp only [List.mem_cons, List.not_mem_nil, or_false] at hq
    rcases hq with rfl | rfl | rfl | rfl | rfl | rfl
    · exact S195
    · exact S176
    · exact S266
    · exact S267
    · exact S190
    · exact S265) (fun as σ hl => ?_)
  match as, hl with
  | [a0, a1], _ =>
  refine ⟨[(18, fun lo st τ => st = [] ∧ i_273 (q_r a0) (q_i a1) σ (q_r (lo 0)) (q_i (lo 1)) (q_i (lo 2)) (q_i (lo 3)) τ)], 400, ?_, ?_⟩
  · intro q hq
    simp only [List.mem_cons, List.not_mem_nil, or_false] at hq
    rcases hq with rfl
    · rintro lo st τ ⟨rfl, hI⟩
      refine ⟨400, ?_⟩
      refine And.intro (fun h5 => ?_) (fun h5 => ?_)
      · refine fun o6 τ6 g6 => ?_
        obtain ⟨rfl, g6⟩ := g6
        exact ⟨_, rfl, sp_273_c18_t (q_r a0) (q_i a1) σ (q_r (lo 0)) (q_i (lo 1)) (q_i (lo 2)) (q_i (lo 3)) τ τ6 hI (cm4t h5) g6⟩
      · refine And.intro (fun h7 => ?_) (fun h7 => ?_)
        · refine fun o8 τ8 g8 => ?_
          obtain ⟨rfl, g8⟩ := g8
          exact ⟨_, rfl, sp_273_c18_ft (q_r a0) (q_i a1) σ (q_r (lo 0)) (q_i (lo 1)) (q_i (lo 2)) (q_i (lo 3)) τ τ8 hI (cm4f h5) (cm1t h7) g8⟩
        · refine fun o9 τ9 g9 => ?_
          obtain ⟨r9, rfl, g9⟩ := g9
          refine And.intro (fun h10 => ?_) (fun h10 => ?_)
          · refine fun o11 τ11 g11 => ?_
            obtain ⟨r11, rfl, g11⟩ := g11
            exact ⟨rfl, sp_273_c18_fft (q_r a0) (q_i a1) σ (q_r (lo 0)) (q_i (lo 1)) (q_i (lo 2)) (q_i (lo 3)) τ τ9 r9 τ11 r11 hI (cm4f h5) (cm1f h7) g9 (cm1t h10) g11⟩
          · refine fun o12 τ12 g12 => ?_
            obtain ⟨r12, rfl, g12⟩ := g12
            exact ⟨rfl, sp_273_c18_fff (q_r a0) (q_i a1) σ (q_r (lo 0)) (q_i (lo 1)) (q_i (lo 2)) (q_i (lo 3)) τ τ9 r9 τ12 r12 hI (cm4f h5) (cm1f h7) g9 (cm1f h10) g12⟩
  · refine fun o1 τ1 g1 => ?_
    obtain ⟨r1, rfl, g1⟩ := g1
    refine fun o2 τ2 g2 => ?_
    obtain ⟨r2, rfl, g2⟩ := g2
    refine And.intro (fun h3 => ?_) (fun h3 => ?_)
    · refine fun o4 τ4 g4 => ?_
      obtain ⟨rfl, g4⟩ := g4
      exact ⟨rfl, sp_273_et (q_r a0) (q_i a1) σ τ1 r1 τ2 r2 τ4 g1 g2 (cm0t h3) g4⟩
    · exact ⟨_, rfl, sp_273_ef (q_r a0) (q_i a1) σ τ1 r1 τ2 r2 g1 g2 (cm0f h3)⟩
theorem zJ_272 : zJ3 272 z_m272 z_c272 z_h272 := ⟨rfl, rfl, rfl⟩
noncomputable def p_272 (a : Nat) (n : Int32) (σ : zSg) (r : Int32) (σ' : zSg) : Prop := a = 205 → ∀ A nf nt Lo, rDp σ A nf nt Lo → 0 ≤ (A 6).toInt → (¬ (1 ≤ n.toInt ∧ n.toInt ≤ 200) → r = Int32.ofInt 0 ∧ σ' = rTh σ 1) ∧ (∀ N, n = Int32.ofNat N → 1 ≤ N → N ≤ 200 → rKF σ σ' ∧ r = Int32.ofNat (aWm (fun i => (hHs Lo nt true A i).1 6) N).1)
noncomputable def i_272 (a : Nat) (n : Int32) (σ : zSg) (l0 : Nat) (l1 l2 l3 l4 : Int32) (τ : zSg) : Prop := l0 = a ∧ l1 = n ∧ (a = 205 → ∀ A nf nt Lo, rDp σ A nf nt Lo → 0 ≤ (A 6).toInt → ∃ N, n = Int32.ofNat N ∧ 1 ≤ N ∧ N ≤ 200 ∧ ∃ i, i ≤ N + 1 ∧ l4 = Int32.ofNat i ∧ rKp σ τ A (hHs Lo nt true A i).1 ∧ ((i = 0 ∧ l2 = Int32.ofInt 0 ∧ l3 = Int32.ofInt (-1)) ∨ ∃ k, i = k + 1 ∧ l2 = Int32.ofNat (aWm (fun i => (hHs Lo nt true A i).1 6) k).1 ∧ l3 = (aWm (fun i => (hHs Lo nt true A i).1 6) k).2))
theorem sp_272_et (a0 : Nat) (a1 : Int32) (σ : zSg) (τ1 : zSg) (r1 : Int32) (τ5 : zSg) (g1 : p_177 a1 (Int32.ofInt (1)) (Int32.ofInt (200)) (q_w σ a0 0 (.int (Int32.ofInt (0)))) r1 τ1) (h2 : r1.toInt ≠ (0 : Int)) (g5 : p_266 a0 τ1 τ5) :
    i_272 a0 a1 σ a0 a1 (Int32.ofInt (0)) (Int32.ofInt (-1)) (Int32.ofInt (0)) τ5 := by
  refine ⟨rfl, rfl, ?_⟩
  rintro rfl A nf nt Lo K h6
  have z0 : (Int32.ofInt 0).toInt = 0 := rfl
  have z1 : (Int32.ofInt 1).toInt = 1 := rfl
  have z2 : (Int32.ofInt 2).toInt = 2 := rfl
  have z99 : (Int32.ofInt 99).toInt = 99 := rfl
  have z200 : (Int32.ofInt 200).toInt = 200 := rfl
  obtain ⟨e0, e1⟩ := g1
  have e0 : τ1 = r0 σ := e0
  subst e0
  have u := e1.mp h2
  exact ⟨a1.toInt.toNat, Int32.toInt_inj.mp (by rw [o32 (by omega)]; omega), by omega, by omega, 0, by omega, rfl, rKp.mk K g5, Or.inl ⟨rfl, rfl, rfl⟩⟩
theorem sp_272_ef (a0 : Nat) (a1 : Int32) (σ : zSg) (τ1 : zSg) (r1 : Int32) (g1 : p_177 a1 (Int32.ofInt (1)) (Int32.ofInt (200)) (q_w σ a0 0 (.int (Int32.ofInt (0)))) r1 τ1) (h2 : r1.toInt = (0 : Int)) :
    p_272 (a0) (a1) σ (Int32.ofInt (0)) (q_w τ1 a0 0 (.int (Int32.ofInt (1)))) := by
  rintro rfl A nf nt Lo K h6
  have z0 : (Int32.ofInt 0).toInt = 0 := rfl
  have z1 : (Int32.ofInt 1).toInt = 1 := rfl
  have z2 : (Int32.ofInt 2).toInt = 2 := rfl
  have z99 : (Int32.ofInt 99).toInt = 99 := rfl
  have z200 : (Int32.ofInt 200).toInt = 200 := rfl
  obtain ⟨e0, e1⟩ := g1
  have e0 : τ1 = r0 σ := e0
  subst e0
  exact ⟨fun _ => ⟨rfl, r0_T⟩, fun N e g1 g2 => absurd (e1.mpr (by rw [e, o32 (by omega)]; omega)) (by omega)⟩
theorem sp_272_c25_t (a0 : Nat) (a1 : Int32) (σ : zSg) (l0 : Nat) (l1 : Int32) (l2 : Int32) (l3 : Int32) (l4 : Int32) (τ : zSg) (τ9 : zSg) (hI : i_272 a0 a1 σ l0 l1 l2 l3 l4 τ) (h8 : l4.toInt > l1.toInt) (g9 : p_267 l0 τ τ9) :
    p_272 (a0) (a1) σ l2 τ9 := by
  obtain ⟨rfl, rfl, hI⟩ := hI
  rintro rfl A nf nt Lo K h6
  obtain ⟨N, rfl, h1, h200, i, hi, rfl, D, ew⟩ := hI rfl A nf nt Lo K h6
  rw [o32 (by omega), o32 (by omega)] at h8
  have q1 : (Int32.ofInt (-1)).toInt = -1 := rfl
  have R := (D.bb K g9).fin K
  refine ⟨fun q => absurd (by rw [o32 (by omega)]; omega) q, fun M eM g1 g2 => ⟨R, ?_⟩⟩
  have h9 := congrArg Int32.toInt eM
  rw [o32 (by omega), o32 (by omega)] at h9
  rcases ew with ⟨w1, w2, w3⟩ | ⟨k, w1, w2, w3⟩
  · omega
  · rw [w2, show k = M by omega]
theorem sp_272_c25_ft (a0 : Nat) (a1 : Int32) (σ : zSg) (l0 : Nat) (l1 : Int32) (l2 : Int32) (l3 : Int32) (l4 : Int32) (τ : zSg) (τ13 : zSg) (r13 : Int32) (hI : i_272 a0 a1 σ l0 l1 l2 l3 l4 τ) (h8 : l4.toInt ≤ l1.toInt) (h10 : 0 ≤ (Int32.ofInt (6)).toInt ∧ (Int32.ofInt (6)).toInt < (τ.2.1 (q_r (τ.1 l0 1)) : Int)) (h11 : (q_i (τ.1 (q_r (τ.1 l0 1)) (Int32.ofInt (6)).toNatClampNeg)).toInt ≤ l3.toInt) (h12 : 0 ≤ (Int32.ofInt (6)).toInt ∧ (Int32.ofInt (6)).toInt < (τ.2.1 (q_r (τ.1 l0 1)) : Int)) (g13 : p_265 l0 (Int32.ofInt (1)) τ r13 τ13) :
    i_272 a0 a1 σ l0 l1 l2 (if l3 < (q_i (τ.1 (q_r (τ.1 l0 1)) (Int32.ofInt (6)).toNatClampNeg)) then (q_i (τ.1 (q_r (τ.1 l0 1)) (Int32.ofInt (6)).toNatClampNeg)) else l3) (l4 + Int32.ofInt (1)) τ13 := by
  obtain ⟨rfl, rfl, hI⟩ := hI
  refine ⟨rfl, rfl, ?_⟩
  rintro rfl A nf nt Lo K h6
  obtain ⟨N, rfl, h1, h200, i, hi, rfl, D, ew⟩ := hI rfl A nf nt Lo K h6
  rw [o32 (by omega), o32 (by omega)] at h8
  have q1 : (Int32.ofInt (-1)).toInt = -1 := rfl
  have IA := K.2.2.hs (Lo := Lo) (calm := true) i
  have EV := D.ev K IA (hHs_k K.2.2 (by omega) i)
  rw [D.2.2.2.2.q, kz6, D.2.2.2.2.i (k := 6) (by omega)] at h11
  obtain ⟨fH, KH, -⟩ := (g13 rfl _ nf nt Lo EV IA).2 (by decide)
  have D' := D.st fH KH
  simp only [D.2.2.2.2.q, kz6, D.2.2.2.2.i (k := 6) (by omega)]
  refine ⟨N, rfl, h1, h200, i + 1, by omega, o32i (by omega), D', Or.inr ⟨i, rfl, ?_⟩⟩
  rw [if_neg (fun q => by rw [Int32.lt_iff_toInt_lt] at q; omega)]
  rcases ew with ⟨w1, w2, w3⟩ | ⟨k, w1, w2, w3⟩
  · subst w1
    rw [w3, q1] at h11
    have h0 : ((hHs Lo nt true A 0).1 6).toInt = (A 6).toInt := rfl
    omega
  · subst w1
    rw [w3] at h11
    have es : aWm (fun i => (hHs Lo nt true A i).1 6) (k + 1) = aWm (fun i => (hHs Lo nt true A i).1 6) k := if_neg (fun q => absurd q (Int.not_lt.mpr h11))
    rw [es]
    exact ⟨w2, w3⟩
theorem sp_272_c25_ff (a0 : Nat) (a1 : Int32) (σ : zSg) (l0 : Nat) (l1 : Int32) (l2 : Int32) (l3 : Int32) (l4 : Int32) (τ : zSg) (τ15 : zSg) (r15 : Int32) (hI : i_272 a0 a1 σ l0 l1 l2 l3 l4 τ) (h8 : l4.toInt ≤ l1.toInt) (h10 : 0 ≤ (Int32.ofInt (6)).toInt ∧ (Int32.ofInt (6)).toInt < (τ.2.1 (q_r (τ.1 l0 1)) : Int)) (h11 : (q_i (τ.1 (q_r (τ.1 l0 1)) (Int32.ofInt (6)).toNatClampNeg)).toInt > l3.toInt) (h14 : 0 ≤ (Int32.ofInt (6)).toInt ∧ (Int32.ofInt (6)).toInt < (τ.2.1 (q_r (τ.1 l0 1)) : Int)) (g15 : p_265 l0 (Int32.ofInt (1)) τ r15 τ15) :
    i_272 a0 a1 σ l0 l1 l4 (if l3 < (q_i (τ.1 (q_r (τ.1 l0 1)) (Int32.ofInt (6)).toNatClampNeg)) then (q_i (τ.1 (q_r (τ.1 l0 1)) (Int32.ofInt (6)).toNatClampNeg)) else l3) (l4 + Int32.ofInt (1)) τ15 := by
  obtain ⟨rfl, rfl, hI⟩ := hI
  refine ⟨rfl, rfl, ?_⟩
  rintro rfl A nf nt Lo K h6
  obtain ⟨N, rfl, h1, h200, i, hi, rfl, D, ew⟩ := hI rfl A nf nt Lo K h6
  rw [o32 (by omega), o32 (by omega)] at h8
  have q1 : (Int32.ofInt (-1)).toInt = -1 := rfl
  have IA := K.2.2.hs (Lo := Lo) (calm := true) i
  have EV := D.ev K IA (hHs_k K.2.2 (by omega) i)
  rw [D.2.2.2.2.q, kz6, D.2.2.2.2.i (k := 6) (by omega)] at h11
  obtain ⟨fH, KH, -⟩ := (g15 rfl _ nf nt Lo EV IA).2 (by decide)
  have D' := D.st fH KH
  simp only [D.2.2.2.2.q, kz6, D.2.2.2.2.i (k := 6) (by omega)]
  refine ⟨N, rfl, h1, h200, i + 1, by omega, o32i (by omega), D', Or.inr ⟨i, rfl, ?_⟩⟩
  rw [if_pos (Int32.lt_iff_toInt_lt.mpr h11)]
  rcases ew with ⟨w1, w2, w3⟩ | ⟨k, w1, w2, w3⟩
  · subst w1
    exact ⟨rfl, rfl⟩
  · subst w1
    rw [w3] at h11
    have es : aWm (fun i => (hHs Lo nt true A i).1 6) (k + 1) = (k + 1, (hHs Lo nt true A (k + 1)).1 6) := if_pos h11
    rw [es]
    exact ⟨rfl, rfl⟩
noncomputable def qP_272 : zPp := fun as σ o σ' => match as with
  | [a0, a1] => ∃ r, o = .inl (some (.int r)) ∧ p_272 (q_r a0) (q_i a1) σ r σ'
  | _ => True
set_option maxRecDepth 100000 in
theorem sp_272 {sx : zX} (S177 : zEe sx 177 3 qP_177) (S176 : zEe sx 176 3 qP_176) (S266 : zEe sx 266 1 qP_266) (S267 : zEe sx 267 1 qP_267) (S265 : zEe sx 265 2 qP_265) : zEe sx 272 2 qP_272 := by
  refine zfle zJ_272 (sps := [(177, 3, qP_177), (176, 3, qP_176), (266, 1, qP_266), (267, 1, qP_267), (265, 2, qP_265)]) (fun q hq => by
    simp only [List.mem_cons, List.not_mem_nil, or_false] at hq
    rcases hq with rfl | rfl | rfl | rfl | rfl
    · exact S177
    · exact S176
    · exact S266
    · exact S267
    · exact S265) (fun as σ hl => ?_)
  match as, hl with
  | [a0, a1], _ =>
  refine ⟨[(25, fun lo st τ => st = [] ∧ i_272 (q_r a0) (q_i a1) σ (q_r (lo 0)) (q_i (lo 1)) (q_i (lo 2)) (q_i (lo 3)) (q_i (lo 4)) τ)], 400, ?_, ?_⟩
  · intro q hq
    simp only [List.mem_cons, List.not_mem_nil, or_false] at hq
    rcases hq with rfl
    · rintro lo st τ ⟨rfl, hI⟩
      refine ⟨400, ?_⟩
      refine And.intro (fun h8 => ?_) (fun h8 => ?_)
      · refine fun o9 τ9 g9 => ?_
        obtain ⟨rfl, g9⟩ := g9
        exact ⟨_, rfl, sp_272_c25_t (q_r a0) (q_i a1) σ (q_r (lo 0)) (q_i (lo 1)) (q_i (lo 2)) (q_i (lo 3)) (q_i (lo 4)) τ τ9 hI (cm4t h8) g9⟩
      · refine fun h10 => ?_
        refine And.intro (fun h11 => ?_) (fun h11 => ?_)
        · refine fun h12 => ?_
          refine fun o13 τ13 g13 => ?_
          obtain ⟨r13, rfl, g13⟩ := g13
          exact ⟨rfl, sp_272_c25_ft (q_r a0) (q_i a1) σ (q_r (lo 0)) (q_i (lo 1)) (q_i (lo 2)) (q_i (lo 3)) (q_i (lo 4)) τ τ13 r13 hI (cm4f h8) (q_inp h10) (cm5t h11) (q_inp h12) g13⟩
        · refine fun h14 => ?_
          refine fun o15 τ15 g15 => ?_
          obtain ⟨r15, rfl, g15⟩ := g15
          exact ⟨rfl, sp_272_c25_ff (q_r a0) (q_i a1) σ (q_r (lo 0)) (q_i (lo 1)) (q_i (lo 2)) (q_i (lo 3)) (q_i (lo 4)) τ τ15 r15 hI (cm4f h8) (q_inp h10) (cm5f h11) (q_inp h14) g15⟩
  · refine fun o1 τ1 g1 => ?_
    obtain ⟨r1, rfl, g1⟩ := g1
    refine And.intro (fun h2 => ?_) (fun h2 => ?_)
    · refine fun o3 τ3 g3 => ?_
      obtain ⟨r3, rfl, rfl, y3, z3⟩ := g3
      have e3 := (z3 rfl).symm
      subst e3
      refine And.intro (fun _ => ?_) (fun h4 => absurd (show z_cmp 0 (Int32.ofInt (0)) 0 = false from h4) (by decide))
      refine fun o5 τ5 g5 => ?_
      obtain ⟨rfl, g5⟩ := g5
      exact ⟨rfl, sp_272_et (q_r a0) (q_i a1) σ τ1 r1 τ5 g1 (cm1t h2) g5⟩
    · refine fun o6 τ6 g6 => ?_
      obtain ⟨r6, rfl, rfl, y6, z6⟩ := g6
      have e6 := (y6 (by decide)).symm
      subst e6
      refine And.intro (fun h7 => absurd (show z_cmp 0 (Int32.ofInt (1)) 0 = true from h7) (by decide)) (fun _ => ?_)
      exact ⟨_, rfl, sp_272_ef (q_r a0) (q_i a1) σ τ1 r1 g1 (cm1f h2)⟩
theorem zJ_303 : zJ3 303 z_m303 z_c303 z_h303 := ⟨rfl, rfl, rfl⟩
theorem zJ_304 : zJ3 304 z_m304 z_c304 z_h304 := ⟨rfl, rfl, rfl⟩
theorem zJ_305 : zJ3 305 z_m305 z_c305 z_h305 := ⟨rfl, rfl, rfl⟩
end
section
/-! the law's calls of the class, exact; printed with wip/gen/gen_dm.py -/
noncomputable def p_315 (a : Nat) (o : Nat) (σ : zSg) (k : Int32) (σ' : zSg) : Prop := ∃ e τ, p_120 a  σ e τ ∧ ((∃ v, e = .inl v ∧ k = Int32.ofInt 0 ∧ σ' = q_w τ o 0 (.long v.toInt64)) ∨ (e = .inr 0 ∧ k = Int32.ofInt 1 ∧ σ' = τ) ∨ (e = .inr 1 ∧ k = Int32.ofInt 2 ∧ σ' = τ))
theorem sp_315_en (a0 : Nat) (a1 : Nat) (σ : zSg) (τ1 : zSg) (r1 : Int32) (g1 : p_120 a0 σ (.inl r1) τ1) (h2 : 0 ≤ (Int32.ofInt (0)).toInt ∧ (Int32.ofInt (0)).toInt < (τ1.2.1 a1 : Int)) :
    p_315 (a0) (a1) σ (Int32.ofInt (0)) (q_w τ1 a1 (Int32.ofInt (0)).toNatClampNeg (.long r1.toInt64)) := by
  exact ⟨_, _, g1, Or.inl ⟨_, rfl, rfl, rfl⟩⟩
theorem sp_315_ex0_ (a0 : Nat) (a1 : Nat) (σ : zSg) (τ1 : zSg) (g1 : p_120 a0 σ (.inr 0) τ1) :
    p_315 (a0) (a1) σ (Int32.ofInt (1)) τ1 := by
  exact ⟨_, _, g1, Or.inr (Or.inl (⟨rfl, rfl, rfl⟩))⟩
theorem sp_315_ex1_ (a0 : Nat) (a1 : Nat) (σ : zSg) (τ1 : zSg) (g1 : p_120 a0 σ (.inr 1) τ1) :
    p_315 (a0) (a1) σ (Int32.ofInt (2)) τ1 := by
  exact ⟨_, _, g1, Or.inr (Or.inr (⟨rfl, rfl, rfl⟩))⟩
noncomputable def qP_315 : zPp := fun as σ o σ' => match as with
  | [a0, a1] => ∃ r, o = .inl (some (.int r)) ∧ p_315 (q_r a0) (q_r a1) σ r σ'
  | _ => True
set_option maxRecDepth 100000 in
theorem sp_315 {sx : zX} (S120 : zEe sx 120 1 qP_120) : zEe sx 315 2 qP_315 := by
  refine zfle zJ_315 (sps := [(120, 1, qP_120)]) (fun q hq => by
    simp only [List.mem_cons, List.not_mem_nil, or_false] at hq
    rcases hq with rfl
    · exact S120) (fun as σ hl => ?_)
  match as, hl with
  | [a0, a1], _ =>
  refine ⟨[], 400, ?_, ?_⟩
  · exact fun q hq => absurd hq List.not_mem_nil
  · refine fun o1 τ1 g1 => ?_
    rcases g1 with ⟨r1, rfl, g1⟩ | ⟨rfl, g1⟩ | ⟨rfl, g1⟩
    · refine fun h2 => ?_
      exact ⟨_, rfl, sp_315_en (q_r a0) (q_r a1) σ τ1 r1 g1 (q_inp h2)⟩
    · exact ⟨_, rfl, sp_315_ex0_ (q_r a0) (q_r a1) σ τ1 g1⟩
    · exact ⟨_, rfl, sp_315_ex1_ (q_r a0) (q_r a1) σ τ1 g1⟩
theorem zJ_319 : zJ3 319 z_m319 z_c319 z_h319 := ⟨rfl, rfl, rfl⟩
noncomputable def p_319 (a : Nat) (a1 a2 a3 : Int32) (o : Nat) (σ : zSg) (k : Int32) (σ' : zSg) : Prop := ∃ e τ, p_125 a a1 a2 a3 σ e τ ∧ ((∃ v, e = .inl v ∧ k = Int32.ofInt 0 ∧ σ' = q_w τ o 0 (.long v.toInt64)) ∨ (e = .inr 2 ∧ k = Int32.ofInt 1 ∧ σ' = τ) ∨ (e = .inr 3 ∧ k = Int32.ofInt 2 ∧ σ' = τ))
theorem sp_319_en (a0 : Nat) (a1 : Int32) (a2 : Int32) (a3 : Int32) (a4 : Nat) (σ : zSg) (τ1 : zSg) (r1 : Int32) (g1 : p_125 a0 a1 a2 a3 σ (.inl r1) τ1) (h2 : 0 ≤ (Int32.ofInt (0)).toInt ∧ (Int32.ofInt (0)).toInt < (τ1.2.1 a4 : Int)) :
    p_319 (a0) (a1) (a2) (a3) (a4) σ (Int32.ofInt (0)) (q_w τ1 a4 (Int32.ofInt (0)).toNatClampNeg (.long r1.toInt64)) := by
  exact ⟨_, _, g1, Or.inl ⟨_, rfl, rfl, rfl⟩⟩
theorem sp_319_ex2_ (a0 : Nat) (a1 : Int32) (a2 : Int32) (a3 : Int32) (a4 : Nat) (σ : zSg) (τ1 : zSg) (g1 : p_125 a0 a1 a2 a3 σ (.inr 2) τ1) :
    p_319 (a0) (a1) (a2) (a3) (a4) σ (Int32.ofInt (1)) τ1 := by
  exact ⟨_, _, g1, Or.inr (Or.inl (⟨rfl, rfl, rfl⟩))⟩
theorem sp_319_ex3_ (a0 : Nat) (a1 : Int32) (a2 : Int32) (a3 : Int32) (a4 : Nat) (σ : zSg) (τ1 : zSg) (g1 : p_125 a0 a1 a2 a3 σ (.inr 3) τ1) :
    p_319 (a0) (a1) (a2) (a3) (a4) σ (Int32.ofInt (2)) τ1 := by
  exact ⟨_, _, g1, Or.inr (Or.inr (⟨rfl, rfl, rfl⟩))⟩
noncomputable def qP_319 : zPp := fun as σ o σ' => match as with
  | [a0, a1, a2, a3, a4] => ∃ r, o = .inl (some (.int r)) ∧ p_319 (q_r a0) (q_i a1) (q_i a2) (q_i a3) (q_r a4) σ r σ'
  | _ => True
set_option maxRecDepth 100000 in
theorem sp_319 {sx : zX} (S125 : zEe sx 125 4 qP_125) : zEe sx 319 5 qP_319 := by
  refine zfle zJ_319 (sps := [(125, 4, qP_125)]) (fun q hq => by
    simp only [List.mem_cons, List.not_mem_nil, or_false] at hq
    rcases hq with rfl
    · exact S125) (fun as σ hl => ?_)
  match as, hl with
  | [a0, a1, a2, a3, a4], _ =>
  refine ⟨[], 400, ?_, ?_⟩
  · exact fun q hq => absurd hq List.not_mem_nil
  · refine fun o1 τ1 g1 => ?_
    rcases g1 with ⟨r1, rfl, g1⟩ | ⟨rfl, g1⟩ | ⟨rfl, g1⟩
    · refine fun h2 => ?_
      exact ⟨_, rfl, sp_319_en (q_r a0) (q_i a1) (q_i a2) (q_i a3) (q_r a4) σ τ1 r1 g1 (q_inp h2)⟩
    · exact ⟨_, rfl, sp_319_ex2_ (q_r a0) (q_i a1) (q_i a2) (q_i a3) (q_r a4) σ τ1 g1⟩
    · exact ⟨_, rfl, sp_319_ex3_ (q_r a0) (q_i a1) (q_i a2) (q_i a3) (q_r a4) σ τ1 g1⟩
theorem zJ_320 : zJ3 320 z_m320 z_c320 z_h320 := ⟨rfl, rfl, rfl⟩
noncomputable def p_320 (a : Nat) (a1 a2 : Int32) (o : Nat) (σ : zSg) (k : Int32) (σ' : zSg) : Prop := ∃ e τ, p_126 a a1 a2 σ e τ ∧ ((∃ v, e = .inl v ∧ k = Int32.ofInt 0 ∧ σ' = q_w τ o 0 (.long v.toInt64)) ∨ (e = .inr 2 ∧ k = Int32.ofInt 1 ∧ σ' = τ) ∨ (e = .inr 3 ∧ k = Int32.ofInt 2 ∧ σ' = τ))
theorem sp_320_en (a0 : Nat) (a1 : Int32) (a2 : Int32) (a3 : Nat) (σ : zSg) (τ1 : zSg) (r1 : Int32) (g1 : p_126 a0 a1 a2 σ (.inl r1) τ1) (h2 : 0 ≤ (Int32.ofInt (0)).toInt ∧ (Int32.ofInt (0)).toInt < (τ1.2.1 a3 : Int)) :
    p_320 (a0) (a1) (a2) (a3) σ (Int32.ofInt (0)) (q_w τ1 a3 (Int32.ofInt (0)).toNatClampNeg (.long r1.toInt64)) := by
  exact ⟨_, _, g1, Or.inl ⟨_, rfl, rfl, rfl⟩⟩
theorem sp_320_ex2_ (a0 : Nat) (a1 : Int32) (a2 : Int32) (a3 : Nat) (σ : zSg) (τ1 : zSg) (g1 : p_126 a0 a1 a2 σ (.inr 2) τ1) :
    p_320 (a0) (a1) (a2) (a3) σ (Int32.ofInt (1)) τ1 := by
  exact ⟨_, _, g1, Or.inr (Or.inl (⟨rfl, rfl, rfl⟩))⟩
theorem sp_320_ex3_ (a0 : Nat) (a1 : Int32) (a2 : Int32) (a3 : Nat) (σ : zSg) (τ1 : zSg) (g1 : p_126 a0 a1 a2 σ (.inr 3) τ1) :
    p_320 (a0) (a1) (a2) (a3) σ (Int32.ofInt (2)) τ1 := by
  exact ⟨_, _, g1, Or.inr (Or.inr (⟨rfl, rfl, rfl⟩))⟩
noncomputable def qP_320 : zPp := fun as σ o σ' => match as with
  | [a0, a1, a2, a3] => ∃ r, o = .inl (some (.int r)) ∧ p_320 (q_r a0) (q_i a1) (q_i a2) (q_r a3) σ r σ'
  | _ => True
set_option maxRecDepth 100000 in
theorem sp_320 {sx : zX} (S126 : zEe sx 126 3 qP_126) : zEe sx 320 4 qP_320 := by
  refine zfle zJ_320 (sps := [(126, 3, qP_126)]) (fun q hq => by
    simp only [List.mem_cons, List.not_mem_nil, or_false] at hq
    rcases hq with rfl
    · exact S126) (fun as σ hl => ?_)
  match as, hl with
  | [a0, a1, a2, a3], _ =>
  refine ⟨[], 400, ?_, ?_⟩
  · exact fun q hq => absurd hq List.not_mem_nil
  · refine fun o1 τ1 g1 => ?_
    rcases g1 with ⟨r1, rfl, g1⟩ | ⟨rfl, g1⟩ | ⟨rfl, g1⟩
    · refine fun h2 => ?_
      exact ⟨_, rfl, sp_320_en (q_r a0) (q_i a1) (q_i a2) (q_r a3) σ τ1 r1 g1 (q_inp h2)⟩
    · exact ⟨_, rfl, sp_320_ex2_ (q_r a0) (q_i a1) (q_i a2) (q_r a3) σ τ1 g1⟩
    · exact ⟨_, rfl, sp_320_ex3_ (q_r a0) (q_i a1) (q_i a2) (q_r a3) σ τ1 g1⟩
theorem zJ_321 : zJ3 321 z_m321 z_c321 z_h321 := ⟨rfl, rfl, rfl⟩
noncomputable def p_321 (a : Nat) (a1 a2 : Int32) (o : Nat) (σ : zSg) (k : Int32) (σ' : zSg) : Prop := ∃ e τ, p_127 a a1 a2 σ e τ ∧ ((∃ v, e = .inl v ∧ k = Int32.ofInt 0 ∧ σ' = q_w τ o 0 (.long v.toInt64)) ∨ (e = .inr 2 ∧ k = Int32.ofInt 1 ∧ σ' = τ) ∨ (e = .inr 0 ∧ k = Int32.ofInt 2 ∧ σ' = τ) ∨ (e = .inr 4 ∧ k = Int32.ofInt 3 ∧ σ' = τ))
theorem sp_321_en (a0 : Nat) (a1 : Int32) (a2 : Int32) (a3 : Nat) (σ : zSg) (τ1 : zSg) (r1 : Int32) (g1 : p_127 a0 a1 a2 σ (.inl r1) τ1) (h2 : 0 ≤ (Int32.ofInt (0)).toInt ∧ (Int32.ofInt (0)).toInt < (τ1.2.1 a3 : Int)) :
    p_321 (a0) (a1) (a2) (a3) σ (Int32.ofInt (0)) (q_w τ1 a3 (Int32.ofInt (0)).toNatClampNeg (.long r1.toInt64)) := by
  exact ⟨_, _, g1, Or.inl ⟨_, rfl, rfl, rfl⟩⟩
theorem sp_321_ex2_ (a0 : Nat) (a1 : Int32) (a2 : Int32) (a3 : Nat) (σ : zSg) (τ1 : zSg) (g1 : p_127 a0 a1 a2 σ (.inr 2) τ1) :
    p_321 (a0) (a1) (a2) (a3) σ (Int32.ofInt (1)) τ1 := by
  exact ⟨_, _, g1, Or.inr (Or.inl (⟨rfl, rfl, rfl⟩))⟩
theorem sp_321_ex0_ (a0 : Nat) (a1 : Int32) (a2 : Int32) (a3 : Nat) (σ : zSg) (τ1 : zSg) (g1 : p_127 a0 a1 a2 σ (.inr 0) τ1) :
    p_321 (a0) (a1) (a2) (a3) σ (Int32.ofInt (2)) τ1 := by
  exact ⟨_, _, g1, Or.inr (Or.inr (Or.inl (⟨rfl, rfl, rfl⟩)))⟩
theorem sp_321_ex4_ (a0 : Nat) (a1 : Int32) (a2 : Int32) (a3 : Nat) (σ : zSg) (τ1 : zSg) (g1 : p_127 a0 a1 a2 σ (.inr 4) τ1) :
    p_321 (a0) (a1) (a2) (a3) σ (Int32.ofInt (3)) τ1 := by
  exact ⟨_, _, g1, Or.inr (Or.inr (Or.inr (⟨rfl, rfl, rfl⟩)))⟩
noncomputable def qP_321 : zPp := fun as σ o σ' => match as with
  | [a0, a1, a2, a3] => ∃ r, o = .inl (some (.int r)) ∧ p_321 (q_r a0) (q_i a1) (q_i a2) (q_r a3) σ r σ'
  | _ => True
set_option maxRecDepth 100000 in
theorem sp_321 {sx : zX} (S127 : zEe sx 127 3 qP_127) : zEe sx 321 4 qP_321 := by
  refine zfle zJ_321 (sps := [(127, 3, qP_127)]) (fun q hq => by
    simp only [List.mem_cons, List.not_mem_nil, or_false] at hq
    rcases hq with rfl
    · exact S127) (fun as σ hl => ?_)
  match as, hl with
  | [a0, a1, a2, a3], _ =>
  refine ⟨[], 400, ?_, ?_⟩
  · exact fun q hq => absurd hq List.not_mem_nil
  · refine fun o1 τ1 g1 => ?_
    rcases g1 with ⟨r1, rfl, g1⟩ | ⟨rfl, g1⟩ | ⟨rfl, g1⟩ | ⟨rfl, g1⟩
    · refine fun h2 => ?_
      exact ⟨_, rfl, sp_321_en (q_r a0) (q_i a1) (q_i a2) (q_r a3) σ τ1 r1 g1 (q_inp h2)⟩
    · exact ⟨_, rfl, sp_321_ex2_ (q_r a0) (q_i a1) (q_i a2) (q_r a3) σ τ1 g1⟩
    · exact ⟨_, rfl, sp_321_ex0_ (q_r a0) (q_i a1) (q_i a2) (q_r a3) σ τ1 g1⟩
    · exact ⟨_, rfl, sp_321_ex4_ (q_r a0) (q_i a1) (q_i a2) (q_r a3) σ τ1 g1⟩
theorem zJ_322 : zJ3 322 z_m322 z_c322 z_h322 := ⟨rfl, rfl, rfl⟩
noncomputable def p_322 (a : Nat) (a1 a2 : Int32) (o : Nat) (σ : zSg) (k : Int32) (σ' : zSg) : Prop := ∃ e τ, p_128 a a1 a2 σ e τ ∧ ((∃ v, e = .inl v ∧ k = Int32.ofInt 0 ∧ σ' = q_w τ o 0 (.long v.toInt64)) ∨ (e = .inr 2 ∧ k = Int32.ofInt 1 ∧ σ' = τ) ∨ (e = .inr 4 ∧ k = Int32.ofInt 2 ∧ σ' = τ))
theorem sp_322_en (a0 : Nat) (a1 : Int32) (a2 : Int32) (a3 : Nat) (σ : zSg) (τ1 : zSg) (r1 : Int32) (g1 : p_128 a0 a1 a2 σ (.inl r1) τ1) (h2 : 0 ≤ (Int32.ofInt (0)).toInt ∧ (Int32.ofInt (0)).toInt < (τ1.2.1 a3 : Int)) :
    p_322 (a0) (a1) (a2) (a3) σ (Int32.ofInt (0)) (q_w τ1 a3 (Int32.ofInt (0)).toNatClampNeg (.long r1.toInt64)) := by
  exact ⟨_, _, g1, Or.inl ⟨_, rfl, rfl, rfl⟩⟩
theorem sp_322_ex2_ (a0 : Nat) (a1 : Int32) (a2 : Int32) (a3 : Nat) (σ : zSg) (τ1 : zSg) (g1 : p_128 a0 a1 a2 σ (.inr 2) τ1) :
    p_322 (a0) (a1) (a2) (a3) σ (Int32.ofInt (1)) τ1 := by
  exact ⟨_, _, g1, Or.inr (Or.inl (⟨rfl, rfl, rfl⟩))⟩
theorem sp_322_ex4_ (a0 : Nat) (a1 : Int32) (a2 : Int32) (a3 : Nat) (σ : zSg) (τ1 : zSg) (g1 : p_128 a0 a1 a2 σ (.inr 4) τ1) :
    p_322 (a0) (a1) (a2) (a3) σ (Int32.ofInt (2)) τ1 := by
  exact ⟨_, _, g1, Or.inr (Or.inr (⟨rfl, rfl, rfl⟩))⟩
noncomputable def qP_322 : zPp := fun as σ o σ' => match as with
  | [a0, a1, a2, a3] => ∃ r, o = .inl (some (.int r)) ∧ p_322 (q_r a0) (q_i a1) (q_i a2) (q_r a3) σ r σ'
  | _ => True
set_option maxRecDepth 100000 in
theorem sp_322 {sx : zX} (S128 : zEe sx 128 3 qP_128) : zEe sx 322 4 qP_322 := by
  refine zfle zJ_322 (sps := [(128, 3, qP_128)]) (fun q hq => by
    simp only [List.mem_cons, List.not_mem_nil, or_false] at hq
    rcases hq with rfl
    · exact S128) (fun as σ hl => ?_)
  match as, hl with
  | [a0, a1, a2, a3], _ =>
  refine ⟨[], 400, ?_, ?_⟩
  · exact fun q hq => absurd hq List.not_mem_nil
  · refine fun o1 τ1 g1 => ?_
    rcases g1 with ⟨r1, rfl, g1⟩ | ⟨rfl, g1⟩ | ⟨rfl, g1⟩
    · refine fun h2 => ?_
      exact ⟨_, rfl, sp_322_en (q_r a0) (q_i a1) (q_i a2) (q_r a3) σ τ1 r1 g1 (q_inp h2)⟩
    · exact ⟨_, rfl, sp_322_ex2_ (q_r a0) (q_i a1) (q_i a2) (q_r a3) σ τ1 g1⟩
    · exact ⟨_, rfl, sp_322_ex4_ (q_r a0) (q_i a1) (q_i a2) (q_r a3) σ τ1 g1⟩
theorem zJ_323 : zJ3 323 z_m323 z_c323 z_h323 := ⟨rfl, rfl, rfl⟩
noncomputable def p_323 (a : Nat) (a1 a2 : Int32) (o : Nat) (σ : zSg) (k : Int32) (σ' : zSg) : Prop := ∃ e τ, p_129 a a1 a2 σ e τ ∧ ((∃ v, e = .inl v ∧ k = Int32.ofInt 0 ∧ σ' = q_w τ o 0 (.long v.toInt64)) ∨ (e = .inr 2 ∧ k = Int32.ofInt 1 ∧ σ' = τ) ∨ (e = .inr 0 ∧ k = Int32.ofInt 2 ∧ σ' = τ) ∨ (e = .inr 4 ∧ k = Int32.ofInt 3 ∧ σ' = τ))
theorem sp_323_en (a0 : Nat) (a1 : Int32) (a2 : Int32) (a3 : Nat) (σ : zSg) (τ1 : zSg) (r1 : Int32) (g1 : p_129 a0 a1 a2 σ (.inl r1) τ1) (h2 : 0 ≤ (Int32.ofInt (0)).toInt ∧ (Int32.ofInt (0)).toInt < (τ1.2.1 a3 : Int)) :
    p_323 (a0) (a1) (a2) (a3) σ (Int32.ofInt (0)) (q_w τ1 a3 (Int32.ofInt (0)).toNatClampNeg (.long r1.toInt64)) := by
  exact ⟨_, _, g1, Or.inl ⟨_, rfl, rfl, rfl⟩⟩
theorem sp_323_ex2_ (a0 : Nat) (a1 : Int32) (a2 : Int32) (a3 : Nat) (σ : zSg) (τ1 : zSg) (g1 : p_129 a0 a1 a2 σ (.inr 2) τ1) :
    p_323 (a0) (a1) (a2) (a3) σ (Int32.ofInt (1)) τ1 := by
  exact ⟨_, _, g1, Or.inr (Or.inl (⟨rfl, rfl, rfl⟩))⟩
theorem sp_323_ex0_ (a0 : Nat) (a1 : Int32) (a2 : Int32) (a3 : Nat) (σ : zSg) (τ1 : zSg) (g1 : p_129 a0 a1 a2 σ (.inr 0) τ1) :
    p_323 (a0) (a1) (a2) (a3) σ (Int32.ofInt (2)) τ1 := by
  exact ⟨_, _, g1, Or.inr (Or.inr (Or.inl (⟨rfl, rfl, rfl⟩)))⟩
theorem sp_323_ex4_ (a0 : Nat) (a1 : Int32) (a2 : Int32) (a3 : Nat) (σ : zSg) (τ1 : zSg) (g1 : p_129 a0 a1 a2 σ (.inr 4) τ1) :
    p_323 (a0) (a1) (a2) (a3) σ (Int32.ofInt (3)) τ1 := by
  exact ⟨_, _, g1, Or.inr (Or.inr (Or.inr (⟨rfl, rfl, rfl⟩)))⟩
noncomputable def qP_323 : zPp := fun as σ o σ' => match as with
  | [a0, a1, a2, a3] => ∃ r, o = .inl (some (.int r)) ∧ p_323 (q_r a0) (q_i a1) (q_i a2) (q_r a3) σ r σ'
  | _ => True
set_option maxRecDepth 100000 in
theorem sp_323 {sx : zX} (S129 : zEe sx 129 3 qP_129) : zEe sx 323 4 qP_323 := by
  refine zfle zJ_323 (sps := [(129, 3, qP_129)]) (fun q hq => by
    simp only [List.mem_cons, List.not_mem_nil, or_false] at hq
    rcases hq with rfl
    · exact S129) (fun as σ hl => ?_)
  match as, hl with
  | [a0, a1, a2, a3], _ =>
  refine ⟨[], 400, ?_, ?_⟩
  · exact fun q hq => absurd hq List.not_mem_nil
  · refine fun o1 τ1 g1 => ?_
    rcases g1 with ⟨r1, rfl, g1⟩ | ⟨rfl, g1⟩ | ⟨rfl, g1⟩ | ⟨rfl, g1⟩
    · refine fun h2 => ?_
      exact ⟨_, rfl, sp_323_en (q_r a0) (q_i a1) (q_i a2) (q_r a3) σ τ1 r1 g1 (q_inp h2)⟩
    · exact ⟨_, rfl, sp_323_ex2_ (q_r a0) (q_i a1) (q_i a2) (q_r a3) σ τ1 g1⟩
    · exact ⟨_, rfl, sp_323_ex0_ (q_r a0) (q_i a1) (q_i a2) (q_r a3) σ τ1 g1⟩
    · exact ⟨_, rfl, sp_323_ex4_ (q_r a0) (q_i a1) (q_i a2) (q_r a3) σ τ1 g1⟩
theorem zJ_324 : zJ3 324 z_m324 z_c324 z_h324 := ⟨rfl, rfl, rfl⟩
noncomputable def p_324 (a : Nat) (a1 : Int32) (o : Nat) (σ : zSg) (k : Int32) (σ' : zSg) : Prop := ∃ e τ, p_130 a a1 σ e τ ∧ ((∃ v, e = .inl v ∧ k = Int32.ofInt 0 ∧ σ' = q_w τ o 0 (.long v.toInt64)) ∨ (e = .inr 2 ∧ k = Int32.ofInt 1 ∧ σ' = τ) ∨ (e = .inr 4 ∧ k = Int32.ofInt 2 ∧ σ' = τ))
theorem sp_324_en (a0 : Nat) (a1 : Int32) (a2 : Nat) (σ : zSg) (τ1 : zSg) (r1 : Int32) (g1 : p_130 a0 a1 σ (.inl r1) τ1) (h2 : 0 ≤ (Int32.ofInt (0)).toInt ∧ (Int32.ofInt (0)).toInt < (τ1.2.1 a2 : Int)) :
    p_324 (a0) (a1) (a2) σ (Int32.ofInt (0)) (q_w τ1 a2 (Int32.ofInt (0)).toNatClampNeg (.long r1.toInt64)) := by
  exact ⟨_, _, g1, Or.inl ⟨_, rfl, rfl, rfl⟩⟩
theorem sp_324_ex2_ (a0 : Nat) (a1 : Int32) (a2 : Nat) (σ : zSg) (τ1 : zSg) (g1 : p_130 a0 a1 σ (.inr 2) τ1) :
    p_324 (a0) (a1) (a2) σ (Int32.ofInt (1)) τ1 := by
  exact ⟨_, _, g1, Or.inr (Or.inl (⟨rfl, rfl, rfl⟩))⟩
theorem sp_324_ex4_ (a0 : Nat) (a1 : Int32) (a2 : Nat) (σ : zSg) (τ1 : zSg) (g1 : p_130 a0 a1 σ (.inr 4) τ1) :
    p_324 (a0) (a1) (a2) σ (Int32.ofInt (2)) τ1 := by
  exact ⟨_, _, g1, Or.inr (Or.inr (⟨rfl, rfl, rfl⟩))⟩
noncomputable def qP_324 : zPp := fun as σ o σ' => match as with
  | [a0, a1, a2] => ∃ r, o = .inl (some (.int r)) ∧ p_324 (q_r a0) (q_i a1) (q_r a2) σ r σ'
  | _ => True
set_option maxRecDepth 100000 in
theorem sp_324 {sx : zX} (S130 : zEe sx 130 2 qP_130) : zEe sx 324 3 qP_324 := by
  refine zfle zJ_324 (sps := [(130, 2, qP_130)]) (fun q hq => by
    simp only [List.mem_cons, List.not_mem_nil, or_false] at hq
    rcases hq with rfl
    · exact S130) (fun as σ hl => ?_)
  match as, hl with
  | [a0, a1, a2], _ =>
  refine ⟨[], 400, ?_, ?_⟩
  · exact fun q hq => absurd hq List.not_mem_nil
  · refine fun o1 τ1 g1 => ?_
    rcases g1 with ⟨r1, rfl, g1⟩ | ⟨rfl, g1⟩ | ⟨rfl, g1⟩
    · refine fun h2 => ?_
      exact ⟨_, rfl, sp_324_en (q_r a0) (q_i a1) (q_r a2) σ τ1 r1 g1 (q_inp h2)⟩
    · exact ⟨_, rfl, sp_324_ex2_ (q_r a0) (q_i a1) (q_r a2) σ τ1 g1⟩
    · exact ⟨_, rfl, sp_324_ex4_ (q_r a0) (q_i a1) (q_r a2) σ τ1 g1⟩
theorem zJ_325 : zJ3 325 z_m325 z_c325 z_h325 := ⟨rfl, rfl, rfl⟩
noncomputable def p_325 (a : Nat) (a1 : Int32) (o : Nat) (σ : zSg) (k : Int32) (σ' : zSg) : Prop := ∃ e τ, p_131 a a1 σ e τ ∧ ((∃ v, e = .inl v ∧ k = Int32.ofInt 0 ∧ σ' = q_w τ o 0 (.long v.toInt64)) ∨ (e = .inr 2 ∧ k = Int32.ofInt 1 ∧ σ' = τ) ∨ (e = .inr 4 ∧ k = Int32.ofInt 2 ∧ σ' = τ))
theorem sp_325_en (a0 : Nat) (a1 : Int32) (a2 : Nat) (σ : zSg) (τ1 : zSg) (r1 : Int32) (g1 : p_131 a0 a1 σ (.inl r1) τ1) (h2 : 0 ≤ (Int32.ofInt (0)).toInt ∧ (Int32.ofInt (0)).toInt < (τ1.2.1 a2 : Int)) :
    p_325 (a0) (a1) (a2) σ (Int32.ofInt (0)) (q_w τ1 a2 (Int32.ofInt (0)).toNatClampNeg (.long r1.toInt64)) := by
  exact ⟨_, _, g1, Or.inl ⟨_, rfl, rfl, rfl⟩⟩
theorem sp_325_ex2_ (a0 : Nat) (a1 : Int32) (a2 : Nat) (σ : zSg) (τ1 : zSg) (g1 : p_131 a0 a1 σ (.inr 2) τ1) :
    p_325 (a0) (a1) (a2) σ (Int32.ofInt (1)) τ1 := by
  exact ⟨_, _, g1, Or.inr (Or.inl (⟨rfl, rfl, rfl⟩))⟩
theorem sp_325_ex4_ (a0 : Nat) (a1 : Int32) (a2 : Nat) (σ : zSg) (τ1 : zSg) (g1 : p_131 a0 a1 σ (.inr 4) τ1) :
    p_325 (a0) (a1) (a2) σ (Int32.ofInt (2)) τ1 := by
  exact ⟨_, _, g1, Or.inr (Or.inr (⟨rfl, rfl, rfl⟩))⟩
noncomputable def qP_325 : zPp := fun as σ o σ' => match as with
  | [a0, a1, a2] => ∃ r, o = .inl (some (.int r)) ∧ p_325 (q_r a0) (q_i a1) (q_r a2) σ r σ'
  | _ => True
set_option maxRecDepth 100000 in
theorem sp_325 {sx : zX} (S131 : zEe sx 131 2 qP_131) : zEe sx 325 3 qP_325 := by
  refine zfle zJ_325 (sps := [(131, 2, qP_131)]) (fun q hq => by
    simp only [List.mem_cons, List.not_mem_nil, or_false] at hq
    rcases hq with rfl
    · exact S131) (fun as σ hl => ?_)
  match as, hl with
  | [a0, a1, a2], _ =>
  refine ⟨[], 400, ?_, ?_⟩
  · exact fun q hq => absurd hq List.not_mem_nil
  · refine fun o1 τ1 g1 => ?_
    rcases g1 with ⟨r1, rfl, g1⟩ | ⟨rfl, g1⟩ | ⟨rfl, g1⟩
    · refine fun h2 => ?_
      exact ⟨_, rfl, sp_325_en (q_r a0) (q_i a1) (q_r a2) σ τ1 r1 g1 (q_inp h2)⟩
    · exact ⟨_, rfl, sp_325_ex2_ (q_r a0) (q_i a1) (q_r a2) σ τ1 g1⟩
    · exact ⟨_, rfl, sp_325_ex4_ (q_r a0) (q_i a1) (q_r a2) σ τ1 g1⟩
theorem zJ_326 : zJ3 326 z_m326 z_c326 z_h326 := ⟨rfl, rfl, rfl⟩
noncomputable def p_326 (a : Nat) (a1 : Int32) (o : Nat) (σ : zSg) (k : Int32) (σ' : zSg) : Prop := ∃ e τ, p_132 a a1 σ e τ ∧ ((∃ v, e = .inl v ∧ k = Int32.ofInt 0 ∧ σ' = q_w τ o 0 (.long v.toInt64)) ∨ (e = .inr 2 ∧ k = Int32.ofInt 1 ∧ σ' = τ) ∨ (e = .inr 4 ∧ k = Int32.ofInt 2 ∧ σ' = τ))
theorem sp_326_en (a0 : Nat) (a1 : Int32) (a2 : Nat) (σ : zSg) (τ1 : zSg) (r1 : Int32) (g1 : p_132 a0 a1 σ (.inl r1) τ1) (h2 : 0 ≤ (Int32.ofInt (0)).toInt ∧ (Int32.ofInt (0)).toInt < (τ1.2.1 a2 : Int)) :
    p_326 (a0) (a1) (a2) σ (Int32.ofInt (0)) (q_w τ1 a2 (Int32.ofInt (0)).toNatClampNeg (.long r1.toInt64)) := by
  exact ⟨_, _, g1, Or.inl ⟨_, rfl, rfl, rfl⟩⟩
theorem sp_326_ex2_ (a0 : Nat) (a1 : Int32) (a2 : Nat) (σ : zSg) (τ1 : zSg) (g1 : p_132 a0 a1 σ (.inr 2) τ1) :
    p_326 (a0) (a1) (a2) σ (Int32.ofInt (1)) τ1 := by
  exact ⟨_, _, g1, Or.inr (Or.inl (⟨rfl, rfl, rfl⟩))⟩
theorem sp_326_ex4_ (a0 : Nat) (a1 : Int32) (a2 : Nat) (σ : zSg) (τ1 : zSg) (g1 : p_132 a0 a1 σ (.inr 4) τ1) :
    p_326 (a0) (a1) (a2) σ (Int32.ofInt (2)) τ1 := by
  exact ⟨_, _, g1, Or.inr (Or.inr (⟨rfl, rfl, rfl⟩))⟩
noncomputable def qP_326 : zPp := fun as σ o σ' => match as with
  | [a0, a1, a2] => ∃ r, o = .inl (some (.int r)) ∧ p_326 (q_r a0) (q_i a1) (q_r a2) σ r σ'
  | _ => True
set_option maxRecDepth 100000 in
theorem sp_326 {sx : zX} (S132 : zEe sx 132 2 qP_132) : zEe sx 326 3 qP_326 := by
  refine zfle zJ_326 (sps := [(132, 2, qP_132)]) (fun q hq => by
    simp only [List.mem_cons, List.not_mem_nil, or_false] at hq
    rcases hq with rfl
    · exact S132) (fun as σ hl => ?_)
  match as, hl with
  | [a0, a1, a2], _ =>
  refine ⟨[], 400, ?_, ?_⟩
  · exact fun q hq => absurd hq List.not_mem_nil
  · refine fun o1 τ1 g1 => ?_
    rcases g1 with ⟨r1, rfl, g1⟩ | ⟨rfl, g1⟩ | ⟨rfl, g1⟩
    · refine fun h2 => ?_
      exact ⟨_, rfl, sp_326_en (q_r a0) (q_i a1) (q_r a2) σ τ1 r1 g1 (q_inp h2)⟩
    · exact ⟨_, rfl, sp_326_ex2_ (q_r a0) (q_i a1) (q_r a2) σ τ1 g1⟩
    · exact ⟨_, rfl, sp_326_ex4_ (q_r a0) (q_i a1) (q_r a2) σ τ1 g1⟩
theorem zJ_327 : zJ3 327 z_m327 z_c327 z_h327 := ⟨rfl, rfl, rfl⟩
noncomputable def p_327 (a : Nat) (o : Nat) (σ : zSg) (k : Int32) (σ' : zSg) : Prop := ∃ e τ, p_133 a  σ e τ ∧ ((∃ v, e = .inl v ∧ k = Int32.ofInt 0 ∧ σ' = q_w τ o 0 (.long v.toInt64)) ∨ (e = .inr 4 ∧ k = Int32.ofInt 1 ∧ σ' = τ))
theorem sp_327_en (a0 : Nat) (a1 : Nat) (σ : zSg) (τ1 : zSg) (r1 : Int32) (g1 : p_133 a0 σ (.inl r1) τ1) (h2 : 0 ≤ (Int32.ofInt (0)).toInt ∧ (Int32.ofInt (0)).toInt < (τ1.2.1 a1 : Int)) :
    p_327 (a0) (a1) σ (Int32.ofInt (0)) (q_w τ1 a1 (Int32.ofInt (0)).toNatClampNeg (.long r1.toInt64)) := by
  exact ⟨_, _, g1, Or.inl ⟨_, rfl, rfl, rfl⟩⟩
theorem sp_327_ex4_ (a0 : Nat) (a1 : Nat) (σ : zSg) (τ1 : zSg) (g1 : p_133 a0 σ (.inr 4) τ1) :
    p_327 (a0) (a1) σ (Int32.ofInt (1)) τ1 := by
  exact ⟨_, _, g1, Or.inr (⟨rfl, rfl, rfl⟩)⟩
noncomputable def qP_327 : zPp := fun as σ o σ' => match as with
  | [a0, a1] => ∃ r, o = .inl (some (.int r)) ∧ p_327 (q_r a0) (q_r a1) σ r σ'
  | _ => True
set_option maxRecDepth 100000 in
theorem sp_327 {sx : zX} (S133 : zEe sx 133 1 qP_133) : zEe sx 327 2 qP_327 := by
  refine zfle zJ_327 (sps := [(133, 1, qP_133)]) (fun q hq => by
    simp only [List.mem_cons, List.not_mem_nil, or_false] at hq
    rcases hq with rfl
    · exact S133) (fun as σ hl => ?_)
  match as, hl with
  | [a0, a1], _ =>
  refine ⟨[], 400, ?_, ?_⟩
  · exact fun q hq => absurd hq List.not_mem_nil
  · refine fun o1 τ1 g1 => ?_
    rcases g1 with ⟨r1, rfl, g1⟩ | ⟨rfl, g1⟩
    · refine fun h2 => ?_
      exact ⟨_, rfl, sp_327_en (q_r a0) (q_r a1) σ τ1 r1 g1 (q_inp h2)⟩
    · exact ⟨_, rfl, sp_327_ex4_ (q_r a0) (q_r a1) σ τ1 g1⟩
theorem zJ_328 : zJ3 328 z_m328 z_c328 z_h328 := ⟨rfl, rfl, rfl⟩
noncomputable def p_328 (a : Nat) (a1 : Int32) (o : Nat) (σ : zSg) (k : Int32) (σ' : zSg) : Prop := ∃ e τ, p_135 a a1 σ e τ ∧ ((∃ v, e = .inl v ∧ k = Int32.ofInt 0 ∧ σ' = q_w τ o 0 (.long v.toInt64)) ∨ (e = .inr 0 ∧ k = Int32.ofInt 1 ∧ σ' = τ))
theorem sp_328_en (a0 : Nat) (a1 : Int32) (a2 : Nat) (σ : zSg) (τ1 : zSg) (r1 : Int32) (g1 : p_135 a0 a1 σ (.inl r1) τ1) (h2 : 0 ≤ (Int32.ofInt (0)).toInt ∧ (Int32.ofInt (0)).toInt < (τ1.2.1 a2 : Int)) :
    p_328 (a0) (a1) (a2) σ (Int32.ofInt (0)) (q_w τ1 a2 (Int32.ofInt (0)).toNatClampNeg (.long r1.toInt64)) := by
  exact ⟨_, _, g1, Or.inl ⟨_, rfl, rfl, rfl⟩⟩
theorem sp_328_ex0_ (a0 : Nat) (a1 : Int32) (a2 : Nat) (σ : zSg) (τ1 : zSg) (g1 : p_135 a0 a1 σ (.inr 0) τ1) :
    p_328 (a0) (a1) (a2) σ (Int32.ofInt (1)) τ1 := by
  exact ⟨_, _, g1, Or.inr (⟨rfl, rfl, rfl⟩)⟩
noncomputable def qP_328 : zPp := fun as σ o σ' => match as with
  | [a0, a1, a2] => ∃ r, o = .inl (some (.int r)) ∧ p_328 (q_r a0) (q_i a1) (q_r a2) σ r σ'
  | _ => True
set_option maxRecDepth 100000 in
theorem sp_328 {sx : zX} (S135 : zEe sx 135 2 qP_135) : zEe sx 328 3 qP_328 := by
  refine zfle zJ_328 (sps := [(135, 2, qP_135)]) (fun q hq => by
    simp only [List.mem_cons, List.not_mem_nil, or_false] at hq
    rcases hq with rfl
    · exact S135) (fun as σ hl => ?_)
  match as, hl with
  | [a0, a1, a2], _ =>
  refine ⟨[], 400, ?_, ?_⟩
  · exact fun q hq => absurd hq List.not_mem_nil
  · refine fun o1 τ1 g1 => ?_
    rcases g1 with ⟨r1, rfl, g1⟩ | ⟨rfl, g1⟩
    · refine fun h2 => ?_
      exact ⟨_, rfl, sp_328_en (q_r a0) (q_i a1) (q_r a2) σ τ1 r1 g1 (q_inp h2)⟩
    · exact ⟨_, rfl, sp_328_ex0_ (q_r a0) (q_i a1) (q_r a2) σ τ1 g1⟩
theorem zJ_335 : zJ3 335 z_m335 z_c335 z_h335 := ⟨rfl, rfl, rfl⟩
noncomputable def p_335 (a : Nat) (a1 a2 : Int32) (o : Nat) (σ : zSg) (k : Int32) (σ' : zSg) : Prop := ∃ e τ, p_151 a a1 a2 σ e τ ∧ ((∃ v, e = .inl v ∧ k = Int32.ofInt 0 ∧ σ' = q_w τ o 0 (.long v.toInt64)) ∨ (e = .inr 0 ∧ k = Int32.ofInt 1 ∧ σ' = τ) ∨ (e = .inr 3 ∧ k = Int32.ofInt 2 ∧ σ' = τ))
theorem sp_335_en (a0 : Nat) (a1 : Int32) (a2 : Int32) (a3 : Nat) (σ : zSg) (τ1 : zSg) (r1 : Int32) (g1 : p_151 a0 a1 a2 σ (.inl r1) τ1) (h2 : 0 ≤ (Int32.ofInt (0)).toInt ∧ (Int32.ofInt (0)).toInt < (τ1.2.1 a3 : Int)) :
    p_335 (a0) (a1) (a2) (a3) σ (Int32.ofInt (0)) (q_w τ1 a3 (Int32.ofInt (0)).toNatClampNeg (.long r1.toInt64)) := by
  exact ⟨_, _, g1, Or.inl ⟨_, rfl, rfl, rfl⟩⟩
theorem sp_335_ex0_ (a0 : Nat) (a1 : Int32) (a2 : Int32) (a3 : Nat) (σ : zSg) (τ1 : zSg) (g1 : p_151 a0 a1 a2 σ (.inr 0) τ1) :
    p_335 (a0) (a1) (a2) (a3) σ (Int32.ofInt (1)) τ1 := by
  exact ⟨_, _, g1, Or.inr (Or.inl (⟨rfl, rfl, rfl⟩))⟩
theorem sp_335_ex3_ (a0 : Nat) (a1 : Int32) (a2 : Int32) (a3 : Nat) (σ : zSg) (τ1 : zSg) (g1 : p_151 a0 a1 a2 σ (.inr 3) τ1) :
    p_335 (a0) (a1) (a2) (a3) σ (Int32.ofInt (2)) τ1 := by
  exact ⟨_, _, g1, Or.inr (Or.inr (⟨rfl, rfl, rfl⟩))⟩
noncomputable def qP_335 : zPp := fun as σ o σ' => match as with
  | [a0, a1, a2, a3] => ∃ r, o = .inl (some (.int r)) ∧ p_335 (q_r a0) (q_i a1) (q_i a2) (q_r a3) σ r σ'
  | _ => True
set_option maxRecDepth 100000 in
theorem sp_335 {sx : zX} (S151 : zEe sx 151 3 qP_151) : zEe sx 335 4 qP_335 := by
  refine zfle zJ_335 (sps := [(151, 3, qP_151)]) (fun q hq => by
    simp only [List.mem_cons, List.not_mem_nil, or_false] at hq
    rcases hq with rfl
    · exact S151) (fun as σ hl => ?_)
  match as, hl with
  | [a0, a1, a2, a3], _ =>
  refine ⟨[], 400, ?_, ?_⟩
  · exact fun q hq => absurd hq List.not_mem_nil
  · refine fun o1 τ1 g1 => ?_
    rcases g1 with ⟨r1, rfl, g1⟩ | ⟨rfl, g1⟩ | ⟨rfl, g1⟩
    · refine fun h2 => ?_
      exact ⟨_, rfl, sp_335_en (q_r a0) (q_i a1) (q_i a2) (q_r a3) σ τ1 r1 g1 (q_inp h2)⟩
    · exact ⟨_, rfl, sp_335_ex0_ (q_r a0) (q_i a1) (q_i a2) (q_r a3) σ τ1 g1⟩
    · exact ⟨_, rfl, sp_335_ex3_ (q_r a0) (q_i a1) (q_i a2) (q_r a3) σ τ1 g1⟩
theorem zJ_336 : zJ3 336 z_m336 z_c336 z_h336 := ⟨rfl, rfl, rfl⟩
noncomputable def p_336 (a : Nat) (a1 : Int32) (o : Nat) (σ : zSg) (k : Int32) (σ' : zSg) : Prop := ∃ e τ, p_152 a a1 σ e τ ∧ ((∃ v, e = .inl v ∧ k = Int32.ofInt 0 ∧ σ' = q_w τ o 0 (.long v.toInt64)) ∨ (e = .inr 0 ∧ k = Int32.ofInt 1 ∧ σ' = τ))
theorem sp_336_en (a0 : Nat) (a1 : Int32) (a2 : Nat) (σ : zSg) (τ1 : zSg) (r1 : Int32) (g1 : p_152 a0 a1 σ (.inl r1) τ1) (h2 : 0 ≤ (Int32.ofInt (0)).toInt ∧ (Int32.ofInt (0)).toInt < (τ1.2.1 a2 : Int)) :
    p_336 (a0) (a1) (a2) σ (Int32.ofInt (0)) (q_w τ1 a2 (Int32.ofInt (0)).toNatClampNeg (.long r1.toInt64)) := by
  exact ⟨_, _, g1, Or.inl ⟨_, rfl, rfl, rfl⟩⟩
theorem sp_336_ex0_ (a0 : Nat) (a1 : Int32) (a2 : Nat) (σ : zSg) (τ1 : zSg) (g1 : p_152 a0 a1 σ (.inr 0) τ1) :
    p_336 (a0) (a1) (a2) σ (Int32.ofInt (1)) τ1 := by
  exact ⟨_, _, g1, Or.inr (⟨rfl, rfl, rfl⟩)⟩
noncomputable def qP_336 : zPp := fun as σ o σ' => match as with
  | [a0, a1, a2] => ∃ r, o = .inl (some (.int r)) ∧ p_336 (q_r a0) (q_i a1) (q_r a2) σ r σ'
  | _ => True
set_option maxRecDepth 100000 in
theorem sp_336 {sx : zX} (S152 : zEe sx 152 2 qP_152) : zEe sx 336 3 qP_336 := by
  refine zfle zJ_336 (sps := [(152, 2, qP_152)]) (fun q hq => by
    simp only [List.mem_cons, List.not_mem_nil, or_false] at hq
    rcases hq with rfl
    · exact S152) (fun as σ hl => ?_)
  match as, hl with
  | [a0, a1, a2], _ =>
  refine ⟨[], 400, ?_, ?_⟩
  · exact fun q hq => absurd hq List.not_mem_nil
  · refine fun o1 τ1 g1 => ?_
    rcases g1 with ⟨r1, rfl, g1⟩ | ⟨rfl, g1⟩
    · refine fun h2 => ?_
      exact ⟨_, rfl, sp_336_en (q_r a0) (q_i a1) (q_r a2) σ τ1 r1 g1 (q_inp h2)⟩
    · exact ⟨_, rfl, sp_336_ex0_ (q_r a0) (q_i a1) (q_r a2) σ τ1 g1⟩
theorem zJ_337 : zJ3 337 z_m337 z_c337 z_h337 := ⟨rfl, rfl, rfl⟩
noncomputable def p_337 (a : Nat) (a1 : Int32) (o : Nat) (σ : zSg) (k : Int32) (σ' : zSg) : Prop := ∃ e τ, p_153 a a1 σ e τ ∧ ((∃ v, e = .inl v ∧ k = Int32.ofInt 0 ∧ σ' = q_w τ o 0 (.long v.toInt64)) ∨ (e = .inr 0 ∧ k = Int32.ofInt 1 ∧ σ' = τ))
theorem sp_337_en (a0 : Nat) (a1 : Int32) (a2 : Nat) (σ : zSg) (τ1 : zSg) (r1 : Int32) (g1 : p_153 a0 a1 σ (.inl r1) τ1) (h2 : 0 ≤ (Int32.ofInt (0)).toInt ∧ (Int32.ofInt (0)).toInt < (τ1.2.1 a2 : Int)) :
    p_337 (a0) (a1) (a2) σ (Int32.ofInt (0)) (q_w τ1 a2 (Int32.ofInt (0)).toNatClampNeg (.long r1.toInt64)) := by
  exact ⟨_, _, g1, Or.inl ⟨_, rfl, rfl, rfl⟩⟩
theorem sp_337_ex0_ (a0 : Nat) (a1 : Int32) (a2 : Nat) (σ : zSg) (τ1 : zSg) (g1 : p_153 a0 a1 σ (.inr 0) τ1) :
    p_337 (a0) (a1) (a2) σ (Int32.ofInt (1)) τ1 := by
  exact ⟨_, _, g1, Or.inr (⟨rfl, rfl, rfl⟩)⟩
noncomputable def qP_337 : zPp := fun as σ o σ' => match as with
  | [a0, a1, a2] => ∃ r, o = .inl (some (.int r)) ∧ p_337 (q_r a0) (q_i a1) (q_r a2) σ r σ'
  | _ => True
set_option maxRecDepth 100000 in
theorem sp_337 {sx : zX} (S153 : zEe sx 153 2 qP_153) : zEe sx 337 3 qP_337 := by
  refine zfle zJ_337 (sps := [(153, 2, qP_153)]) (fun q hq => by
    simp only [List.mem_cons, List.not_mem_nil, or_false] at hq
    rcases hq with rfl
    · exact S153) (fun as σ hl => ?_)
  match as, hl with
  | [a0, a1, a2], _ =>
  refine ⟨[], 400, ?_, ?_⟩
  · exact fun q hq => absurd hq List.not_mem_nil
  · refine fun o1 τ1 g1 => ?_
    rcases g1 with ⟨r1, rfl, g1⟩ | ⟨rfl, g1⟩
    · refine fun h2 => ?_
      exact ⟨_, rfl, sp_337_en (q_r a0) (q_i a1) (q_r a2) σ τ1 r1 g1 (q_inp h2)⟩
    · exact ⟨_, rfl, sp_337_ex0_ (q_r a0) (q_i a1) (q_r a2) σ τ1 g1⟩
theorem zJ_338 : zJ3 338 z_m338 z_c338 z_h338 := ⟨rfl, rfl, rfl⟩
noncomputable def p_338 (a : Nat) (a1 : Int32) (o : Nat) (σ : zSg) (k : Int32) (σ' : zSg) : Prop := ∃ e τ, p_154 a a1 σ e τ ∧ ((∃ v, e = .inl v ∧ k = Int32.ofInt 0 ∧ σ' = q_w τ o 0 (.long v.toInt64)) ∨ (e = .inr 2 ∧ k = Int32.ofInt 1 ∧ σ' = τ))
theorem sp_338_en (a0 : Nat) (a1 : Int32) (a2 : Nat) (σ : zSg) (τ1 : zSg) (r1 : Int32) (g1 : p_154 a0 a1 σ (.inl r1) τ1) (h2 : 0 ≤ (Int32.ofInt (0)).toInt ∧ (Int32.ofInt (0)).toInt < (τ1.2.1 a2 : Int)) :
    p_338 (a0) (a1) (a2) σ (Int32.ofInt (0)) (q_w τ1 a2 (Int32.ofInt (0)).toNatClampNeg (.long r1.toInt64)) := by
  exact ⟨_, _, g1, Or.inl ⟨_, rfl, rfl, rfl⟩⟩
theorem sp_338_ex2_ (a0 : Nat) (a1 : Int32) (a2 : Nat) (σ : zSg) (τ1 : zSg) (g1 : p_154 a0 a1 σ (.inr 2) τ1) :
    p_338 (a0) (a1) (a2) σ (Int32.ofInt (1)) τ1 := by
  exact ⟨_, _, g1, Or.inr (⟨rfl, rfl, rfl⟩)⟩
noncomputable def qP_338 : zPp := fun as σ o σ' => match as with
  | [a0, a1, a2] => ∃ r, o = .inl (some (.int r)) ∧ p_338 (q_r a0) (q_i a1) (q_r a2) σ r σ'
  | _ => True
set_option maxRecDepth 100000 in
theorem sp_338 {sx : zX} (S154 : zEe sx 154 2 qP_154) : zEe sx 338 3 qP_338 := by
  refine zfle zJ_338 (sps := [(154, 2, qP_154)]) (fun q hq => by
    simp only [List.mem_cons, List.not_mem_nil, or_false] at hq
    rcases hq with rfl
    · exact S154) (fun as σ hl => ?_)
  match as, hl with
  | [a0, a1, a2], _ =>
  refine ⟨[], 400, ?_, ?_⟩
  · exact fun q hq => absurd hq List.not_mem_nil
  · refine fun o1 τ1 g1 => ?_
    rcases g1 with ⟨r1, rfl, g1⟩ | ⟨rfl, g1⟩
    · refine fun h2 => ?_
      exact ⟨_, rfl, sp_338_en (q_r a0) (q_i a1) (q_r a2) σ τ1 r1 g1 (q_inp h2)⟩
    · exact ⟨_, rfl, sp_338_ex2_ (q_r a0) (q_i a1) (q_r a2) σ τ1 g1⟩
theorem zJ_339 : zJ3 339 z_m339 z_c339 z_h339 := ⟨rfl, rfl, rfl⟩
noncomputable def p_121w (x : Nat) (σ : zSg) (e : Int32 ⊕ Nat) (σ' : zSg) : Prop := p_121 x σ e σ' ∧ ∀ t r nw me C K0 K1 K2 B b E, cLw σ x t r nw me C K0 K1 K2 B b E → e = .inr 0 → σ'.2 = σ.2 ∧ σ'.1 nw 5 = σ.1 nw 5 ∧ σ'.1 me 2 = σ.1 me 2
theorem sp_121w_et (a0 : Nat) (σ : zSg) (τ1 : zSg) (r1 : Int32) (τ3 : zSg) (r3 : Nat) (τ4 : zSg) (g1 : p_47 (q_r (σ.1 a0 1)) (q_r (σ.1 a0 0)) σ r1 τ1) (h2 : (q_i ((q_w (q_w τ1 a0 7 (.int r1)) (q_r ((q_w τ1 a0 7 (.int r1)).1 a0 0)) 1 (.int (Int32.ofInt (0)))).1 a0 7)).toInt = (-1 : Int)) (g3 : p_48 (q_r ((q_w (q_w τ1 a0 7 (.int r1)) (q_r ((q_w τ1 a0 7 (.int r1)).1 a0 0)) 1 (.int (Int32.ofInt (0)))).1 a0 1)) (q_w (q_w τ1 a0 7 (.int r1)) (q_r ((q_w τ1 a0 7 (.int r1)).1 a0 0)) 1 (.int (Int32.ofInt (0)))) r3 τ3) (g4 : p_64 (q_r ((q_w τ3 (q_r (τ3.1 a0 2)) 5 (.ref r3)).1 a0 5)) (q_w τ3 (q_r (τ3.1 a0 2)) 5 (.ref r3)) τ4) :
    p_121w (a0) σ (.inl (q_i (τ4.1 r3 0))) τ4 := by
  exact ⟨sp_121_et _ _ _ _ _ _ _ g1 h2 g3 g4, fun _ _ _ _ _ _ _ _ _ _ _ _ h => (by cases h)⟩
theorem sp_121w_ef (a0 : Nat) (σ : zSg) (τ1 : zSg) (r1 : Int32) (g1 : p_47 (q_r (σ.1 a0 1)) (q_r (σ.1 a0 0)) σ r1 τ1) (h2 : (q_i ((q_w (q_w τ1 a0 7 (.int r1)) (q_r ((q_w τ1 a0 7 (.int r1)).1 a0 0)) 1 (.int (Int32.ofInt (0)))).1 a0 7)).toInt ≠ (-1 : Int)) :
    p_121w (a0) σ (.inr 0) (q_w (q_w τ1 a0 7 (.int r1)) (q_r ((q_w τ1 a0 7 (.int r1)).1 a0 0)) 1 (.int (Int32.ofInt (0)))) := by
  refine ⟨sp_121_ef _ _ _ _ g1 h2, ?_⟩
  intro t r nw me C K0 K1 K2 B b E H
  obtain ⟨x0, x1, x2, x5, t0, hA, ⟨l0, l1, l2⟩, ⟨n0, n1, n2, n3, n4, n5, n6, n7, n8⟩, ⟨d1, d2, d3, d4, d5, d6, d7, d8⟩, ⟨w1, w2, w3, w4, w5, w6, w7⟩, ⟨v1, v2, v3, v4, v5, v6⟩⟩ := H
  have qt : q_r (σ.1 a0 0) = t := by rw [x0]; rfl
  have qr : q_r (σ.1 a0 1) = r := by rw [x1]; rfl
  rw [qt, qr] at g1
  obtain ⟨hH, R, hR, hT⟩ := g1 C K0 K1 K2 b E hA
  have hN : τ1.2.2 = σ.2.2 := by rw [hH.1]
  have hx : ∀ k, τ1.1 a0 k = σ.1 a0 k := fun k => hH.2 a0 k (fun q => d1 q.1) (fun q => d2 q.1) d5 d6 d7 d8
  have hn : ∀ k, τ1.1 nw k = σ.1 nw k := fun k => hH.2 nw k (fun q => w1 q.1) (fun q => w2 q.1) w4 w5 w6 w7
  have hm : ∀ k, τ1.1 me k = σ.1 me k := fun k => hH.2 me k (fun q => v1 q.1) (fun q => v2 q.1) v3 v4 v5 v6
  have qt2 : q_r ((q_w τ1 a0 7 (.int r1)).1 a0 0) = t := by rw [q_w_ne (fun _ q => by omega), hx, x0]; rfl
  simp only [qt2] at *
  have e7 : (q_w (q_w τ1 a0 7 (.int r1)) t 1 (.int (Int32.ofInt 0))).1 a0 7 = .int r1 := by rw [q_w_ne (fun q _ => d1 q), q_w_at]
  intro _
  refine ⟨hH.1, ?_, ?_⟩
  · rw [q_w_ne (fun q _ => w1 q), q_w_ne (fun q _ => d3 q.symm)]; exact hn 5
  · rw [q_w_ne (fun q _ => v1 q), q_w_ne (fun q _ => d4 q.symm)]; exact hm 2
noncomputable def qP_121w : zPp := fun as σ o σ' => match as with
  | [a0] => (∃ r, o = .inl (some (.int r)) ∧ p_121w (q_r a0) σ (.inl r) σ') ∨ (o = .inr 0 ∧ p_121w (q_r a0) σ (.inr 0) σ')
  | _ => True
set_option maxRecDepth 100000 in
theorem sp_121w {sx : zX} (S47 : zEe sx 47 2 qP_47) (S48 : zEe sx 48 1 qP_48) (S64 : zEe sx 64 1 qP_64) : zEe sx 121 1 qP_121w := by
  refine zfle zJ_121 (sps := [(47, 2, qP_47), (48, 1, qP_48), (64, 1, qP_64)]) (fun q hq => by
    simp only [List.mem_cons, List.not_mem_nil, or_false] at hq
    rcases hq with rfl | rfl | rfl
    · exact S47
    · exact S48
    · exact S64) (fun as σ hl => ?_)
  match as, hl with
  | [a0], _ =>
  refine ⟨[], 400, ?_, ?_⟩
  · exact fun q hq => absurd hq List.not_mem_nil
  · refine fun o1 τ1 g1 => ?_
    obtain ⟨r1, rfl, g1⟩ := g1
    refine And.intro (fun h2 => ?_) (fun h2 => ?_)
    · refine fun o3 τ3 g3 => ?_
      obtain ⟨r3, rfl, g3⟩ := g3
      refine fun o4 τ4 g4 => ?_
      obtain ⟨rfl, g4⟩ := g4
      exact Or.inl ⟨_, rfl, sp_121w_et (q_r a0) σ τ1 r1 τ3 r3 τ4 g1 (cm0t h2) g3 g4⟩
    · exact Or.inr (⟨rfl, sp_121w_ef (q_r a0) σ τ1 r1 g1 (cm0f h2)⟩)
noncomputable def p_316w (a : Nat) (o : Nat) (σ : zSg) (k : Int32) (σ' : zSg) : Prop := ∃ e τ, p_121w a σ e τ ∧ ((∃ v, e = .inl v ∧ k = Int32.ofInt 0 ∧ σ' = q_w τ o 0 (.long v.toInt64)) ∨ (e = .inr 0 ∧ k = Int32.ofInt 1 ∧ σ' = τ))
theorem sp_316w_en (a0 : Nat) (a1 : Nat) (σ : zSg) (τ1 : zSg) (r1 : Int32) (g1 : p_121w a0 σ (.inl r1) τ1) (h2 : 0 ≤ (Int32.ofInt (0)).toInt ∧ (Int32.ofInt (0)).toInt < (τ1.2.1 a1 : Int)) :
    p_316w (a0) (a1) σ (Int32.ofInt (0)) (q_w τ1 a1 (Int32.ofInt (0)).toNatClampNeg (.long r1.toInt64)) := by
  exact ⟨_, _, g1, Or.inl ⟨_, rfl, rfl, rfl⟩⟩
theorem sp_316w_ex0_ (a0 : Nat) (a1 : Nat) (σ : zSg) (τ1 : zSg) (g1 : p_121w a0 σ (.inr 0) τ1) :
    p_316w (a0) (a1) σ (Int32.ofInt (1)) τ1 := by
  exact ⟨_, _, g1, Or.inr ⟨rfl, rfl, rfl⟩⟩
noncomputable def qP_316w : zPp := fun as σ o σ' => match as with
  | [a0, a1] => ∃ r, o = .inl (some (.int r)) ∧ p_316w (q_r a0) (q_r a1) σ r σ'
  | _ => True
set_option maxRecDepth 100000 in
theorem sp_316w {sx : zX} (S121 : zEe sx 121 1 qP_121w) : zEe sx 316 2 qP_316w := by
  refine zfle zJ_316 (sps := [(121, 1, qP_121w)]) (fun q hq => by
    simp only [List.mem_cons, List.not_mem_nil, or_false] at hq
    rcases hq with rfl
    · exact S121) (fun as σ hl => ?_)
  match as, hl with
  | [a0, a1], _ =>
  refine ⟨[], 400, ?_, ?_⟩
  · exact fun q hq => absurd hq List.not_mem_nil
  · refine fun o1 τ1 g1 => ?_
    rcases g1 with ⟨r1, rfl, g1⟩ | ⟨rfl, g1⟩
    · refine fun h2 => ?_
      exact ⟨_, rfl, sp_316w_en (q_r a0) (q_r a1) σ τ1 r1 g1 (q_inp h2)⟩
    · exact ⟨_, rfl, sp_316w_ex0_ (q_r a0) (q_r a1) σ τ1 g1⟩
theorem zJ_122 : zJ3 122 z_m122 z_c122 z_h122 := ⟨rfl, rfl, rfl⟩
noncomputable def p_122 (a : Nat) (σ : zSg) (r : Int32) (σ' : zSg) : Prop := σ' = σ ∧ r = q_i (σ.1 a 7)
theorem sp_122_e (a0 : Nat) (σ : zSg)  :
    p_122 (a0) σ (q_i (σ.1 a0 7)) σ := by
  exact ⟨rfl, rfl⟩
noncomputable def qP_122 : zPp := fun as σ o σ' => match as with
  | [a0] => ∃ r, o = .inl (some (.int r)) ∧ p_122 (q_r a0) σ r σ'
  | _ => True
set_option maxRecDepth 100000 in
theorem sp_122 {sx : zX}  : zEe sx 122 1 qP_122 := by
  refine zfle zJ_122 (sps := []) (fun q hq => absurd hq List.not_mem_nil) (fun as σ hl => ?_)
  match as, hl with
  | [a0], _ =>
  refine ⟨[], 400, ?_, ?_⟩
  · exact fun q hq => absurd hq List.not_mem_nil
  · exact ⟨_, rfl, sp_122_e (q_r a0) σ ⟩
theorem zJ_209 : zJ3 209 z_m209 z_c209 z_h209 := ⟨rfl, rfl, rfl⟩
noncomputable def p_209 (a : Nat) (σ : zSg) (r : Int32) (σ' : zSg) : Prop := σ' = q_w σ a 0 (.int (Int32.ofInt 0)) ∧ r = q_i (σ.1 a 14)
theorem sp_209_e (a0 : Nat) (σ : zSg)  :
    p_209 (a0) σ (q_i ((q_w σ a0 0 (.int (Int32.ofInt (0)))).1 a0 14)) (q_w σ a0 0 (.int (Int32.ofInt (0)))) := by
  exact ⟨rfl, by rw [q_w_ne (fun _ e => by omega)]⟩
noncomputable def qP_209 : zPp := fun as σ o σ' => match as with
  | [a0] => ∃ r, o = .inl (some (.int r)) ∧ p_209 (q_r a0) σ r σ'
  | _ => True
set_option maxRecDepth 100000 in
theorem sp_209 {sx : zX}  : zEe sx 209 1 qP_209 := by
  refine zfle zJ_209 (sps := []) (fun q hq => absurd hq List.not_mem_nil) (fun as σ hl => ?_)
  match as, hl with
  | [a0], _ =>
  refine ⟨[], 400, ?_, ?_⟩
  · exact fun q hq => absurd hq List.not_mem_nil
  · exact ⟨_, rfl, sp_209_e (q_r a0) σ ⟩
end
section
/-! the reference's does and thing, exact; printed with wip/gen/gen_dr.py -/
theorem rEv.z {σ : zSg} {A : Nat → Int32} {nt : Nat} {Lo : Option (Nat × List gLn4 × zSs)} (K : rEv σ A nt Lo) : rEv (r0 σ) A nt Lo :=
  ⟨K.1.el (by omega), (q_w_ne (fun _ e => by omega)).trans K.2.1, K.2.2.1, K.2.2.2.1, K.2.2.2.2.1, K.2.2.2.2.2.of (fun k _ => q_w_ne (fun e _ => by omega)) rfl⟩
theorem zJ_250 : zJ3 250 z_m250 z_c250 z_h250 := ⟨rfl, rfl, rfl⟩
noncomputable def p_250 (a : Nat) (f h w : Int32) (σ : zSg) (r : Int32) (σ' : zSg) : Prop := a = 205 → ∀ A nf nt Lo, rEv σ A nt Lo → aI nf nt A → (¬ ((0 ≤ f.toInt ∧ f.toInt < (nf : Int)) ∧ (0 ≤ h.toInt ∧ h.toInt < 24)) → r = Int32.ofInt 0 ∧ σ' = rTh σ 1) ∧ (∀ F n, f = Int32.ofNat F → F < nf → h = Int32.ofNat n → n < 24 → (¬ (0 ≤ w.toInt ∧ w.toInt ≤ 1) → r = Int32.ofInt 0 ∧ σ' = rTh σ 2) ∧ ((0 ≤ w.toInt ∧ w.toInt ≤ 1) → rVF (r0 σ) σ' ∧ r = if w.toInt = 0 then A (42 + 4 * F) + eSm Lo (eFa A nt F n) 0 else A (41 + 4 * F) + eSm Lo (eFa A nt F n) 1))
theorem sp_250_et (a0 : Nat) (a1 : Int32) (a2 : Int32) (a3 : Int32) (σ : zSg) (τ1 : zSg) (r1 : Int32) (g1 : p_195 a0 a1 (q_w σ a0 0 (.int (Int32.ofInt (0)))) r1 τ1) (h2 : r1.toInt ≠ (0 : Int)) :
    p_250 (a0) (a1) (a2) (a3) σ (Int32.ofInt (0)) (q_w τ1 a0 0 (.int (Int32.ofInt (1)))) := by
  rintro rfl A nf nt Lo K I
  have k6 := I.1.2.1
  have k8 := I.1.2.2.2.1
  have EV := K.z
  have w0 := EV.1
  have z0 : (Int32.ofInt 0).toInt = 0 := rfl
  have z1 : (Int32.ofInt 1).toInt = 1 := rfl
  have z3 : (Int32.ofInt 3).toInt = 3 := rfl
  obtain ⟨e1, u1⟩ := g1
  have e1 : τ1 = r0 σ := e1
  subst e1
  have u1 := u1 rfl A w0 nf I.1.1 k6
  exact ⟨fun _ => ⟨rfl, r0_T⟩, fun F n eF hF en hn => absurd (by rw [eF, o32 (by omega)]; omega) (u1.mp h2)⟩
theorem sp_250_efttt (a0 : Nat) (a1 : Int32) (a2 : Int32) (a3 : Int32) (σ : zSg) (τ1 : zSg) (r1 : Int32) (τ5 : zSg) (r5 : Int32) (τ9 : zSg) (r9 : Int32) (τ14 : zSg) (r14 : Int32) (g1 : p_195 a0 a1 (q_w σ a0 0 (.int (Int32.ofInt (0)))) r1 τ1) (h2 : r1.toInt = (0 : Int)) (g5 : p_197 a2 τ1 r5 τ5) (h6 : r5.toInt = (0 : Int)) (g9 : p_177 a3 (Int32.ofInt (0)) (Int32.ofInt (1)) τ5 r9 τ9) (h10 : r9.toInt ≠ (0 : Int)) (h13 : a3.toInt ≠ (0 : Int)) (g14 : p_240 a0 a1 a2 τ9 r14 τ14) :
    p_250 (a0) (a1) (a2) (a3) σ r14 τ14 := by
  rintro rfl A nf nt Lo K I
  have k6 := I.1.2.1
  have k8 := I.1.2.2.2.1
  have EV := K.z
  have w0 := EV.1
  have z0 : (Int32.ofInt 0).toInt = 0 := rfl
  have z1 : (Int32.ofInt 1).toInt = 1 := rfl
  have z3 : (Int32.ofInt 3).toInt = 3 := rfl
  obtain ⟨e1, u1⟩ := g1
  have e1 : τ1 = r0 σ := e1
  subst e1
  have u1 := u1 rfl A w0 nf I.1.1 k6
  have v1 : 0 ≤ a1.toInt ∧ a1.toInt < (nf : Int) := Decidable.byContradiction (fun w => (u1.mpr w) h2)
  obtain ⟨e2, u2⟩ := g5
  have e2 : τ5 = r0 σ := e2
  subst e2
  have v2 : 0 ≤ a2.toInt ∧ a2.toInt < 24 := Decidable.byContradiction (fun w => (u2.mpr w) h6)
  obtain ⟨e3, u3⟩ := g9
  have e3 : τ9 = r0 σ := e3
  subst e3
  rw [z0, z1] at u3
  have v3 := u3.mp h10
  refine ⟨fun q => absurd ⟨v1, v2⟩ q, fun F n eF hF en hn => ⟨fun q => absurd v3 q, fun _ => ?_⟩⟩
  obtain ⟨f4, x4⟩ := g14 rfl A nt Lo F n EV eF (by omega) en hn
  exact ⟨f4, by rw [x4, if_neg h13]⟩
theorem sp_250_efttf (a0 : Nat) (a1 : Int32) (a2 : Int32) (a3 : Int32) (σ : zSg) (τ1 : zSg) (r1 : Int32) (τ5 : zSg) (r5 : Int32) (τ9 : zSg) (r9 : Int32) (τ15 : zSg) (r15 : Int32) (g1 : p_195 a0 a1 (q_w σ a0 0 (.int (Int32.ofInt (0)))) r1 τ1) (h2 : r1.toInt = (0 : Int)) (g5 : p_197 a2 τ1 r5 τ5) (h6 : r5.toInt = (0 : Int)) (g9 : p_177 a3 (Int32.ofInt (0)) (Int32.ofInt (1)) τ5 r9 τ9) (h10 : r9.toInt ≠ (0 : Int)) (h13 : a3.toInt = (0 : Int)) (g15 : p_239 a0 a1 a2 τ9 r15 τ15) :
    p_250 (a0) (a1) (a2) (a3) σ r15 τ15 := by
  rintro rfl A nf nt Lo K I
  have k6 := I.1.2.1
  have k8 := I.1.2.2.2.1
  have EV := K.z
  have w0 := EV.1
  have z0 : (Int32.ofInt 0).toInt = 0 := rfl
  have z1 : (Int32.ofInt 1).toInt = 1 := rfl
  have z3 : (Int32.ofInt 3).toInt = 3 := rfl
  obtain ⟨e1, u1⟩ := g1
  have e1 : τ1 = r0 σ := e1
  subst e1
  have u1 := u1 rfl A w0 nf I.1.1 k6
  have v1 : 0 ≤ a1.toInt ∧ a1.toInt < (nf : Int) := Decidable.byContradiction (fun w => (u1.mpr w) h2)
  obtain ⟨e2, u2⟩ := g5
  have e2 : τ5 = r0 σ := e2
  subst e2
  have v2 : 0 ≤ a2.toInt ∧ a2.toInt < 24 := Decidable.byContradiction (fun w => (u2.mpr w) h6)
  obtain ⟨e3, u3⟩ := g9
  have e3 : τ9 = r0 σ := e3
  subst e3
  rw [z0, z1] at u3
  have v3 := u3.mp h10
  refine ⟨fun q => absurd ⟨v1, v2⟩ q, fun F n eF hF en hn => ⟨fun q => absurd v3 q, fun _ => ?_⟩⟩
  obtain ⟨f4, x4⟩ := g15 rfl A nt Lo F n EV eF (by omega) en hn
  exact ⟨f4, by rw [x4, if_pos h13]⟩
theorem sp_250_eftf (a0 : Nat) (a1 : Int32) (a2 : Int32) (a3 : Int32) (σ : zSg) (τ1 : zSg) (r1 : Int32) (τ5 : zSg) (r5 : Int32) (τ9 : zSg) (r9 : Int32) (g1 : p_195 a0 a1 (q_w σ a0 0 (.int (Int32.ofInt (0)))) r1 τ1) (h2 : r1.toInt = (0 : Int)) (g5 : p_197 a2 τ1 r5 τ5) (h6 : r5.toInt = (0 : Int)) (g9 : p_177 a3 (Int32.ofInt (0)) (Int32.ofInt (1)) τ5 r9 τ9) (h10 : r9.toInt = (0 : Int)) :
    p_250 (a0) (a1) (a2) (a3) σ (Int32.ofInt (0)) (q_w τ9 a0 0 (.int (Int32.ofInt (2)))) := by
  rintro rfl A nf nt Lo K I
  have k6 := I.1.2.1
  have k8 := I.1.2.2.2.1
  have EV := K.z
  have w0 := EV.1
  have z0 : (Int32.ofInt 0).toInt = 0 := rfl
  have z1 : (Int32.ofInt 1).toInt = 1 := rfl
  have z3 : (Int32.ofInt 3).toInt = 3 := rfl
  obtain ⟨e1, u1⟩ := g1
  have e1 : τ1 = r0 σ := e1
  subst e1
  have u1 := u1 rfl A w0 nf I.1.1 k6
  have v1 : 0 ≤ a1.toInt ∧ a1.toInt < (nf : Int) := Decidable.byContradiction (fun w => (u1.mpr w) h2)
  obtain ⟨e2, u2⟩ := g5
  have e2 : τ5 = r0 σ := e2
  subst e2
  have v2 : 0 ≤ a2.toInt ∧ a2.toInt < 24 := Decidable.byContradiction (fun w => (u2.mpr w) h6)
  obtain ⟨e3, u3⟩ := g9
  have e3 : τ9 = r0 σ := e3
  subst e3
  rw [z0, z1] at u3
  exact ⟨fun q => absurd ⟨v1, v2⟩ q, fun F n eF hF en hn => ⟨fun _ => ⟨rfl, r0_T⟩, fun q => absurd h10 (u3.mpr q)⟩⟩
theorem sp_250_eff (a0 : Nat) (a1 : Int32) (a2 : Int32) (a3 : Int32) (σ : zSg) (τ1 : zSg) (r1 : Int32) (τ5 : zSg) (r5 : Int32) (g1 : p_195 a0 a1 (q_w σ a0 0 (.int (Int32.ofInt (0)))) r1 τ1) (h2 : r1.toInt = (0 : Int)) (g5 : p_197 a2 τ1 r5 τ5) (h6 : r5.toInt ≠ (0 : Int)) :
    p_250 (a0) (a1) (a2) (a3) σ (Int32.ofInt (0)) (q_w τ5 a0 0 (.int (Int32.ofInt (1)))) := by
  rintro rfl A nf nt Lo K I
  have k6 := I.1.2.1
  have k8 := I.1.2.2.2.1
  have EV := K.z
  have w0 := EV.1
  have z0 : (Int32.ofInt 0).toInt = 0 := rfl
  have z1 : (Int32.ofInt 1).toInt = 1 := rfl
  have z3 : (Int32.ofInt 3).toInt = 3 := rfl
  obtain ⟨e1, u1⟩ := g1
  have e1 : τ1 = r0 σ := e1
  subst e1
  have u1 := u1 rfl A w0 nf I.1.1 k6
  have v1 : 0 ≤ a1.toInt ∧ a1.toInt < (nf : Int) := Decidable.byContradiction (fun w => (u1.mpr w) h2)
  obtain ⟨e2, u2⟩ := g5
  have e2 : τ5 = r0 σ := e2
  subst e2
  exact ⟨fun _ => ⟨rfl, r0_T⟩, fun F n eF hF en hn => absurd (by rw [en, o32 (by omega)]; omega) (u2.mp h6)⟩
noncomputable def qP_250 : zPp := fun as σ o σ' => match as with
  | [a0, a1, a2, a3] => ∃ r, o = .inl (some (.int r)) ∧ p_250 (q_r a0) (q_i a1) (q_i a2) (q_i a3) σ r σ'
  | _ => True
set_option maxRecDepth 100000 in
theorem sp_250 {sx : zX} (S195 : zEe sx 195 2 qP_195) (S176 : zEe sx 176 3 qP_176) (S197 : zEe sx 197 1 qP_197) (S177 : zEe sx 177 3 qP_177) (S240 : zEe sx 240 3 qP_240) (S239 : zEe sx 239 3 qP_239) : zEe sx 250 4 qP_250 := by
  refine zfle zJ_250 (sps := [(195, 2, qP_195), (176, 3, qP_176), (197, 1, qP_197), (177, 3, qP_177), (240, 3, qP_240), (239, 3, qP_239)]) (fun q hq => by
    simp only [List.mem_cons, List.not_mem_nil, or_false] at hq
    rcases hq with rfl | rfl | rfl | rfl | rfl | rfl
    · exact S195
    · exact S176
    · exact S197
    · exact S177
    · exact S240
    · exact S239) (fun as σ hl => ?_)
  match as, hl with
  | [a0, a1, a2, a3], _ =>
  refine ⟨[], 400, ?_, ?_⟩
  · exact fun q hq => absurd hq List.not_mem_nil
  · refine fun o1 τ1 g1 => ?_
    obtain ⟨r1, rfl, g1⟩ := g1
    refine And.intro (fun h2 => ?_) (fun h2 => ?_)
    · refine fun o3 τ3 g3 => ?_
      obtain ⟨r3, rfl, rfl, y3, z3⟩ := g3
      have e3 := (y3 (by decide)).symm
      subst e3
      refine And.intro (fun _ => ?_) (fun h4 => absurd (show z_cmp 1 (Int32.ofInt (1)) 0 = false from h4) (by decide))
      exact ⟨_, rfl, sp_250_et (q_r a0) (q_i a1) (q_i a2) (q_i a3) σ τ1 r1 g1 (cm1t h2)⟩
    · refine fun o5 τ5 g5 => ?_
      obtain ⟨r5, rfl, g5⟩ := g5
      refine And.intro (fun h6 => ?_) (fun h6 => ?_)
      · refine fun o7 τ7 g7 => ?_
        obtain ⟨r7, rfl, rfl, y7, z7⟩ := g7
        have e7 := (z7 rfl).symm
        subst e7
        refine And.intro (fun h8 => absurd (show z_cmp 1 (Int32.ofInt (0)) 0 = true from h8) (by decide)) (fun _ => ?_)
        refine fun o9 τ9 g9 => ?_
        obtain ⟨r9, rfl, g9⟩ := g9
        refine And.intro (fun h10 => ?_) (fun h10 => ?_)
        · refine fun o11 τ11 g11 => ?_
          obtain ⟨r11, rfl, rfl, y11, z11⟩ := g11
          have e11 := (z11 rfl).symm
          subst e11
          refine And.intro (fun _ => ?_) (fun h12 => absurd (show z_cmp 0 (Int32.ofInt (0)) 0 = false from h12) (by decide))
          refine And.intro (fun h13 => ?_) (fun h13 => ?_)
          · refine fun o14 τ14 g14 => ?_
            obtain ⟨r14, rfl, g14⟩ := g14
            exact ⟨_, rfl, sp_250_efttt (q_r a0) (q_i a1) (q_i a2) (q_i a3) σ τ1 r1 τ5 r5 τ9 r9 τ14 r14 g1 (cm1f h2) g5 (cm0t h6) g9 (cm1t h10) (cm1t h13) g14⟩
          · refine fun o15 τ15 g15 => ?_
            obtain ⟨r15, rfl, g15⟩ := g15
            exact ⟨_, rfl, sp_250_efttf (q_r a0) (q_i a1) (q_i a2) (q_i a3) σ τ1 r1 τ5 r5 τ9 r9 τ15 r15 g1 (cm1f h2) g5 (cm0t h6) g9 (cm1t h10) (cm1f h13) g15⟩
        · refine fun o16 τ16 g16 => ?_
          obtain ⟨r16, rfl, rfl, y16, z16⟩ := g16
          have e16 := (y16 (by decide)).symm
          subst e16
          refine And.intro (fun h17 => absurd (show z_cmp 0 (Int32.ofInt (1)) 0 = true from h17) (by decide)) (fun _ => ?_)
          exact ⟨_, rfl, sp_250_eftf (q_r a0) (q_i a1) (q_i a2) (q_i a3) σ τ1 r1 τ5 r5 τ9 r9 g1 (cm1f h2) g5 (cm0t h6) g9 (cm1f h10)⟩
      · refine fun o18 τ18 g18 => ?_
        obtain ⟨r18, rfl, rfl, y18, z18⟩ := g18
        have e18 := (y18 (by decide)).symm
        subst e18
        refine And.intro (fun _ => ?_) (fun h19 => absurd (show z_cmp 1 (Int32.ofInt (1)) 0 = false from h19) (by decide))
        exact ⟨_, rfl, sp_250_eff (q_r a0) (q_i a1) (q_i a2) (q_i a3) σ τ1 r1 τ5 r5 g1 (cm1f h2) g5 (cm0f h6)⟩
theorem zJ_251 : zJ3 251 z_m251 z_c251 z_h251 := ⟨rfl, rfl, rfl⟩
noncomputable def p_251 (a : Nat) (t w : Int32) (σ : zSg) (r : Int32) (σ' : zSg) : Prop := a = 205 → ∀ A nf nt Lo, rEv σ A nt Lo → aI nf nt A → (¬ (0 ≤ t.toInt ∧ t.toInt < (nt : Int)) → r = Int32.ofInt 0 ∧ σ' = rTh σ 1) ∧ (∀ T, t = Int32.ofNat T → T < nt → (¬ (0 ≤ w.toInt ∧ w.toInt ≤ 3) → r = Int32.ofInt 0 ∧ σ' = rTh σ 2) ∧ ((0 ≤ w.toInt ∧ w.toInt ≤ 3) → (w.toInt = 3 → ∀ F n, A (64 + 3 * T) = Int32.ofNat F → F < nf → A 4 = Int32.ofNat n → n < 24 → rVF (r0 σ) σ' ∧ r = A 11 * A (65 + 3 * T) + eSm Lo (eFa A nt F n) 2) ∧ (∀ k, k < 3 → w = Int32.ofNat k → σ' = r0 σ ∧ r = A (64 + k + 3 * T))))
theorem sp_251_et (a0 : Nat) (a1 : Int32) (a2 : Int32) (σ : zSg) (τ1 : zSg) (r1 : Int32) (τ2 : zSg) (r2 : Int32) (g1 : p_196 a0 a1 (q_w σ a0 0 (.int (Int32.ofInt (0)))) r1 τ1) (g2 : p_176 a0 r1 (Int32.ofInt (1)) τ1 r2 τ2) (h3 : r2.toInt ≠ (0 : Int)) :
    p_251 (a0) (a1) (a2) σ (Int32.ofInt (0)) τ2 := by
  rintro rfl A nf nt Lo K I
  have k6 := I.1.2.1
  have k8 := I.1.2.2.2.1
  have EV := K.z
  have w0 := EV.1
  have z0 : (Int32.ofInt 0).toInt = 0 := rfl
  have z1 : (Int32.ofInt 1).toInt = 1 := rfl
  have z3 : (Int32.ofInt 3).toInt = 3 := rfl
  obtain ⟨e1, u1⟩ := g1
  have e1 : τ1 = r0 σ := e1
  subst e1
  have u1 := u1 rfl A w0 nt I.1.2.2.1 k8
  obtain ⟨x2, y2, n2⟩ := g2
  rw [x2] at h3
  have e2 := y2 h3
  subst e2
  exact ⟨fun _ => ⟨rfl, r0_T⟩, fun T eT hT => absurd (by rw [eT, o32 (by omega)]; omega) (u1.mp h3)⟩
theorem sp_251_eftt (a0 : Nat) (a1 : Int32) (a2 : Int32) (σ : zSg) (τ1 : zSg) (r1 : Int32) (τ2 : zSg) (r2 : Int32) (τ4 : zSg) (r4 : Int32) (τ9 : zSg) (r9 : Int32) (g1 : p_196 a0 a1 (q_w σ a0 0 (.int (Int32.ofInt (0)))) r1 τ1) (g2 : p_176 a0 r1 (Int32.ofInt (1)) τ1 r2 τ2) (h3 : r2.toInt = (0 : Int)) (g4 : p_177 a2 (Int32.ofInt (0)) (Int32.ofInt (3)) τ2 r4 τ4) (h5 : r4.toInt ≠ (0 : Int)) (h8 : a2.toInt ≠ (3 : Int)) (g9 : p_193 a0 a1 a2 τ4 r9 τ9) :
    p_251 (a0) (a1) (a2) σ r9 τ9 := by
  rintro rfl A nf nt Lo K I
  have k6 := I.1.2.1
  have k8 := I.1.2.2.2.1
  have EV := K.z
  have w0 := EV.1
  have z0 : (Int32.ofInt 0).toInt = 0 := rfl
  have z1 : (Int32.ofInt 1).toInt = 1 := rfl
  have z3 : (Int32.ofInt 3).toInt = 3 := rfl
  obtain ⟨e1, u1⟩ := g1
  have e1 : τ1 = r0 σ := e1
  subst e1
  have u1 := u1 rfl A w0 nt I.1.2.2.1 k8
  obtain ⟨x2, y2, n2⟩ := g2
  rw [x2] at h3
  have v1 : 0 ≤ a1.toInt ∧ a1.toInt < (nt : Int) := Decidable.byContradiction (fun w => (u1.mpr w) h3)
  have e2 := n2 h3
  subst e2
  obtain ⟨e3, u3⟩ := g4
  have e3 : τ4 = r0 σ := e3
  subst e3
  rw [z0, z3] at u3
  have v3 := u3.mp h5
  refine ⟨fun q => absurd v1 q, fun T eT hT => ⟨fun q => absurd v3 q, fun _ => ⟨fun q => absurd q h8, fun k hk ek => ?_⟩⟩⟩
  obtain ⟨e4, g4⟩ := g9
  exact ⟨e4, g4 rfl A w0 T k eT (by omega) ek hk⟩
theorem sp_251_eftf (a0 : Nat) (a1 : Int32) (a2 : Int32) (σ : zSg) (τ1 : zSg) (r1 : Int32) (τ2 : zSg) (r2 : Int32) (τ4 : zSg) (r4 : Int32) (τ10 : zSg) (r10 : Int32) (g1 : p_196 a0 a1 (q_w σ a0 0 (.int (Int32.ofInt (0)))) r1 τ1) (g2 : p_176 a0 r1 (Int32.ofInt (1)) τ1 r2 τ2) (h3 : r2.toInt = (0 : Int)) (g4 : p_177 a2 (Int32.ofInt (0)) (Int32.ofInt (3)) τ2 r4 τ4) (h5 : r4.toInt ≠ (0 : Int)) (h8 : a2.toInt = (3 : Int)) (g10 : p_241 a0 a1 τ4 r10 τ10) :
    p_251 (a0) (a1) (a2) σ r10 τ10 := by
  rintro rfl A nf nt Lo K I
  have k6 := I.1.2.1
  have k8 := I.1.2.2.2.1
  have EV := K.z
  have w0 := EV.1
  have z0 : (Int32.ofInt 0).toInt = 0 := rfl
  have z1 : (Int32.ofInt 1).toInt = 1 := rfl
  have z3 : (Int32.ofInt 3).toInt = 3 := rfl
  obtain ⟨e1, u1⟩ := g1
  have e1 : τ1 = r0 σ := e1
  subst e1
  have u1 := u1 rfl A w0 nt I.1.2.2.1 k8
  obtain ⟨x2, y2, n2⟩ := g2
  rw [x2] at h3
  have v1 : 0 ≤ a1.toInt ∧ a1.toInt < (nt : Int) := Decidable.byContradiction (fun w => (u1.mpr w) h3)
  have e2 := n2 h3
  subst e2
  obtain ⟨e3, u3⟩ := g4
  have e3 : τ4 = r0 σ := e3
  subst e3
  rw [z0, z3] at u3
  have v3 := u3.mp h5
  refine ⟨fun q => absurd v1 q, fun T eT hT => ⟨fun q => absurd v3 q, fun _ => ⟨fun _ F n eF hF en hn => ?_, fun k hk ek => absurd h8 (by rw [ek, o32 (by omega)]; omega)⟩⟩⟩
  exact g10 rfl A nt Lo F n T EV eT (by omega) eF (by omega) en hn
theorem sp_251_eff (a0 : Nat) (a1 : Int32) (a2 : Int32) (σ : zSg) (τ1 : zSg) (r1 : Int32) (τ2 : zSg) (r2 : Int32) (τ4 : zSg) (r4 : Int32) (g1 : p_196 a0 a1 (q_w σ a0 0 (.int (Int32.ofInt (0)))) r1 τ1) (g2 : p_176 a0 r1 (Int32.ofInt (1)) τ1 r2 τ2) (h3 : r2.toInt = (0 : Int)) (g4 : p_177 a2 (Int32.ofInt (0)) (Int32.ofInt (3)) τ2 r4 τ4) (h5 : r4.toInt = (0 : Int)) :
    p_251 (a0) (a1) (a2) σ (Int32.ofInt (0)) (q_w τ4 a0 0 (.int (Int32.ofInt (2)))) := by
  rintro rfl A nf nt Lo K I
  have k6 := I.1.2.1
  have k8 := I.1.2.2.2.1
  have EV := K.z
  have w0 := EV.1
  have z0 : (Int32.ofInt 0).toInt = 0 := rfl
  have z1 : (Int32.ofInt 1).toInt = 1 := rfl
  have z3 : (Int32.ofInt 3).toInt = 3 := rfl
  obtain ⟨e1, u1⟩ := g1
  have e1 : τ1 = r0 σ := e1
  subst e1
  have u1 := u1 rfl A w0 nt I.1.2.2.1 k8
  obtain ⟨x2, y2, n2⟩ := g2
  rw [x2] at h3
  have v1 : 0 ≤ a1.toInt ∧ a1.toInt < (nt : Int) := Decidable.byContradiction (fun w => (u1.mpr w) h3)
  have e2 := n2 h3
  subst e2
  obtain ⟨e3, u3⟩ := g4
  have e3 : τ4 = r0 σ := e3
  subst e3
  rw [z0, z3] at u3
  exact ⟨fun q => absurd v1 q, fun T eT hT => ⟨fun _ => ⟨rfl, r0_T⟩, fun q => absurd h5 (u3.mpr q)⟩⟩
noncomputable def qP_251 : zPp := fun as σ o σ' => match as with
  | [a0, a1, a2] => ∃ r, o = .inl (some (.int r)) ∧ p_251 (q_r a0) (q_i a1) (q_i a2) σ r σ'
  | _ => True
set_option maxRecDepth 100000 in
theorem sp_251 {sx : zX} (S196 : zEe sx 196 2 qP_196) (S176 : zEe sx 176 3 qP_176) (S177 : zEe sx 177 3 qP_177) (S193 : zEe sx 193 3 qP_193) (S241 : zEe sx 241 2 qP_241) : zEe sx 251 3 qP_251 := by
  refine zfle zJ_251 (sps := [(196, 2, qP_196), (176, 3, qP_176), (177, 3, qP_177), (193, 3, qP_193), (241, 2, qP_241)]) (fun q hq => by
    simp only [List.mem_cons, List.not_mem_nil, or_false] at hq
    rcases hq with rfl | rfl | rfl | rfl | rfl
    · exact S196
    · exact S176
    · exact S177
    · exact S193
    · exact S241) (fun as σ hl => ?_)
  match as, hl with
  | [a0, a1, a2], _ =>
  refine ⟨[], 400, ?_, ?_⟩
  · exact fun q hq => absurd hq List.not_mem_nil
  · refine fun o1 τ1 g1 => ?_
    obtain ⟨r1, rfl, g1⟩ := g1
    refine fun o2 τ2 g2 => ?_
    obtain ⟨r2, rfl, g2⟩ := g2
    refine And.intro (fun h3 => ?_) (fun h3 => ?_)
    · exact ⟨_, rfl, sp_251_et (q_r a0) (q_i a1) (q_i a2) σ τ1 r1 τ2 r2 g1 g2 (cm1t h3)⟩
    · refine fun o4 τ4 g4 => ?_
      obtain ⟨r4, rfl, g4⟩ := g4
      refine And.intro (fun h5 => ?_) (fun h5 => ?_)
      · refine fun o6 τ6 g6 => ?_
        obtain ⟨r6, rfl, rfl, y6, z6⟩ := g6
        have e6 := (z6 rfl).symm
        subst e6
        refine And.intro (fun _ => ?_) (fun h7 => absurd (show z_cmp 0 (Int32.ofInt (0)) 0 = false from h7) (by decide))
        refine And.intro (fun h8 => ?_) (fun h8 => ?_)
        · refine fun o9 τ9 g9 => ?_
          obtain ⟨r9, rfl, g9⟩ := g9
          exact ⟨_, rfl, sp_251_eftt (q_r a0) (q_i a1) (q_i a2) σ τ1 r1 τ2 r2 τ4 r4 τ9 r9 g1 g2 (cm1f h3) g4 (cm1t h5) (cm1t h8) g9⟩
        · refine fun o10 τ10 g10 => ?_
          obtain ⟨r10, rfl, g10⟩ := g10
          exact ⟨_, rfl, sp_251_eftf (q_r a0) (q_i a1) (q_i a2) σ τ1 r1 τ2 r2 τ4 r4 τ10 r10 g1 g2 (cm1f h3) g4 (cm1t h5) (cm1f h8) g10⟩
      · refine fun o11 τ11 g11 => ?_
        obtain ⟨r11, rfl, rfl, y11, z11⟩ := g11
        have e11 := (y11 (by decide)).symm
        subst e11
        refine And.intro (fun h12 => absurd (show z_cmp 0 (Int32.ofInt (1)) 0 = true from h12) (by decide)) (fun _ => ?_)
        exact ⟨_, rfl, sp_251_eff (q_r a0) (q_i a1) (q_i a2) σ τ1 r1 τ2 r2 τ4 r4 g1 g2 (cm1f h3) g4 (cm1f h5)⟩
end
section
/-! readers of both sides, exact: holds, changes, gaps; printed with wip/gen/gen_ds.py -/
theorem fm48 : (List.range 48).all (fun t => decide (0 ≤ (Int32.ofNat t ^^^ Int32.ofInt 24).toInt) && decide (Int32.ofNat t - Int32.ofNat t / Int32.ofInt 24 * Int32.ofInt 24 = Int32.ofNat (t % 24))) = true := by decide +kernel
theorem fm48_at {t : Nat} (h : t < 48) : 0 ≤ (Int32.ofNat t ^^^ Int32.ofInt 24).toInt ∧ Int32.ofNat t - Int32.ofNat t / Int32.ofInt 24 * Int32.ofInt 24 = Int32.ofNat (t % 24) := by
  have := List.all_eq_true.mp fm48 t (List.mem_range.mpr h)
  rw [Bool.and_eq_true, decide_eq_true_eq, decide_eq_true_eq] at this
  exact this
noncomputable def p_312w (x y : Int32) (σ : zSg) (r : Int32) (σ' : zSg) : Prop := σ' = σ ∧ (y = Int32.ofInt 24 → ∀ t, t < 48 → x = Int32.ofNat t → r = Int32.ofNat (t % 24))
theorem sp_312w_et (a0 : Int32) (a1 : Int32) (σ : zSg) (h1 : (a0 ^^^ a1).toInt ≥ (0 : Int)) :
    p_312w (a0) (a1) σ (a0 - a0 / a1 * a1) σ := by
  refine ⟨rfl, ?_⟩
  rintro rfl t ht rfl
  exact (fm48_at ht).2
theorem sp_312w_eft (a0 : Int32) (a1 : Int32) (σ : zSg) (h1 : (a0 ^^^ a1).toInt < (0 : Int)) (h2 : (a0 - a0 / a1 * a1).toInt = (0 : Int)) :
    p_312w (a0) (a1) σ (a0 - a0 / a1 * a1) σ := by
  refine ⟨rfl, ?_⟩
  rintro rfl t ht rfl
  exact (fm48_at ht).2
theorem sp_312w_eff (a0 : Int32) (a1 : Int32) (σ : zSg) (h1 : (a0 ^^^ a1).toInt < (0 : Int)) (h2 : (a0 - a0 / a1 * a1).toInt ≠ (0 : Int)) :
    p_312w (a0) (a1) σ ((a0 - a0 / a1 * a1) + a1) σ := by
  refine ⟨rfl, ?_⟩
  rintro rfl t ht rfl
  exact absurd (fm48_at ht).1 (by omega)
noncomputable def qP_312w : zPp := fun as σ o σ' => match as with
  | [a0, a1] => ∃ r, o = .inl (some (.int r)) ∧ p_312w (q_i a0) (q_i a1) σ r σ'
  | _ => True
set_option maxRecDepth 100000 in
theorem sp_312w {sx : zX}  : zEe sx 312 2 qP_312w := by
  refine zfle zJ_312 (sps := []) (fun q hq => absurd hq List.not_mem_nil) (fun as σ hl => ?_)
  match as, hl with
  | [a0, a1], _ =>
  refine ⟨[], 400, ?_, ?_⟩
  · exact fun q hq => absurd hq List.not_mem_nil
  · refine And.intro (fun h1 => ?_) (fun h1 => ?_)
    · exact ⟨_, rfl, sp_312w_et (q_i a0) (q_i a1) σ (cm3t h1)⟩
    · refine And.intro (fun h2 => ?_) (fun h2 => ?_)
      · exact ⟨_, rfl, sp_312w_eft (q_i a0) (q_i a1) σ (cm3f h1) (cm0t h2)⟩
      · exact ⟨_, rfl, sp_312w_eff (q_i a0) (q_i a1) σ (cm3f h1) (cm0f h2)⟩
noncomputable def p_26w (a : Nat) (t : Int32) (σ : zSg) (r : Int32) (σ' : zSg) : Prop := σ' = σ ∧ ∀ H n, hH σ a H → t = Int32.ofNat n → n < 48 → r = H (16 + n % 24)
theorem sp_26w_e (a0 : Nat) (a1 : Int32) (σ : zSg) (τ1 : zSg) (r1 : Int32) (g1 : p_312w a1 (Int32.ofInt (24)) σ r1 τ1) (h2 : 0 ≤ r1.toInt ∧ r1.toInt < (τ1.2.1 (q_r (σ.1 a0 0)) : Int)) :
    p_26w (a0) (a1) σ (q_i (τ1.1 (q_r (σ.1 a0 0)) r1.toNatClampNeg)) τ1 := by
  obtain ⟨rfl, g⟩ := g1
  refine ⟨rfl, ?_⟩
  rintro H n K rfl hn
  have e := g rfl n hn rfl
  have hm : n % 24 < 24 := Nat.mod_lt _ (by omega)
  rw [e, o32n (by omega), K.k hk_0]
  exact K.p (hp_h hm)
noncomputable def qP_26w : zPp := fun as σ o σ' => match as with
  | [a0, a1] => ∃ r, o = .inl (some (.int r)) ∧ p_26w (q_r a0) (q_i a1) σ r σ'
  | _ => True
set_option maxRecDepth 100000 in
theorem sp_26w {sx : zX} (S312 : zEe sx 312 2 qP_312w) : zEe sx 26 2 qP_26w := by
  refine zfle zJ_26 (sps := [(312, 2, qP_312w)]) (fun q hq => by
    simp only [List.mem_cons, List.not_mem_nil, or_false] at hq
    rcases hq with rfl
    · exact S312) (fun as σ hl => ?_)
  match as, hl with
  | [a0, a1], _ =>
  refine ⟨[], 400, ?_, ?_⟩
  · exact fun q hq => absurd hq List.not_mem_nil
  · refine fun o1 τ1 g1 => ?_
    obtain ⟨r1, rfl, g1⟩ := g1
    refine fun h2 => ?_
    exact ⟨_, rfl, sp_26w_e (q_r a0) (q_i a1) σ τ1 r1 g1 (q_inp h2)⟩
noncomputable def fCh (A : Nat → Int32) : Nat → Int32
  | 0 => Int32.ofInt 0
  | n + 1 => fCh A n + (if A (16 + n) = A (16 + (n + 1) % 24) then Int32.ofInt 0 else Int32.ofInt 1)
theorem zJ_69 : zJ3 69 z_m69 z_c69 z_h69 := ⟨rfl, rfl, rfl⟩
noncomputable def p_69 (b : Nat) (σ : zSg) (r : Int32) (σ' : zSg) : Prop := σ' = σ ∧ ∀ A, hH σ b A → r = fCh A 24
noncomputable def i_69 (b : Nat) (σ : zSg) (l0 : Nat) (l1 l2 : Int32) (τ : zSg) : Prop := l0 = b ∧ τ = σ ∧ ∃ n, n ≤ 24 ∧ l2 = Int32.ofNat n ∧ ∀ A, hH σ b A → l1 = fCh A n
theorem sp_69_e (a0 : Nat) (σ : zSg)  :
    i_69 a0 σ a0 (Int32.ofInt (0)) (Int32.ofInt (0)) σ := by
  exact ⟨rfl, rfl, 0, by omega, rfl, fun A K => rfl⟩
theorem sp_69_c4_t (a0 : Nat) (σ : zSg) (l0 : Nat) (l1 : Int32) (l2 : Int32) (τ : zSg) (hI : i_69 a0 σ l0 l1 l2 τ) (h1 : l2.toInt ≥ (24 : Int)) :
    p_69 (a0) σ l1 τ := by
  obtain ⟨rfl, rfl, n, hn, rfl, hI⟩ := hI
  rw [o32 (by omega)] at h1
  have : n = 24 := by omega
  subst this
  exact ⟨rfl, hI⟩
theorem sp_69_c4_ft (a0 : Nat) (σ : zSg) (l0 : Nat) (l1 : Int32) (l2 : Int32) (τ : zSg) (τ2 : zSg) (r2 : Int32) (τ3 : zSg) (r3 : Int32) (hI : i_69 a0 σ l0 l1 l2 τ) (h1 : l2.toInt < (24 : Int)) (g2 : p_26w l0 l2 τ r2 τ2) (g3 : p_26w l0 (l2 + (Int32.ofInt (1))) τ2 r3 τ3) (h4 : r2.toInt = r3.toInt) :
    i_69 a0 σ l0 l1 (l2 + Int32.ofInt (1)) τ3 := by
  obtain ⟨rfl, rfl, n, hn, rfl, hI⟩ := hI
  rw [o32 (by omega)] at h1
  obtain ⟨rfl, ga⟩ := g2
  obtain ⟨rfl, gb⟩ := g3
  refine ⟨rfl, rfl, n + 1, by omega, o32i (by omega), fun A K => ?_⟩
  have xa := ga A n K rfl (by omega)
  rw [Nat.mod_eq_of_lt (show n < 24 by omega)] at xa
  have xb := gb A (n + 1) K (o32i (by omega)) (by omega)
  rw [xa, xb] at h4
  show _ = fCh A n + _
  rw [if_pos (Int32.toInt_inj.mp h4), hI A K]
  exact (Int32.add_zero _).symm
theorem sp_69_c4_ff (a0 : Nat) (σ : zSg) (l0 : Nat) (l1 : Int32) (l2 : Int32) (τ : zSg) (τ2 : zSg) (r2 : Int32) (τ3 : zSg) (r3 : Int32) (hI : i_69 a0 σ l0 l1 l2 τ) (h1 : l2.toInt < (24 : Int)) (g2 : p_26w l0 l2 τ r2 τ2) (g3 : p_26w l0 (l2 + (Int32.ofInt (1))) τ2 r3 τ3) (h4 : r2.toInt ≠ r3.toInt) :
    i_69 a0 σ l0 (l1 + Int32.ofInt (1)) (l2 + Int32.ofInt (1)) τ3 := by
  obtain ⟨rfl, rfl, n, hn, rfl, hI⟩ := hI
  rw [o32 (by omega)] at h1
  obtain ⟨rfl, ga⟩ := g2
  obtain ⟨rfl, gb⟩ := g3
  refine ⟨rfl, rfl, n + 1, by omega, o32i (by omega), fun A K => ?_⟩
  have xa := ga A n K rfl (by omega)
  rw [Nat.mod_eq_of_lt (show n < 24 by omega)] at xa
  have xb := gb A (n + 1) K (o32i (by omega)) (by omega)
  rw [xa, xb] at h4
  show _ = fCh A n + _
  rw [if_neg (fun q => h4 (congrArg Int32.toInt q)), hI A K]
noncomputable def qP_69 : zPp := fun as σ o σ' => match as with
  | [a0] => ∃ r, o = .inl (some (.int r)) ∧ p_69 (q_r a0) σ r σ'
  | _ => True
set_option maxRecDepth 100000 in
theorem sp_69 {sx : zX} (S26 : zEe sx 26 2 qP_26w) : zEe sx 69 1 qP_69 := by
  refine zfle zJ_69 (sps := [(26, 2, qP_26w)]) (fun q hq => by
    simp only [List.mem_cons, List.not_mem_nil, or_false] at hq
    rcases hq with rfl
    · exact S26) (fun as σ hl => ?_)
  match as, hl with
  | [a0], _ =>
  refine ⟨[(4, fun lo st τ => st = [] ∧ i_69 (q_r a0) σ (q_r (lo 0)) (q_i (lo 1)) (q_i (lo 2)) τ)], 400, ?_, ?_⟩
  · intro q hq
    simp only [List.mem_cons, List.not_mem_nil, or_false] at hq
    rcases hq with rfl
    · rintro lo st τ ⟨rfl, hI⟩
      refine ⟨400, ?_⟩
      refine And.intro (fun h1 => ?_) (fun h1 => ?_)
      · exact ⟨_, rfl, sp_69_c4_t (q_r a0) σ (q_r (lo 0)) (q_i (lo 1)) (q_i (lo 2)) τ hI (cm3t h1)⟩
      · refine fun o2 τ2 g2 => ?_
        obtain ⟨r2, rfl, g2⟩ := g2
        refine fun o3 τ3 g3 => ?_
        obtain ⟨r3, rfl, g3⟩ := g3
        refine And.intro (fun h4 => ?_) (fun h4 => ?_)
        · exact ⟨rfl, sp_69_c4_ft (q_r a0) σ (q_r (lo 0)) (q_i (lo 1)) (q_i (lo 2)) τ τ2 r2 τ3 r3 hI (cm3f h1) g2 g3 (cm0t h4)⟩
        · exact ⟨rfl, sp_69_c4_ff (q_r a0) σ (q_r (lo 0)) (q_i (lo 1)) (q_i (lo 2)) τ τ2 r2 τ3 r3 hI (cm3f h1) g2 g3 (cm0f h4)⟩
  · exact ⟨rfl, sp_69_e (q_r a0) σ ⟩
theorem zJ_136 : zJ3 136 z_m136 z_c136 z_h136 := ⟨rfl, rfl, rfl⟩
noncomputable def p_136 (a : Nat) (σ : zSg) (r : Int32) (σ' : zSg) : Prop := a = 0 → xSk σ → σ' = σ ∧ ∀ A, hH σ 8 A → r = fCh A 24
theorem sp_136_e (a0 : Nat) (σ : zSg) (τ1 : zSg) (r1 : Int32) (g1 : p_69 (q_r (σ.1 a0 2)) σ r1 τ1) :
    p_136 (a0) σ r1 τ1 := by
  rintro rfl K
  have d2 : q_r (σ.1 0 2) = 8 := by rw [K.2.1]; rfl
  rw [d2] at g1
  exact g1
noncomputable def qP_136 : zPp := fun as σ o σ' => match as with
  | [a0] => ∃ r, o = .inl (some (.int r)) ∧ p_136 (q_r a0) σ r σ'
  | _ => True
set_option maxRecDepth 100000 in
theorem sp_136 {sx : zX} (S69 : zEe sx 69 1 qP_69) : zEe sx 136 1 qP_136 := by
  refine zfle zJ_136 (sps := [(69, 1, qP_69)]) (fun q hq => by
    simp only [List.mem_cons, List.not_mem_nil, or_false] at hq
    rcases hq with rfl
    · exact S69) (fun as σ hl => ?_)
  match as, hl with
  | [a0], _ =>
  refine ⟨[], 400, ?_, ?_⟩
  · exact fun q hq => absurd hq List.not_mem_nil
  · refine fun o1 τ1 g1 => ?_
    obtain ⟨r1, rfl, g1⟩ := g1
    exact ⟨_, rfl, sp_136_e (q_r a0) σ τ1 r1 g1⟩
theorem zJ_274 : zJ3 274 z_m274 z_c274 z_h274 := ⟨rfl, rfl, rfl⟩
noncomputable def p_274 (a : Nat) (σ : zSg) (r : Int32) (σ' : zSg) : Prop := a = 205 → ∀ A, rW σ A → σ' = r0 σ ∧ r = fCh A 24
noncomputable def i_274 (a : Nat) (σ : zSg) (l0 : Nat) (l1 l2 : Int32) (τ : zSg) : Prop := l0 = a ∧ (a = 205 → ∀ A, rW σ A → τ = r0 σ ∧ ∃ n, n ≤ 24 ∧ l2 = Int32.ofNat n ∧ l1 = fCh A n)
theorem sp_274_e (a0 : Nat) (σ : zSg)  :
    i_274 a0 σ a0 (Int32.ofInt (0)) (Int32.ofInt (0)) (q_w σ a0 0 (.int (Int32.ofInt (0)))) := by
  refine ⟨rfl, ?_⟩
  rintro rfl A w
  exact ⟨rfl, 0, by omega, rfl, rfl⟩
theorem sp_274_c7_t (a0 : Nat) (σ : zSg) (l0 : Nat) (l1 : Int32) (l2 : Int32) (τ : zSg) (hI : i_274 a0 σ l0 l1 l2 τ) (h1 : l2.toInt ≥ (24 : Int)) :
    p_274 (a0) σ l1 τ := by
  obtain ⟨rfl, hI⟩ := hI
  intro h A w
  obtain ⟨e0, n, hn, e2, e1⟩ := hI h A w
  rw [e2, o32 (by omega)] at h1
  have : n = 24 := by omega
  subst this
  exact ⟨e0, e1⟩
theorem sp_274_c7_ft (a0 : Nat) (σ : zSg) (l0 : Nat) (l1 : Int32) (l2 : Int32) (τ : zSg) (τ2 : zSg) (r2 : Int32) (τ3 : zSg) (r3 : Int32) (τ4 : zSg) (r4 : Int32) (hI : i_274 a0 σ l0 l1 l2 τ) (h1 : l2.toInt < (24 : Int)) (g2 : p_186 l0 l2 τ r2 τ2) (g3 : p_187 l2 τ2 r3 τ3) (g4 : p_186 l0 r3 τ3 r4 τ4) (h5 : r2.toInt = r4.toInt) :
    i_274 a0 σ l0 (l1 + (Int32.ofInt (0))) (l2 + Int32.ofInt (1)) τ4 := by
  obtain ⟨rfl, hI⟩ := hI
  refine ⟨rfl, fun h A w => ?_⟩
  obtain ⟨e0, n, hn, e2, e1⟩ := hI h A w
  have w0 : rW τ A := by rw [e0]; exact w.el (by omega)
  rw [e2, o32 (by omega)] at h1
  obtain ⟨ea, ga⟩ := g2
  subst ea
  obtain ⟨eb, gb⟩ := g3
  subst eb
  obtain ⟨ec, gc⟩ := g4
  subst ec
  have xa := ga h A n w0 e2 (by omega)
  have xb := gb n e2 (by omega)
  have xc := gc h A _ w0 xb (Nat.mod_lt _ (by omega))
  rw [xa, xc] at h5
  refine ⟨e0, n + 1, by omega, by rw [e2]; exact o32i (by omega), ?_⟩
  show _ = fCh A n + _
  rw [if_pos (Int32.toInt_inj.mp h5), e1]
theorem sp_274_c7_ff (a0 : Nat) (σ : zSg) (l0 : Nat) (l1 : Int32) (l2 : Int32) (τ : zSg) (τ2 : zSg) (r2 : Int32) (τ3 : zSg) (r3 : Int32) (τ4 : zSg) (r4 : Int32) (hI : i_274 a0 σ l0 l1 l2 τ) (h1 : l2.toInt < (24 : Int)) (g2 : p_186 l0 l2 τ r2 τ2) (g3 : p_187 l2 τ2 r3 τ3) (g4 : p_186 l0 r3 τ3 r4 τ4) (h5 : r2.toInt ≠ r4.toInt) :
    i_274 a0 σ l0 (l1 + (Int32.ofInt (1))) (l2 + Int32.ofInt (1)) τ4 := by
  obtain ⟨rfl, hI⟩ := hI
  refine ⟨rfl, fun h A w => ?_⟩
  obtain ⟨e0, n, hn, e2, e1⟩ := hI h A w
  have w0 : rW τ A := by rw [e0]; exact w.el (by omega)
  rw [e2, o32 (by omega)] at h1
  obtain ⟨ea, ga⟩ := g2
  subst ea
  obtain ⟨eb, gb⟩ := g3
  subst eb
  obtain ⟨ec, gc⟩ := g4
  subst ec
  have xa := ga h A n w0 e2 (by omega)
  have xb := gb n e2 (by omega)
  have xc := gc h A _ w0 xb (Nat.mod_lt _ (by omega))
  rw [xa, xc] at h5
  refine ⟨e0, n + 1, by omega, by rw [e2]; exact o32i (by omega), ?_⟩
  show _ = fCh A n + _
  rw [if_neg (fun q => h5 (congrArg Int32.toInt q)), e1]
noncomputable def qP_274 : zPp := fun as σ o σ' => match as with
  | [a0] => ∃ r, o = .inl (some (.int r)) ∧ p_274 (q_r a0) σ r σ'
  | _ => True
set_option maxRecDepth 100000 in
theorem sp_274 {sx : zX} (S186 : zEe sx 186 2 qP_186) (S187 : zEe sx 187 1 qP_187) : zEe sx 274 1 qP_274 := by
  refine zfle zJ_274 (sps := [(186, 2, qP_186), (187, 1, qP_187)]) (fun q hq => by
    simp only [List.mem_cons, List.not_mem_nil, or_false] at hq
    rcases hq with rfl | rfl
    · exact S186
    · exact S187) (fun as σ hl => ?_)
  match as, hl with
  | [a0], _ =>
  refine ⟨[(7, fun lo st τ => st = [] ∧ i_274 (q_r a0) σ (q_r (lo 0)) (q_i (lo 1)) (q_i (lo 2)) τ)], 400, ?_, ?_⟩
  · intro q hq
    simp only [List.mem_cons, List.not_mem_nil, or_false] at hq
    rcases hq with rfl
    · rintro lo st τ ⟨rfl, hI⟩
      refine ⟨400, ?_⟩
      refine And.intro (fun h1 => ?_) (fun h1 => ?_)
      · exact ⟨_, rfl, sp_274_c7_t (q_r a0) σ (q_r (lo 0)) (q_i (lo 1)) (q_i (lo 2)) τ hI (cm3t h1)⟩
      · refine fun o2 τ2 g2 => ?_
        obtain ⟨r2, rfl, g2⟩ := g2
        refine fun o3 τ3 g3 => ?_
        obtain ⟨r3, rfl, g3⟩ := g3
        refine fun o4 τ4 g4 => ?_
        obtain ⟨r4, rfl, g4⟩ := g4
        refine And.intro (fun h5 => ?_) (fun h5 => ?_)
        · exact ⟨rfl, sp_274_c7_ft (q_r a0) σ (q_r (lo 0)) (q_i (lo 1)) (q_i (lo 2)) τ τ2 r2 τ3 r3 τ4 r4 hI (cm3f h1) g2 g3 g4 (cm0t h5)⟩
        · exact ⟨rfl, sp_274_c7_ff (q_r a0) σ (q_r (lo 0)) (q_i (lo 1)) (q_i (lo 2)) τ τ2 r2 τ3 r3 τ4 r4 hI (cm3f h1) g2 g3 g4 (cm0f h5)⟩
  · exact ⟨rfl, sp_274_e (q_r a0) σ ⟩
theorem zJ_123 : zJ3 123 z_m123 z_c123 z_h123 := ⟨rfl, rfl, rfl⟩
noncomputable def p_123 (a : Nat) (h : Int32) (σ : zSg) (e : Int32 ⊕ Nat) (σ' : zSg) : Prop := a = 0 → ∀ A, xSk σ → hH σ 8 A → σ' = σ ∧ (¬ (0 ≤ h.toInt ∧ h.toInt < 24) → e = .inr 2) ∧ (∀ n, h = Int32.ofNat n → n < 24 → e = .inl (A (16 + n)))
theorem sp_123_en (a0 : Nat) (a1 : Int32) (σ : zSg) (τ1 : zSg) (g1 : p_166 a0 a1 σ (.inl 0) τ1) (h2 : 0 ≤ a1.toInt ∧ a1.toInt < (τ1.2.1 (q_r (τ1.1 (q_r (τ1.1 a0 2)) 0)) : Int)) :
    p_123 (a0) (a1) σ (.inl (q_i (τ1.1 (q_r (τ1.1 (q_r (τ1.1 a0 2)) 0)) a1.toNatClampNeg))) τ1 := by
  rintro rfl A K H
  obtain ⟨e1, u, -⟩ := g1
  subst e1
  have u := u rfl
  refine ⟨rfl, fun q => absurd u q, fun n en hn => ?_⟩
  subst en
  have d2 : q_r (τ1.1 0 2) = 8 := by rw [K.2.1]; rfl
  rw [d2, H.k hk_0, o32n (by omega)]
  exact congrArg Sum.inl (H.p (hp_h hn))
theorem sp_123_ex2_ (a0 : Nat) (a1 : Int32) (σ : zSg) (τ1 : zSg) (g1 : p_166 a0 a1 σ (.inr 2) τ1) :
    p_123 (a0) (a1) σ (.inr 2) τ1 := by
  rintro rfl A K H
  obtain ⟨e1, -, u⟩ := g1
  have u := u rfl
  exact ⟨e1, fun _ => rfl, fun n en hn => absurd (by rw [en, o32 (by omega)]; omega) u⟩
noncomputable def qP_123 : zPp := fun as σ o σ' => match as with
  | [a0, a1] => (∃ r, o = .inl (some (.int r)) ∧ p_123 (q_r a0) (q_i a1) σ (.inl r) σ') ∨ (o = .inr 2 ∧ p_123 (q_r a0) (q_i a1) σ (.inr 2) σ')
  | _ => True
set_option maxRecDepth 100000 in
theorem sp_123 {sx : zX} (S166 : zEe sx 166 2 qP_166) : zEe sx 123 2 qP_123 := by
  refine zfle zJ_123 (sps := [(166, 2, qP_166)]) (fun q hq => by
    simp only [List.mem_cons, List.not_mem_nil, or_false] at hq
    rcases hq with rfl
    · exact S166) (fun as σ hl => ?_)
  match as, hl with
  | [a0, a1], _ =>
  refine ⟨[], 400, ?_, ?_⟩
  · exact fun q hq => absurd hq List.not_mem_nil
  · refine fun o1 τ1 g1 => ?_
    rcases g1 with ⟨rfl, g1⟩ | ⟨rfl, g1⟩
    · refine fun h2 => ?_
      exact Or.inl ⟨_, rfl, sp_123_en (q_r a0) (q_i a1) σ τ1 g1 (q_inp h2)⟩
    · exact Or.inr (⟨rfl, sp_123_ex2_ (q_r a0) (q_i a1) σ τ1 g1⟩)
theorem zJ_248 : zJ3 248 z_m248 z_c248 z_h248 := ⟨rfl, rfl, rfl⟩
noncomputable def p_248 (a : Nat) (h : Int32) (σ : zSg) (r : Int32) (σ' : zSg) : Prop := a = 205 → ∀ A, rW σ A → (¬ (0 ≤ h.toInt ∧ h.toInt < 24) → r = Int32.ofInt 0 ∧ σ' = rTh σ 1) ∧ (∀ n, h = Int32.ofNat n → n < 24 → σ' = r0 σ ∧ r = A (16 + n))
theorem sp_248_et (a0 : Nat) (a1 : Int32) (σ : zSg) (τ1 : zSg) (r1 : Int32) (τ2 : zSg) (r2 : Int32) (τ4 : zSg) (r4 : Int32) (g1 : p_197 a1 (q_w σ a0 0 (.int (Int32.ofInt (0)))) r1 τ1) (g2 : p_176 a0 r1 (Int32.ofInt (1)) τ1 r2 τ2) (h3 : r2.toInt = (0 : Int)) (g4 : p_186 a0 a1 τ2 r4 τ4) :
    p_248 (a0) (a1) σ r4 τ4 := by
  rintro rfl A w
  have w0 : rW (r0 σ) A := w.el (by omega)
  obtain ⟨e1, u1⟩ := g1
  have e1 : τ1 = r0 σ := e1
  subst e1
  obtain ⟨x2, y2, n2⟩ := g2
  rw [x2] at h3
  have e2 := n2 h3
  subst e2
  obtain ⟨e3, g3⟩ := g4
  exact ⟨fun q => absurd h3 (u1.mpr q), fun n en hn => ⟨e3, g3 rfl A n w0 en hn⟩⟩
theorem sp_248_ef (a0 : Nat) (a1 : Int32) (σ : zSg) (τ1 : zSg) (r1 : Int32) (τ2 : zSg) (r2 : Int32) (g1 : p_197 a1 (q_w σ a0 0 (.int (Int32.ofInt (0)))) r1 τ1) (g2 : p_176 a0 r1 (Int32.ofInt (1)) τ1 r2 τ2) (h3 : r2.toInt ≠ (0 : Int)) :
    p_248 (a0) (a1) σ (Int32.ofInt (0)) τ2 := by
  rintro rfl A w
  obtain ⟨e1, u1⟩ := g1
  have e1 : τ1 = r0 σ := e1
  subst e1
  obtain ⟨x2, y2, n2⟩ := g2
  rw [x2] at h3
  have e2 := y2 h3
  subst e2
  exact ⟨fun _ => ⟨rfl, r0_T⟩, fun n en hn => absurd (by rw [en, o32 (by omega)]; omega) (u1.mp h3)⟩
noncomputable def qP_248 : zPp := fun as σ o σ' => match as with
  | [a0, a1] => ∃ r, o = .inl (some (.int r)) ∧ p_248 (q_r a0) (q_i a1) σ r σ'
  | _ => True
set_option maxRecDepth 100000 in
theorem sp_248 {sx : zX} (S197 : zEe sx 197 1 qP_197) (S176 : zEe sx 176 3 qP_176) (S186 : zEe sx 186 2 qP_186) : zEe sx 248 2 qP_248 := by
  refine zfle zJ_248 (sps := [(197, 1, qP_197), (176, 3, qP_176), (186, 2, qP_186)]) (fun q hq => by
    simp only [List.mem_cons, List.not_mem_nil, or_false] at hq
    rcases hq with rfl | rfl | rfl
    · exact S197
    · exact S176
    · exact S186) (fun as σ hl => ?_)
  match as, hl with
  | [a0, a1], _ =>
  refine ⟨[], 400, ?_, ?_⟩
  · exact fun q hq => absurd hq List.not_mem_nil
  · refine fun o1 τ1 g1 => ?_
    obtain ⟨r1, rfl, g1⟩ := g1
    refine fun o2 τ2 g2 => ?_
    obtain ⟨r2, rfl, g2⟩ := g2
    refine And.intro (fun h3 => ?_) (fun h3 => ?_)
    · refine fun o4 τ4 g4 => ?_
      obtain ⟨r4, rfl, g4⟩ := g4
      exact ⟨_, rfl, sp_248_et (q_r a0) (q_i a1) σ τ1 r1 τ2 r2 τ4 r4 g1 g2 (cm0t h3) g4⟩
    · exact ⟨_, rfl, sp_248_ef (q_r a0) (q_i a1) σ τ1 r1 τ2 r2 g1 g2 (cm0f h3)⟩
noncomputable def fB (P : Nat → Bool) : Nat → Int32
  | 0 => Int32.ofInt 0
  | n + 1 => fB P n ||| (if P n = true then Int32.ofInt 1 <<< (Int32.ofNat n &&& 31) else Int32.ofInt 0)
theorem fB_cg {P Q : Nat → Bool} : ∀ n, (∀ i, i < n → P i = Q i) → fB P n = fB Q n
  | 0, _ => rfl
  | n + 1, h => by
    show fB P n ||| _ = fB Q n ||| _
    rw [fB_cg n (fun i hi => h i (by omega)), h n (by omega)]
theorem sl_all : (List.range 32).all (fun n => (List.range 32).all (fun i => decide ((Int32.ofInt 1 <<< (Int32.ofNat n &&& 31)).toBitVec.getLsbD i = decide (i = n)))) = true := by decide +kernel
theorem sl_at {n i : Nat} (hn : n < 32) (hi : i < 32) : (Int32.ofInt 1 <<< (Int32.ofNat n &&& 31)).toBitVec.getLsbD i = decide (i = n) := of_decide_eq_true (List.all_eq_true.mp (List.all_eq_true.mp sl_all n (List.mem_range.mpr hn)) i (List.mem_range.mpr hi))
theorem z0_bit {i : Nat} : (Int32.ofInt 0).toBitVec.getLsbD i = false := BitVec.getLsbD_zero
theorem fB_bit {P : Nat → Bool} {i : Nat} (hi : i < 32) : ∀ n, n ≤ 24 → (fB P n).toBitVec.getLsbD i = (decide (i < n) && P i)
  | 0, _ => by
    show (Int32.ofInt 0).toBitVec.getLsbD i = _
    rw [z0_bit, decide_eq_false (by omega), Bool.false_and]
  | n + 1, hn => by
    show (fB P n ||| _).toBitVec.getLsbD i = _
    rw [Int32.toBitVec_or, BitVec.getLsbD_or, fB_bit hi n (by omega)]
    by_cases hp : P n = true
    · rw [if_pos hp, sl_at (by omega) hi]
      by_cases q : i = n
      · subst q
        rw [decide_eq_true (p := i = i) rfl, Bool.or_true, hp, decide_eq_true (show i < i + 1 by omega)]
        rfl
      · rw [decide_eq_false q, Bool.or_false]
        by_cases q2 : i < n
        · rw [decide_eq_true q2, decide_eq_true (show i < n + 1 by omega)]
        · rw [decide_eq_false q2, decide_eq_false (show ¬ i < n + 1 by omega)]
    · rw [if_neg hp, z0_bit, Bool.or_false]
      by_cases q : i = n
      · subst q
        rw [Bool.not_eq_true] at hp
        rw [hp, Bool.and_false, Bool.and_false]
      · by_cases q2 : i < n
        · rw [decide_eq_true q2, decide_eq_true (show i < n + 1 by omega)]
        · rw [decide_eq_false q2, decide_eq_false (show ¬ i < n + 1 by omega)]
theorem i_bits {x y : Int32} (h : ∀ i, i < 32 → x.toBitVec.getLsbD i = y.toBitVec.getLsbD i) : x = y := Int32.toBitVec_inj.mp (BitVec.eq_of_getLsbD_eq h)
theorem m1_all : (List.range 32).all (fun i => decide ((Int32.ofInt (-1)).toBitVec.getLsbD i = true) && decide ((Int32.ofInt 16777215).toBitVec.getLsbD i = decide (i < 24))) = true := by decide +kernel
theorem fB_not {P : Nat → Bool} : Int32.ofInt 16777215 &&& (fB P 24 ^^^ Int32.ofInt (-1)) = fB (fun i => !P i) 24 := i_bits (fun i hi => by
  have m := List.all_eq_true.mp m1_all i (List.mem_range.mpr hi)
  rw [Bool.and_eq_true, decide_eq_true_eq, decide_eq_true_eq] at m
  rw [Int32.toBitVec_and, BitVec.getLsbD_and, Int32.toBitVec_xor, BitVec.getLsbD_xor, m.1, m.2, fB_bit hi 24 (by omega), fB_bit hi 24 (by omega)]
  by_cases q : i < 24
  · rw [decide_eq_true q, Bool.true_and, Bool.true_and, Bool.true_and, Bool.xor_true]
  · rw [decide_eq_false q, Bool.false_and, Bool.false_and])
theorem zJ_28 : zJ3 28 z_m28 z_c28 z_h28 := ⟨rfl, rfl, rfl⟩
noncomputable def p_28 (a : Nat) (m : Int32) (σ : zSg) (r : Int32) (σ' : zSg) : Prop := σ' = σ ∧ ∀ H, hH σ a H → r = fB (fun h => decide (H (16 + h) ≠ Int32.ofInt (-1)) && btb m (H (16 + h))) 24
noncomputable def i_28 (a : Nat) (m : Int32) (σ : zSg) (l0 : Nat) (l1 l2 l3 : Int32) (τ : zSg) : Prop := l0 = a ∧ l1 = m ∧ τ = σ ∧ ∃ n, n ≤ 24 ∧ l3 = Int32.ofNat n ∧ ∀ H, hH σ a H → l2 = fB (fun h => decide (H (16 + h) ≠ Int32.ofInt (-1)) && btb m (H (16 + h))) n
theorem sp_28_e (a0 : Nat) (a1 : Int32) (σ : zSg)  :
    i_28 a0 a1 σ a0 a1 (Int32.ofInt (0)) (Int32.ofInt (0)) σ := by
  exact ⟨rfl, rfl, rfl, 0, by omega, rfl, fun H K => rfl⟩
theorem sp_28_c4_t (a0 : Nat) (a1 : Int32) (σ : zSg) (l0 : Nat) (l1 : Int32) (l2 : Int32) (l3 : Int32) (τ : zSg) (hI : i_28 a0 a1 σ l0 l1 l2 l3 τ) (h1 : l3.toInt ≥ (24 : Int)) :
    p_28 (a0) (a1) σ l2 τ := by
  obtain ⟨rfl, rfl, rfl, n, hn, rfl, hI⟩ := hI
  rw [o32 (by omega)] at h1
  have : n = 24 := by omega
  subst this
  exact ⟨rfl, hI⟩
theorem sp_28_c4_ft (a0 : Nat) (a1 : Int32) (σ : zSg) (l0 : Nat) (l1 : Int32) (l2 : Int32) (l3 : Int32) (τ : zSg) (hI : i_28 a0 a1 σ l0 l1 l2 l3 τ) (h1 : l3.toInt < (24 : Int)) (h2 : 0 ≤ l3.toInt ∧ l3.toInt < (τ.2.1 (q_r (τ.1 l0 0)) : Int)) (h3 : (q_i (τ.1 (q_r (τ.1 l0 0)) l3.toNatClampNeg)).toInt = (-1 : Int)) :
    i_28 a0 a1 σ l0 l1 l2 (l3 + Int32.ofInt (1)) τ := by
  obtain ⟨rfl, rfl, rfl, n, hn, rfl, hI⟩ := hI
  rw [o32 (by omega)] at h1
  refine ⟨rfl, rfl, rfl, n + 1, by omega, o32i (by omega), fun H K => ?_⟩
  have ev : q_i (τ.1 (q_r (τ.1 l0 0)) (Int32.ofNat n).toNatClampNeg) = H (16 + n) := by
    rw [K.k hk_0, o32n (by omega)]
    exact K.p (hp_h (by omega))
  show _ = fB (fun h => decide (H (16 + h) ≠ Int32.ofInt (-1)) && btb l1 (H (16 + h))) n ||| _
  rw [ev] at h3
  have hm : H (16 + n) = Int32.ofInt (-1) := Int32.toInt_inj.mp (h3.trans (show (-1 : Int) = (Int32.ofInt (-1)).toInt from rfl))
  rw [if_neg (fun q => by
    have q : (decide (H (16 + n) ≠ Int32.ofInt (-1)) && btb l1 (H (16 + n))) = true := q
    rw [hm] at q
    simp at q), hI H K]
  exact Int32.or_zero.symm
theorem sp_28_c4_fft (a0 : Nat) (a1 : Int32) (σ : zSg) (l0 : Nat) (l1 : Int32) (l2 : Int32) (l3 : Int32) (τ : zSg) (hI : i_28 a0 a1 σ l0 l1 l2 l3 τ) (h1 : l3.toInt < (24 : Int)) (h2 : 0 ≤ l3.toInt ∧ l3.toInt < (τ.2.1 (q_r (τ.1 l0 0)) : Int)) (h3 : (q_i (τ.1 (q_r (τ.1 l0 0)) l3.toNatClampNeg)).toInt ≠ (-1 : Int)) (h4 : 0 ≤ l3.toInt ∧ l3.toInt < (τ.2.1 (q_r (τ.1 l0 0)) : Int)) (h5 : ((l1 >>> ((q_i (τ.1 (q_r (τ.1 l0 0)) l3.toNatClampNeg)) &&& 31)) &&& (Int32.ofInt (1))).toInt ≠ (1 : Int)) :
    i_28 a0 a1 σ l0 l1 l2 (l3 + Int32.ofInt (1)) τ := by
  obtain ⟨rfl, rfl, rfl, n, hn, rfl, hI⟩ := hI
  rw [o32 (by omega)] at h1
  refine ⟨rfl, rfl, rfl, n + 1, by omega, o32i (by omega), fun H K => ?_⟩
  have ev : q_i (τ.1 (q_r (τ.1 l0 0)) (Int32.ofNat n).toNatClampNeg) = H (16 + n) := by
    rw [K.k hk_0, o32n (by omega)]
    exact K.p (hp_h (by omega))
  show _ = fB (fun h => decide (H (16 + h) ≠ Int32.ofInt (-1)) && btb l1 (H (16 + h))) n ||| _
  rw [ev] at h5
  have hb : btb l1 (H (16 + n)) = false := decide_eq_false h5
  rw [if_neg (fun q => by
    have q : (decide (H (16 + n) ≠ Int32.ofInt (-1)) && btb l1 (H (16 + n))) = true := q
    rw [hb, Bool.and_false] at q
    cases q), hI H K]
  exact Int32.or_zero.symm
theorem sp_28_c4_fff (a0 : Nat) (a1 : Int32) (σ : zSg) (l0 : Nat) (l1 : Int32) (l2 : Int32) (l3 : Int32) (τ : zSg) (hI : i_28 a0 a1 σ l0 l1 l2 l3 τ) (h1 : l3.toInt < (24 : Int)) (h2 : 0 ≤ l3.toInt ∧ l3.toInt < (τ.2.1 (q_r (τ.1 l0 0)) : Int)) (h3 : (q_i (τ.1 (q_r (τ.1 l0 0)) l3.toNatClampNeg)).toInt ≠ (-1 : Int)) (h4 : 0 ≤ l3.toInt ∧ l3.toInt < (τ.2.1 (q_r (τ.1 l0 0)) : Int)) (h5 : ((l1 >>> ((q_i (τ.1 (q_r (τ.1 l0 0)) l3.toNatClampNeg)) &&& 31)) &&& (Int32.ofInt (1))).toInt = (1 : Int)) :
    i_28 a0 a1 σ l0 l1 (l2 ||| ((Int32.ofInt (1)) <<< (l3 &&& 31))) (l3 + Int32.ofInt (1)) τ := by
  obtain ⟨rfl, rfl, rfl, n, hn, rfl, hI⟩ := hI
  rw [o32 (by omega)] at h1
  refine ⟨rfl, rfl, rfl, n + 1, by omega, o32i (by omega), fun H K => ?_⟩
  have ev : q_i (τ.1 (q_r (τ.1 l0 0)) (Int32.ofNat n).toNatClampNeg) = H (16 + n) := by
    rw [K.k hk_0, o32n (by omega)]
    exact K.p (hp_h (by omega))
  show _ = fB (fun h => decide (H (16 + h) ≠ Int32.ofInt (-1)) && btb l1 (H (16 + h))) n ||| _
  rw [ev] at h3 h5
  have hb : btb l1 (H (16 + n)) = true := decide_eq_true h5
  rw [if_pos (by
    show (decide (H (16 + n) ≠ Int32.ofInt (-1)) && btb l1 (H (16 + n))) = true
    rw [hb, Bool.and_true]; exact decide_eq_true (fun q => h3 (by rw [q]; rfl))), hI H K]
noncomputable def qP_28 : zPp := fun as σ o σ' => match as with
  | [a0, a1] => ∃ r, o = .inl (some (.int r)) ∧ p_28 (q_r a0) (q_i a1) σ r σ'
  | _ => True
set_option maxRecDepth 100000 in
theorem sp_28 {sx : zX}  : zEe sx 28 2 qP_28 := by
  refine zfle zJ_28 (sps := []) (fun q hq => absurd hq List.not_mem_nil) (fun as σ hl => ?_)
  match as, hl with
  | [a0, a1], _ =>
  refine ⟨[(4, fun lo st τ => st = [] ∧ i_28 (q_r a0) (q_i a1) σ (q_r (lo 0)) (q_i (lo 1)) (q_i (lo 2)) (q_i (lo 3)) τ)], 400, ?_, ?_⟩
  · intro q hq
    simp only [List.mem_cons, List.not_mem_nil, or_false] at hq
    rcases hq with rfl
    · rintro lo st τ ⟨rfl, hI⟩
      refine ⟨400, ?_⟩
      refine And.intro (fun h1 => ?_) (fun h1 => ?_)
      · exact ⟨_, rfl, sp_28_c4_t (q_r a0) (q_i a1) σ (q_r (lo 0)) (q_i (lo 1)) (q_i (lo 2)) (q_i (lo 3)) τ hI (cm3t h1)⟩
      · refine fun h2 => ?_
        refine And.intro (fun h3 => ?_) (fun h3 => ?_)
        · exact ⟨rfl, sp_28_c4_ft (q_r a0) (q_i a1) σ (q_r (lo 0)) (q_i (lo 1)) (q_i (lo 2)) (q_i (lo 3)) τ hI (cm3f h1) (q_inp h2) (cm0t h3)⟩
        · refine fun h4 => ?_
          refine And.intro (fun h5 => ?_) (fun h5 => ?_)
          · exact ⟨rfl, sp_28_c4_fft (q_r a0) (q_i a1) σ (q_r (lo 0)) (q_i (lo 1)) (q_i (lo 2)) (q_i (lo 3)) τ hI (cm3f h1) (q_inp h2) (cm0f h3) (q_inp h4) (cm1t h5)⟩
          · exact ⟨rfl, sp_28_c4_fff (q_r a0) (q_i a1) σ (q_r (lo 0)) (q_i (lo 1)) (q_i (lo 2)) (q_i (lo 3)) τ hI (cm3f h1) (q_inp h2) (cm0f h3) (q_inp h4) (cm1f h5)⟩
  · exact ⟨rfl, sp_28_e (q_r a0) (q_i a1) σ ⟩
theorem zJ_242 : zJ3 242 z_m242 z_c242 z_h242 := ⟨rfl, rfl, rfl⟩
noncomputable def p_242 (a : Nat) (f : Int32) (σ : zSg) (r : Int32) (σ' : zSg) : Prop := σ' = σ ∧ (a = 205 → ∀ A, rW σ A → r = fB (fun h => decide (A (16 + h) = f)) 24)
noncomputable def i_242 (a : Nat) (f : Int32) (σ : zSg) (l0 : Nat) (l1 l2 l3 : Int32) (τ : zSg) : Prop := l0 = a ∧ l1 = f ∧ τ = σ ∧ ∃ n, n ≤ 24 ∧ l3 = Int32.ofNat n ∧ (a = 205 → ∀ A, rW σ A → l2 = fB (fun h => decide (A (16 + h) = f)) n)
theorem sp_242_e (a0 : Nat) (a1 : Int32) (σ : zSg)  :
    i_242 a0 a1 σ a0 a1 (Int32.ofInt (0)) (Int32.ofInt (0)) σ := by
  exact ⟨rfl, rfl, rfl, 0, by omega, rfl, fun _ A w => rfl⟩
theorem sp_242_c4_t (a0 : Nat) (a1 : Int32) (σ : zSg) (l0 : Nat) (l1 : Int32) (l2 : Int32) (l3 : Int32) (τ : zSg) (hI : i_242 a0 a1 σ l0 l1 l2 l3 τ) (h1 : l3.toInt ≥ (24 : Int)) :
    p_242 (a0) (a1) σ l2 τ := by
  obtain ⟨rfl, rfl, rfl, n, hn, rfl, hI⟩ := hI
  rw [o32 (by omega)] at h1
  have : n = 24 := by omega
  subst this
  exact ⟨rfl, hI⟩
theorem sp_242_c4_ft (a0 : Nat) (a1 : Int32) (σ : zSg) (l0 : Nat) (l1 : Int32) (l2 : Int32) (l3 : Int32) (τ : zSg) (τ2 : zSg) (r2 : Int32) (hI : i_242 a0 a1 σ l0 l1 l2 l3 τ) (h1 : l3.toInt < (24 : Int)) (g2 : p_186 l0 l3 τ r2 τ2) (h3 : r2.toInt ≠ l1.toInt) :
    i_242 a0 a1 σ l0 l1 (l2 ||| (Int32.ofInt (0))) (l3 + Int32.ofInt (1)) τ2 := by
  obtain ⟨rfl, rfl, rfl, n, hn, rfl, hI⟩ := hI
  rw [o32 (by omega)] at h1
  obtain ⟨rfl, g1⟩ := g2
  refine ⟨rfl, rfl, rfl, n + 1, by omega, o32i (by omega), fun h A w => ?_⟩
  have x1 := g1 h A n w rfl (by omega)
  rw [x1] at h3
  show _ = fB (fun h => decide (A (16 + h) = l1)) n ||| _
  rw [if_neg (fun q => h3 (congrArg Int32.toInt (of_decide_eq_true q))), hI h A w]
theorem sp_242_c4_ff (a0 : Nat) (a1 : Int32) (σ : zSg) (l0 : Nat) (l1 : Int32) (l2 : Int32) (l3 : Int32) (τ : zSg) (τ2 : zSg) (r2 : Int32) (hI : i_242 a0 a1 σ l0 l1 l2 l3 τ) (h1 : l3.toInt < (24 : Int)) (g2 : p_186 l0 l3 τ r2 τ2) (h3 : r2.toInt = l1.toInt) :
    i_242 a0 a1 σ l0 l1 (l2 ||| ((Int32.ofInt (1)) <<< (l3 &&& 31))) (l3 + Int32.ofInt (1)) τ2 := by
  obtain ⟨rfl, rfl, rfl, n, hn, rfl, hI⟩ := hI
  rw [o32 (by omega)] at h1
  obtain ⟨rfl, g1⟩ := g2
  refine ⟨rfl, rfl, rfl, n + 1, by omega, o32i (by omega), fun h A w => ?_⟩
  have x1 := g1 h A n w rfl (by omega)
  rw [x1] at h3
  show _ = fB (fun h => decide (A (16 + h) = l1)) n ||| _
  rw [if_pos (decide_eq_true (Int32.toInt_inj.mp h3)), hI h A w]
noncomputable def qP_242 : zPp := fun as σ o σ' => match as with
  | [a0, a1] => ∃ r, o = .inl (some (.int r)) ∧ p_242 (q_r a0) (q_i a1) σ r σ'
  | _ => True
set_option maxRecDepth 100000 in
theorem sp_242 {sx : zX} (S186 : zEe sx 186 2 qP_186) : zEe sx 242 2 qP_242 := by
  refine zfle zJ_242 (sps := [(186, 2, qP_186)]) (fun q hq => by
    simp only [List.mem_cons, List.not_mem_nil, or_false] at hq
    rcases hq with rfl
    · exact S186) (fun as σ hl => ?_)
  match as, hl with
  | [a0, a1], _ =>
  refine ⟨[(4, fun lo st τ => st = [] ∧ i_242 (q_r a0) (q_i a1) σ (q_r (lo 0)) (q_i (lo 1)) (q_i (lo 2)) (q_i (lo 3)) τ)], 400, ?_, ?_⟩
  · intro q hq
    simp only [List.mem_cons, List.not_mem_nil, or_false] at hq
    rcases hq with rfl
    · rintro lo st τ ⟨rfl, hI⟩
      refine ⟨400, ?_⟩
      refine And.intro (fun h1 => ?_) (fun h1 => ?_)
      · exact ⟨_, rfl, sp_242_c4_t (q_r a0) (q_i a1) σ (q_r (lo 0)) (q_i (lo 1)) (q_i (lo 2)) (q_i (lo 3)) τ hI (cm3t h1)⟩
      · refine fun o2 τ2 g2 => ?_
        obtain ⟨r2, rfl, g2⟩ := g2
        refine And.intro (fun h3 => ?_) (fun h3 => ?_)
        · exact ⟨rfl, sp_242_c4_ft (q_r a0) (q_i a1) σ (q_r (lo 0)) (q_i (lo 1)) (q_i (lo 2)) (q_i (lo 3)) τ τ2 r2 hI (cm3f h1) g2 (cm1t h3)⟩
        · exact ⟨rfl, sp_242_c4_ff (q_r a0) (q_i a1) σ (q_r (lo 0)) (q_i (lo 1)) (q_i (lo 2)) (q_i (lo 3)) τ τ2 r2 hI (cm3f h1) g2 (cm1f h3)⟩
  · exact ⟨rfl, sp_242_e (q_r a0) (q_i a1) σ ⟩
theorem zJ_11 : zJ3 11 z_m11 z_c11 z_h11 := ⟨rfl, rfl, rfl⟩
noncomputable def p_11 (a : Nat) (σ : zSg) (r : Int32) (σ' : zSg) : Prop := σ' = σ ∧ ∀ b H, a = b + 2 → hH σ b H → r = (Int32.ofInt 1 <<< (H 0 &&& 31)) - Int32.ofInt 1
theorem sp_11_e (a0 : Nat) (σ : zSg)  :
    p_11 (a0) σ (((Int32.ofInt (1)) <<< ((q_i (σ.1 a0 4)) &&& 31)) - (Int32.ofInt (1))) σ := by
  refine ⟨rfl, ?_⟩
  rintro b H rfl K
  have p0 := K.p hp_0
  rw [p0]
noncomputable def qP_11 : zPp := fun as σ o σ' => match as with
  | [a0] => ∃ r, o = .inl (some (.int r)) ∧ p_11 (q_r a0) σ r σ'
  | _ => True
set_option maxRecDepth 100000 in
theorem sp_11 {sx : zX}  : zEe sx 11 1 qP_11 := by
  refine zfle zJ_11 (sps := []) (fun q hq => absurd hq List.not_mem_nil) (fun as σ hl => ?_)
  match as, hl with
  | [a0], _ =>
  refine ⟨[], 400, ?_, ?_⟩
  · exact fun q hq => absurd hq List.not_mem_nil
  · exact ⟨_, rfl, sp_11_e (q_r a0) σ ⟩
theorem ev_all : (List.range 7).all (fun n => (List.range n).all (fun F => decide (btb ((Int32.ofInt 1 <<< (Int32.ofNat n &&& 31)) - Int32.ofInt 1) (Int32.ofNat F) = true))) = true := by decide +kernel
theorem ev_at {n F : Nat} (hn : n ≤ 6) (hF : F < n) : btb ((Int32.ofInt 1 <<< (Int32.ofNat n &&& 31)) - Int32.ofInt 1) (Int32.ofNat F) = true := of_decide_eq_true (List.all_eq_true.mp (List.all_eq_true.mp ev_all n (List.mem_range.mpr (by omega))) F (List.mem_range.mpr hF))
theorem zJ_71 : zJ3 71 z_m71 z_c71 z_h71 := ⟨rfl, rfl, rfl⟩
noncomputable def p_71 (b : Nat) (σ : zSg) (r : Int32) (σ' : zSg) : Prop := σ' = σ ∧ ∀ A nf nt, hH σ b A → aI nf nt A → r = fB (fun h => decide (A (16 + h) = Int32.ofInt (-1))) 24
theorem sp_71_e (a0 : Nat) (σ : zSg) (τ1 : zSg) (r1 : Int32) (τ2 : zSg) (r2 : Int32) (g1 : p_11 (q_r (σ.1 a0 1)) σ r1 τ1) (g2 : p_28 a0 r1 τ1 r2 τ2) :
    p_71 (a0) σ ((Int32.ofInt (16777215)) &&& (r2 ^^^ (Int32.ofInt (-1)))) τ2 := by
  obtain ⟨rfl, g1⟩ := g1
  obtain ⟨rfl, g2⟩ := g2
  refine ⟨rfl, fun A nf nt K I => ?_⟩
  rw [K.k hk_1] at g1
  have x1 := g1 a0 A rfl K
  rw [I.1.1] at x1
  have x2 := g2 A K
  rw [x2, x1, fB_not]
  refine fB_cg 24 (fun h hh => ?_)
  rcases I.2.1 h hh with q | ⟨F, hF, q⟩
  · rw [q]
    simp
  · have ne : Int32.ofNat F ≠ Int32.ofInt (-1) := fun e => by
      have := congrArg Int32.toInt e
      rw [o32 (by have := I.1.2.1; omega), show (Int32.ofInt (-1)).toInt = -1 from rfl] at this
      omega
    rw [q, ev_at I.1.2.1 hF, Bool.and_true, decide_eq_true ne, decide_eq_false ne]
    rfl
noncomputable def qP_71 : zPp := fun as σ o σ' => match as with
  | [a0] => ∃ r, o = .inl (some (.int r)) ∧ p_71 (q_r a0) σ r σ'
  | _ => True
set_option maxRecDepth 100000 in
theorem sp_71 {sx : zX} (S11 : zEe sx 11 1 qP_11) (S28 : zEe sx 28 2 qP_28) : zEe sx 71 1 qP_71 := by
  refine zfle zJ_71 (sps := [(11, 1, qP_11), (28, 2, qP_28)]) (fun q hq => by
    simp only [List.mem_cons, List.not_mem_nil, or_false] at hq
    rcases hq with rfl | rfl
    · exact S11
    · exact S28) (fun as σ hl => ?_)
  match as, hl with
  | [a0], _ =>
  refine ⟨[], 400, ?_, ?_⟩
  · exact fun q hq => absurd hq List.not_mem_nil
  · refine fun o1 τ1 g1 => ?_
    obtain ⟨r1, rfl, g1⟩ := g1
    refine fun o2 τ2 g2 => ?_
    obtain ⟨r2, rfl, g2⟩ := g2
    exact ⟨_, rfl, sp_71_e (q_r a0) σ τ1 r1 τ2 r2 g1 g2⟩
theorem zJ_138 : zJ3 138 z_m138 z_c138 z_h138 := ⟨rfl, rfl, rfl⟩
noncomputable def p_138 (a : Nat) (σ : zSg) (r : Int32) (σ' : zSg) : Prop := a = 0 → xSk σ → σ' = σ ∧ ∀ A nf nt, hH σ 8 A → aI nf nt A → r = fB (fun h => decide (A (16 + h) = Int32.ofInt (-1))) 24
theorem sp_138_e (a0 : Nat) (σ : zSg) (τ1 : zSg) (r1 : Int32) (g1 : p_71 (q_r (σ.1 a0 2)) σ r1 τ1) :
    p_138 (a0) σ r1 τ1 := by
  rintro rfl K
  have d2 : q_r (σ.1 0 2) = 8 := by rw [K.2.1]; rfl
  rw [d2] at g1
  exact g1
noncomputable def qP_138 : zPp := fun as σ o σ' => match as with
  | [a0] => ∃ r, o = .inl (some (.int r)) ∧ p_138 (q_r a0) σ r σ'
  | _ => True
set_option maxRecDepth 100000 in
theorem sp_138 {sx : zX} (S71 : zEe sx 71 1 qP_71) : zEe sx 138 1 qP_138 := by
  refine zfle zJ_138 (sps := [(71, 1, qP_71)]) (fun q hq => by
    simp only [List.mem_cons, List.not_mem_nil, or_false] at hq
    rcases hq with rfl
    · exact S71) (fun as σ hl => ?_)
  match as, hl with
  | [a0], _ =>
  refine ⟨[], 400, ?_, ?_⟩
  · exact fun q hq => absurd hq List.not_mem_nil
  · refine fun o1 τ1 g1 => ?_
    obtain ⟨r1, rfl, g1⟩ := g1
    exact ⟨_, rfl, sp_138_e (q_r a0) σ τ1 r1 g1⟩
theorem zJ_279 : zJ3 279 z_m279 z_c279 z_h279 := ⟨rfl, rfl, rfl⟩
noncomputable def p_279 (a : Nat) (σ : zSg) (r : Int32) (σ' : zSg) : Prop := a = 205 → ∀ A, rW σ A → σ' = r0 σ ∧ r = fB (fun h => decide (A (16 + h) = Int32.ofInt (-1))) 24
theorem sp_279_e (a0 : Nat) (σ : zSg) (τ1 : zSg) (r1 : Int32) (g1 : p_242 a0 (Int32.ofInt (-1)) (q_w σ a0 0 (.int (Int32.ofInt (0)))) r1 τ1) :
    p_279 (a0) σ r1 τ1 := by
  rintro rfl A w
  obtain ⟨e1, g1⟩ := g1
  exact ⟨e1, g1 rfl A (w.el (by omega))⟩
noncomputable def qP_279 : zPp := fun as σ o σ' => match as with
  | [a0] => ∃ r, o = .inl (some (.int r)) ∧ p_279 (q_r a0) σ r σ'
  | _ => True
set_option maxRecDepth 100000 in
theorem sp_279 {sx : zX} (S242 : zEe sx 242 2 qP_242) : zEe sx 279 1 qP_279 := by
  refine zfle zJ_279 (sps := [(242, 2, qP_242)]) (fun q hq => by
    simp only [List.mem_cons, List.not_mem_nil, or_false] at hq
    rcases hq with rfl
    · exact S242) (fun as σ hl => ?_)
  match as, hl with
  | [a0], _ =>
  refine ⟨[], 400, ?_, ?_⟩
  · exact fun q hq => absurd hq List.not_mem_nil
  · refine fun o1 τ1 g1 => ?_
    obtain ⟨r1, rfl, g1⟩ := g1
    exact ⟨_, rfl, sp_279_e (q_r a0) σ τ1 r1 g1⟩
theorem zJ_156 : zJ3 156 z_m156 z_c156 z_h156 := ⟨rfl, rfl, rfl⟩
noncomputable def p_156 (a : Nat) (σ : zSg) (r : Int32) (σ' : zSg) : Prop := a = 0 → xSk σ → ∀ A nf nt, hH σ 8 A → aI nf nt A → σ' = σ ∧ ∀ q, A 4 = Int32.ofNat q → q < 24 → r = aBo A (A (16 + q)) nt
theorem sp_156_e (a0 : Nat) (σ : zSg) (τ1 : zSg) (r1 : Int32) (τ2 : zSg) (r2 : Int32) (g1 : p_27 (q_r (σ.1 a0 2)) σ r1 τ1) (g2 : p_109 (q_r (σ.1 (q_r (σ.1 a0 2)) 2)) r1 τ1 r2 τ2) :
    p_156 (a0) σ r2 τ2 := by
  rintro rfl K A nf nt H I
  have d2 : q_r (σ.1 0 2) = 8 := by rw [K.2.1]; rfl
  rw [d2] at g1 g2
  obtain ⟨rfl, g1⟩ := g1
  rw [H.k hk_2] at g2
  obtain ⟨e2, x2⟩ := g2 8 A nt rfl H I.1.2.2.1 I.1.2.2.2.1
  refine ⟨e2, fun q eq hq => ?_⟩
  rw [x2, g1 A q H eq hq]
noncomputable def qP_156 : zPp := fun as σ o σ' => match as with
  | [a0] => ∃ r, o = .inl (some (.int r)) ∧ p_156 (q_r a0) σ r σ'
  | _ => True
set_option maxRecDepth 100000 in
theorem sp_156 {sx : zX} (S27 : zEe sx 27 1 qP_27) (S109 : zEe sx 109 2 qP_109) : zEe sx 156 1 qP_156 := by
  refine zfle zJ_156 (sps := [(27, 1, qP_27), (109, 2, qP_109)]) (fun q hq => by
    simp only [List.mem_cons, List.not_mem_nil, or_false] at hq
    rcases hq with rfl | rfl
    · exact S27
    · exact S109) (fun as σ hl => ?_)
  match as, hl with
  | [a0], _ =>
  refine ⟨[], 400, ?_, ?_⟩
  · exact fun q hq => absurd hq List.not_mem_nil
  · refine fun o1 τ1 g1 => ?_
    obtain ⟨r1, rfl, g1⟩ := g1
    refine fun o2 τ2 g2 => ?_
    obtain ⟨r2, rfl, g2⟩ := g2
    exact ⟨_, rfl, sp_156_e (q_r a0) σ τ1 r1 τ2 r2 g1 g2⟩
theorem zJ_302 : zJ3 302 z_m302 z_c302 z_h302 := ⟨rfl, rfl, rfl⟩
noncomputable def p_302 (a : Nat) (σ : zSg) (r : Int32) (σ' : zSg) : Prop := a = 205 → ∀ A nf nt, rW σ A → aI nf nt A → σ' = r0 σ ∧ ∀ q, A 4 = Int32.ofNat q → q < 24 → r = aBo A (A (16 + q)) nt
noncomputable def i_302 (a : Nat) (σ : zSg) (l0 : Nat) (l1 l2 : Int32) (τ : zSg) : Prop := l0 = a ∧ (a = 205 → ∀ A nf nt, rW σ A → aI nf nt A → τ = r0 σ ∧ ∃ n, n ≤ nt ∧ l2 = Int32.ofNat n ∧ ∀ q, A 4 = Int32.ofNat q → q < 24 → l1 = aBo A (A (16 + q)) n)
theorem sp_302_e (a0 : Nat) (σ : zSg)  :
    i_302 a0 σ a0 (Int32.ofInt (0)) (Int32.ofInt (0)) (q_w σ a0 0 (.int (Int32.ofInt (0)))) := by
  refine ⟨rfl, ?_⟩
  rintro rfl A nf nt w I
  exact ⟨rfl, 0, by omega, rfl, fun _ _ _ => rfl⟩
theorem sp_302_c7_t (a0 : Nat) (σ : zSg) (l0 : Nat) (l1 : Int32) (l2 : Int32) (τ : zSg) (τ1 : zSg) (r1 : Int32) (hI : i_302 a0 σ l0 l1 l2 τ) (g1 : p_185 l0 τ r1 τ1) (h2 : l2.toInt ≥ r1.toInt) :
    p_302 (a0) σ l1 τ1 := by
  obtain ⟨rfl, hI⟩ := hI
  intro h A nf nt w I
  obtain ⟨e0, n, hn, e2, e1⟩ := hI h A nf nt w I
  have w0 : rW τ A := by rw [e0]; exact w.el (by omega)
  have k8 := I.1.2.2.2.1
  obtain ⟨ea, ga⟩ := g1
  have x1 := ga h A w0
  rw [x1, I.1.2.2.1, e2, o32 (by omega), o32 (by omega)] at h2
  have : n = nt := by omega
  subst this
  exact ⟨ea.trans e0, e1⟩
theorem sp_302_c7_ft (a0 : Nat) (σ : zSg) (l0 : Nat) (l1 : Int32) (l2 : Int32) (τ : zSg) (τ1 : zSg) (r1 : Int32) (τ3 : zSg) (r3 : Int32) (hI : i_302 a0 σ l0 l1 l2 τ) (g1 : p_185 l0 τ r1 τ1) (h2 : l2.toInt < r1.toInt) (g3 : p_194 l0 l2 τ1 r3 τ3) (h4 : r3.toInt = (0 : Int)) :
    i_302 a0 σ l0 (l1 + (Int32.ofInt (0))) (l2 + Int32.ofInt (1)) τ3 := by
  have es : τ3 = τ := g3.1.trans g1.1
  obtain ⟨rfl, hI⟩ := hI
  refine ⟨rfl, fun h A nf nt w I => ?_⟩
  obtain ⟨e0, n, hn, e2, e1⟩ := hI h A nf nt w I
  have w0 : rW τ A := by rw [e0]; exact w.el (by omega)
  have k8 := I.1.2.2.2.1
  obtain ⟨ea, ga⟩ := g1
  subst ea
  have x1 := ga h A w0
  rw [x1, I.1.2.2.1, e2, o32 (by omega), o32 (by omega)] at h2
  refine ⟨es.trans e0, n + 1, by omega, by rw [e2]; exact o32i (by omega), fun q eq hq => ?_⟩
  show _ = aSm (aB1 A (A (16 + q))) n + aB1 A (A (16 + q)) n
  have el := e1 q eq hq
  obtain ⟨eb, gb⟩ := g3
  subst eb
  have x2 := gb h A w0 n e2 (by omega)
  rw [x2] at h4
  unfold aB1
  have nl : ¬ A (66 + 3 * n) = Int32.ofInt 1 := fun q => by rw [if_pos q] at h4; exact absurd h4 (by decide)
  rw [if_neg (fun q => nl q.1)]
  exact congrArg (fun x => x + Int32.ofInt 0) el
theorem sp_302_c7_fft (a0 : Nat) (σ : zSg) (l0 : Nat) (l1 : Int32) (l2 : Int32) (τ : zSg) (τ1 : zSg) (r1 : Int32) (τ3 : zSg) (r3 : Int32) (τ5 : zSg) (r5 : Int32) (τ6 : zSg) (r6 : Int32) (hI : i_302 a0 σ l0 l1 l2 τ) (g1 : p_185 l0 τ r1 τ1) (h2 : l2.toInt < r1.toInt) (g3 : p_194 l0 l2 τ1 r3 τ3) (h4 : r3.toInt ≠ (0 : Int)) (g5 : p_193 l0 l2 (Int32.ofInt (0)) τ3 r5 τ5) (g6 : p_188 l0 τ5 r6 τ6) (h7 : r5.toInt = r6.toInt) :
    i_302 a0 σ l0 (l1 + (Int32.ofInt (0))) (l2 + Int32.ofInt (1)) τ6 := by
  have es : τ6 = τ := g6.1.trans (g5.1.trans (g3.1.trans g1.1))
  obtain ⟨rfl, hI⟩ := hI
  refine ⟨rfl, fun h A nf nt w I => ?_⟩
  obtain ⟨e0, n, hn, e2, e1⟩ := hI h A nf nt w I
  have w0 : rW τ A := by rw [e0]; exact w.el (by omega)
  have k8 := I.1.2.2.2.1
  obtain ⟨ea, ga⟩ := g1
  subst ea
  have x1 := ga h A w0
  rw [x1, I.1.2.2.1, e2, o32 (by omega), o32 (by omega)] at h2
  refine ⟨es.trans e0, n + 1, by omega, by rw [e2]; exact o32i (by omega), fun q eq hq => ?_⟩
  show _ = aSm (aB1 A (A (16 + q))) n + aB1 A (A (16 + q)) n
  have el := e1 q eq hq
  obtain ⟨eb, gb⟩ := g3
  subst eb
  have x2 := gb h A w0 n e2 (by omega)
  rw [x2] at h4
  unfold aB1
  have nl : A (66 + 3 * n) = Int32.ofInt 1 := Decidable.byContradiction (fun q => by rw [if_neg q] at h4; exact h4 rfl)
  obtain ⟨ec, gc⟩ := g5
  subst ec
  have x3 : r5 = A (64 + 3 * n) := gc h A w0 n 0 e2 (by omega) rfl (by omega)
  obtain ⟨ed, gd⟩ := g6
  subst ed
  have x4 := gd h A w0 q eq hq
  rw [x3, x4] at h7
  rw [if_neg (fun q => q.2 (Int32.toInt_inj.mp h7))]
  exact congrArg (fun x => x + Int32.ofInt 0) el
theorem sp_302_c7_fff (a0 : Nat) (σ : zSg) (l0 : Nat) (l1 : Int32) (l2 : Int32) (τ : zSg) (τ1 : zSg) (r1 : Int32) (τ3 : zSg) (r3 : Int32) (τ5 : zSg) (r5 : Int32) (τ6 : zSg) (r6 : Int32) (τ8 : zSg) (r8 : Int32) (hI : i_302 a0 σ l0 l1 l2 τ) (g1 : p_185 l0 τ r1 τ1) (h2 : l2.toInt < r1.toInt) (g3 : p_194 l0 l2 τ1 r3 τ3) (h4 : r3.toInt ≠ (0 : Int)) (g5 : p_193 l0 l2 (Int32.ofInt (0)) τ3 r5 τ5) (g6 : p_188 l0 τ5 r6 τ6) (h7 : r5.toInt ≠ r6.toInt) (g8 : p_193 l0 l2 (Int32.ofInt (1)) τ6 r8 τ8) :
    i_302 a0 σ l0 (l1 + r8) (l2 + Int32.ofInt (1)) τ8 := by
  have es : τ8 = τ := g8.1.trans (g6.1.trans (g5.1.trans (g3.1.trans g1.1)))
  obtain ⟨rfl, hI⟩ := hI
  refine ⟨rfl, fun h A nf nt w I => ?_⟩
  obtain ⟨e0, n, hn, e2, e1⟩ := hI h A nf nt w I
  have w0 : rW τ A := by rw [e0]; exact w.el (by omega)
  have k8 := I.1.2.2.2.1
  obtain ⟨ea, ga⟩ := g1
  subst ea
  have x1 := ga h A w0
  rw [x1, I.1.2.2.1, e2, o32 (by omega), o32 (by omega)] at h2
  refine ⟨es.trans e0, n + 1, by omega, by rw [e2]; exact o32i (by omega), fun q eq hq => ?_⟩
  show _ = aSm (aB1 A (A (16 + q))) n + aB1 A (A (16 + q)) n
  have el := e1 q eq hq
  obtain ⟨eb, gb⟩ := g3
  subst eb
  have x2 := gb h A w0 n e2 (by omega)
  rw [x2] at h4
  unfold aB1
  have nl : A (66 + 3 * n) = Int32.ofInt 1 := Decidable.byContradiction (fun q => by rw [if_neg q] at h4; exact h4 rfl)
  obtain ⟨ec, gc⟩ := g5
  subst ec
  have x3 : r5 = A (64 + 3 * n) := gc h A w0 n 0 e2 (by omega) rfl (by omega)
  obtain ⟨ed, gd⟩ := g6
  subst ed
  have x4 := gd h A w0 q eq hq
  rw [x3, x4] at h7
  rw [if_pos ⟨nl, fun q => h7 (congrArg Int32.toInt q)⟩]
  have x5 : r8 = A (65 + 3 * n) := g8.2 h A w0 n 1 e2 (by omega) rfl (by omega)
  rw [x5]
  exact congrArg (fun x => x + A (65 + 3 * n)) el
noncomputable def qP_302 : zPp := fun as σ o σ' => match as with
  | [a0] => ∃ r, o = .inl (some (.int r)) ∧ p_302 (q_r a0) σ r σ'
  | _ => True
set_option maxRecDepth 100000 in
theorem sp_302 {sx : zX} (S185 : zEe sx 185 1 qP_185) (S194 : zEe sx 194 2 qP_194) (S193 : zEe sx 193 3 qP_193) (S188 : zEe sx 188 1 qP_188) : zEe sx 302 1 qP_302 := by
  refine zfle zJ_302 (sps := [(185, 1, qP_185), (194, 2, qP_194), (193, 3, qP_193), (188, 1, qP_188)]) (fun q hq => by
    simp only [List.mem_cons, List.not_mem_nil, or_false] at hq
    rcases hq with rfl | rfl | rfl | rfl
    · exact S185
    · exact S194
    · exact S193
    · exact S188) (fun as σ hl => ?_)
  match as, hl with
  | [a0], _ =>
  refine ⟨[(7, fun lo st τ => st = [] ∧ i_302 (q_r a0) σ (q_r (lo 0)) (q_i (lo 1)) (q_i (lo 2)) τ)], 400, ?_, ?_⟩
  · intro q hq
    simp only [List.mem_cons, List.not_mem_nil, or_false] at hq
    rcases hq with rfl
    · rintro lo st τ ⟨rfl, hI⟩
      refine ⟨400, ?_⟩
      refine fun o1 τ1 g1 => ?_
      obtain ⟨r1, rfl, g1⟩ := g1
      refine And.intro (fun h2 => ?_) (fun h2 => ?_)
      · exact ⟨_, rfl, sp_302_c7_t (q_r a0) σ (q_r (lo 0)) (q_i (lo 1)) (q_i (lo 2)) τ τ1 r1 hI g1 (cm3t h2)⟩
      · refine fun o3 τ3 g3 => ?_
        obtain ⟨r3, rfl, g3⟩ := g3
        refine And.intro (fun h4 => ?_) (fun h4 => ?_)
        · exact ⟨rfl, sp_302_c7_ft (q_r a0) σ (q_r (lo 0)) (q_i (lo 1)) (q_i (lo 2)) τ τ1 r1 τ3 r3 hI g1 (cm3f h2) g3 (cm0t h4)⟩
        · refine fun o5 τ5 g5 => ?_
          obtain ⟨r5, rfl, g5⟩ := g5
          refine fun o6 τ6 g6 => ?_
          obtain ⟨r6, rfl, g6⟩ := g6
          refine And.intro (fun h7 => ?_) (fun h7 => ?_)
          · exact ⟨rfl, sp_302_c7_fft (q_r a0) σ (q_r (lo 0)) (q_i (lo 1)) (q_i (lo 2)) τ τ1 r1 τ3 r3 τ5 r5 τ6 r6 hI g1 (cm3f h2) g3 (cm0f h4) g5 g6 (cm0t h7)⟩
          · refine fun o8 τ8 g8 => ?_
            obtain ⟨r8, rfl, g8⟩ := g8
            exact ⟨rfl, sp_302_c7_fff (q_r a0) σ (q_r (lo 0)) (q_i (lo 1)) (q_i (lo 2)) τ τ1 r1 τ3 r3 τ5 r5 τ6 r6 τ8 r8 hI g1 (cm3f h2) g3 (cm0f h4) g5 g6 (cm0f h7) g8⟩
  · exact ⟨rfl, sp_302_e (q_r a0) σ ⟩
theorem zJ_317 : zJ3 317 z_m317 z_c317 z_h317 := ⟨rfl, rfl, rfl⟩
noncomputable def p_317 (a : Nat) (a1 : Int32) (o : Nat) (σ : zSg) (k : Int32) (σ' : zSg) : Prop := ∃ e τ, p_123 a a1 σ e τ ∧ ((∃ v, e = .inl v ∧ k = Int32.ofInt 0 ∧ σ' = q_w τ o 0 (.long v.toInt64)) ∨ (e = .inr 2 ∧ k = Int32.ofInt 1 ∧ σ' = τ))
theorem sp_317_en (a0 : Nat) (a1 : Int32) (a2 : Nat) (σ : zSg) (τ1 : zSg) (r1 : Int32) (g1 : p_123 a0 a1 σ (.inl r1) τ1) (h2 : 0 ≤ (Int32.ofInt (0)).toInt ∧ (Int32.ofInt (0)).toInt < (τ1.2.1 a2 : Int)) :
    p_317 (a0) (a1) (a2) σ (Int32.ofInt (0)) (q_w τ1 a2 (Int32.ofInt (0)).toNatClampNeg (.long r1.toInt64)) := by
  exact ⟨_, _, g1, Or.inl ⟨_, rfl, rfl, rfl⟩⟩
theorem sp_317_ex2_ (a0 : Nat) (a1 : Int32) (a2 : Nat) (σ : zSg) (τ1 : zSg) (g1 : p_123 a0 a1 σ (.inr 2) τ1) :
    p_317 (a0) (a1) (a2) σ (Int32.ofInt (1)) τ1 := by
  exact ⟨_, _, g1, Or.inr (⟨rfl, rfl, rfl⟩)⟩
noncomputable def qP_317 : zPp := fun as σ o σ' => match as with
  | [a0, a1, a2] => ∃ r, o = .inl (some (.int r)) ∧ p_317 (q_r a0) (q_i a1) (q_r a2) σ r σ'
  | _ => True
set_option maxRecDepth 100000 in
theorem sp_317 {sx : zX} (S123 : zEe sx 123 2 qP_123) : zEe sx 317 3 qP_317 := by
  refine zfle zJ_317 (sps := [(123, 2, qP_123)]) (fun q hq => by
    simp only [List.mem_cons, List.not_mem_nil, or_false] at hq
    rcases hq with rfl
    · exact S123) (fun as σ hl => ?_)
  match as, hl with
  | [a0, a1, a2], _ =>
  refine ⟨[], 400, ?_, ?_⟩
  · exact fun q hq => absurd hq List.not_mem_nil
  · refine fun o1 τ1 g1 => ?_
    rcases g1 with ⟨r1, rfl, g1⟩ | ⟨rfl, g1⟩
    · refine fun h2 => ?_
      exact ⟨_, rfl, sp_317_en (q_r a0) (q_i a1) (q_r a2) σ τ1 r1 g1 (q_inp h2)⟩
    · exact ⟨_, rfl, sp_317_ex2_ (q_r a0) (q_i a1) (q_r a2) σ τ1 g1⟩
end
