/-! the class's acts, exact; printed with wip/gen/gen_dd.py -/
/-- what holds of every house that is in use -/
noncomputable def aI (nf nt : Nat) (A : Nat → Int32) : Prop := dC nf nt A ∧ (∀ h, h < 24 → A (16 + h) = Int32.ofInt (-1) ∨ ∃ F, F < nf ∧ A (16 + h) = Int32.ofNat F) ∧ (∀ t, t < nt → ∃ F, F < nf ∧ A (64 + 3 * t) = Int32.ofNat F) ∧ (0 ≤ (A 12).toInt ∧ (A 12).toInt ≤ 99) ∧ (0 ≤ (A 8).toInt ∧ (A 8).toInt ≤ 9) ∧ (∃ n, n < 24 ∧ A 4 = Int32.ofNat n) ∧ (∃ g, g ≤ 60 ∧ A 14 = Int32.ofNat g) ∧ ∃ tx, tx ≤ 12 ∧ A 2 = Int32.ofNat tx
noncomputable def xA (σ : zSg) (A : Nat → Int32) (nf nt nx n : Nat) (Ms : Nat → Nat → Int32) : Prop := xSk σ ∧ hH σ 8 A ∧ mM σ nx n Ms ∧ aI nf nt A
/-- an act was remembered, and the house that is now holds B -/
noncomputable def xR (σ σ' : zSg) (A B : Nat → Int32) (nx n : Nat) (Ms : Nat → Nat → Int32) : Prop := (σ'.2 = σ.2 ∧ ∀ c k, ¬ (8 ≤ c ∧ c ≤ 20 ∧ ¬ (c = 8 ∧ k = 5)) → ¬ (c = 47 ∧ (k = 1 ∨ k = 2)) → ¬ (49 + 13 * nx ≤ c ∧ c ≤ 61 + 13 * nx) → σ'.1 c k = σ.1 c k) ∧ hH σ' 8 B ∧ mM σ' ((nx + 1) % 12) (min (n + 1) 12) (fun i => if i = nx then A else Ms i) ∧ σ'.1 (49 + 13 * nx) 5 = σ.1 8 5
section XRS
variable {σ τ υ : zSg} {A B B' : Nat → Int32} {nf nt nx n : Nat} {Ms : Nat → Nat → Int32}
theorem xA.kp (K : xA σ A nf nt nx n Ms) (G : p_62 47 8 σ τ) : xR σ τ A A nx n Ms := by
  obtain ⟨g1, g2, g3⟩ := G rfl rfl nx n Ms A K.2.2.1 K.2.1
  exact ⟨⟨g1.1, fun c k q1 q2 q3 => g1.2 c k q2 q3⟩, K.2.1.fr g1.1 (fun c j q1 q2 => g1.2 c j (by omega) (by omega)), g2, g3⟩
theorem mM.fr {Ns : Nat → Nat → Int32} {ny m : Nat} (K : mM σ ny m Ns) (h2' : τ.2 = σ.2) (h : ∀ c j, 47 ≤ c → τ.1 c j = σ.1 c j) : mM τ ny m Ns := by
  obtain ⟨m1, m2, m3, m4, m5, m6, m7⟩ := K
  exact ⟨by rw [h _ _ (by omega)]; exact m1, fun i hi => by rw [h _ _ (by omega)]; exact m2 i hi, by rw [h _ _ (by omega)]; exact m3, m4, by rw [h _ _ (by omega)]; exact m5, m6, fun i hi => (m7 i hi).fr h2' (fun c j q1 q2 => h c j (by omega))⟩
theorem xR.hs (R : xR σ τ A B nx n Ms) (f : hHF 8 τ υ) (h : hH υ 8 B') : xR σ υ A B' nx n Ms := by
  obtain ⟨g1, g2, g3, g4⟩ := R
  refine ⟨⟨f.1.trans g1.1, fun c k q1 q2 q3 => (f.2 c k (by omega)).trans (g1.2 c k q1 q2 q3)⟩, h, g3.fr f.1 (fun c j q => f.2 c j (by omega)), ?_⟩
  rw [f.2 _ _ (by omega)]
  exact g4
theorem xR.sk (R : xR σ τ A B nx n Ms) (K : xSk σ) : xSk τ := K.of (fun k _ => R.1.2 0 k (by omega) (by omega) (by omega))
end XRS
theorem zJ_130 : zJ3 130 z_m130 z_c130 z_h130 := ⟨rfl, rfl, rfl⟩
noncomputable def p_130 (a : Nat) (h : Int32) (σ : zSg) (e : Int32 ⊕ Nat) (σ' : zSg) : Prop := a = 0 → ∀ A nf nt nx n Ms, xA σ A nf nt nx n Ms → (¬ (0 ≤ h.toInt ∧ h.toInt < 24) → e = .inr 2 ∧ σ' = σ) ∧ (∀ hh, h = Int32.ofNat hh → hh < 24 → (A (16 + hh) = Int32.ofInt (-1) → e = .inr 4 ∧ σ' = σ) ∧ (A (16 + hh) ≠ Int32.ofInt (-1) → e = .inl (A (16 + hh)) ∧ xR σ σ' A (aU A (16 + hh) (Int32.ofInt (-1))) nx n Ms))
theorem sp_130_entn (a0 : Nat) (a1 : Int32) (σ : zSg) (τ1 : zSg) (τ4 : zSg) (τ5 : zSg) (g1 : p_166 a0 a1 σ (.inl 0) τ1) (h2 : 0 ≤ a1.toInt ∧ a1.toInt < (τ1.2.1 (q_r (τ1.1 (q_r (τ1.1 a0 2)) 0)) : Int)) (h3 : (q_i (τ1.1 (q_r (τ1.1 (q_r (τ1.1 a0 2)) 0)) a1.toNatClampNeg)).toInt = (-1 : Int)) (g4 : p_172 a0 (Int32.ofInt (0)) τ1 (.inl 0) τ4) (g5 : p_62 (q_r (τ4.1 a0 5)) (q_r (τ4.1 a0 2)) τ4 τ5) (h6 : 0 ≤ a1.toInt ∧ a1.toInt < (τ5.2.1 (q_r (τ5.1 (q_r (τ5.1 a0 2)) 0)) : Int)) :
    p_130 (a0) (a1) σ (.inl (q_i (τ1.1 (q_r (τ1.1 (q_r (τ1.1 a0 2)) 0)) a1.toNatClampNeg))) (q_w τ5 (q_r (τ5.1 (q_r (τ5.1 a0 2)) 0)) a1.toNatClampNeg (.int (Int32.ofInt (-1)))) := by
  rintro rfl A nf nt nx n Ms K
  have q0 := K.1.q
  obtain ⟨rfl, u, -⟩ := g1
  have u := u rfl
  obtain ⟨rfl, v, -⟩ := g4
  have v := v rfl
  refine ⟨fun w => absurd u w, fun hh e hl => ?_⟩
  subst e
  have w0 := K.2.1.p (hp_h hl)
  have d0 := K.2.1.k hk_0
  have nh : (Int32.ofNat hh).toNatClampNeg = hh := o32n (by omega)
  simp only [q0.2.1, d0, nh, w0] at h3
  first
  | exact absurd rfl v
  | (rw [q0.2.1, q0.2.2.2.2] at g5
     have R := K.kp g5
     have qs := (R.sk K.1).q
     have d1 := R.2.1.k hk_0
     simp only [q0.2.1, d0, nh, w0, qs.2.1, d1]
     refine ⟨fun w => absurd (by rw [w]; rfl) h3, fun _ => ⟨trivial, R.hs (hHF.w (hp_h hl)) (R.2.1.ww (hp_h hl))⟩⟩)
theorem sp_130_entx4_ (a0 : Nat) (a1 : Int32) (σ : zSg) (τ1 : zSg) (τ4 : zSg) (g1 : p_166 a0 a1 σ (.inl 0) τ1) (h2 : 0 ≤ a1.toInt ∧ a1.toInt < (τ1.2.1 (q_r (τ1.1 (q_r (τ1.1 a0 2)) 0)) : Int)) (h3 : (q_i (τ1.1 (q_r (τ1.1 (q_r (τ1.1 a0 2)) 0)) a1.toNatClampNeg)).toInt = (-1 : Int)) (g4 : p_172 a0 (Int32.ofInt (0)) τ1 (.inr 4) τ4) :
    p_130 (a0) (a1) σ (.inr 4) τ4 := by
  rintro rfl A nf nt nx n Ms K
  have q0 := K.1.q
  obtain ⟨rfl, u, -⟩ := g1
  have u := u rfl
  obtain ⟨rfl, -, v⟩ := g4
  have v := v rfl
  refine ⟨fun w => absurd u w, fun hh e hl => ?_⟩
  subst e
  have w0 := K.2.1.p (hp_h hl)
  have d0 := K.2.1.k hk_0
  simp only [q0.2.1, d0, o32n (show hh ≤ 1000 by omega), w0] at h3
  refine ⟨fun _ => ⟨rfl, rfl⟩, fun w => ?_⟩
  first
  | exact absurd v (by decide)
  | exact absurd (Int32.toInt_inj.mp h3) w
theorem sp_130_enfn (a0 : Nat) (a1 : Int32) (σ : zSg) (τ1 : zSg) (τ7 : zSg) (τ8 : zSg) (g1 : p_166 a0 a1 σ (.inl 0) τ1) (h2 : 0 ≤ a1.toInt ∧ a1.toInt < (τ1.2.1 (q_r (τ1.1 (q_r (τ1.1 a0 2)) 0)) : Int)) (h3 : (q_i (τ1.1 (q_r (τ1.1 (q_r (τ1.1 a0 2)) 0)) a1.toNatClampNeg)).toInt ≠ (-1 : Int)) (g7 : p_172 a0 (Int32.ofInt (1)) τ1 (.inl 0) τ7) (g8 : p_62 (q_r (τ7.1 a0 5)) (q_r (τ7.1 a0 2)) τ7 τ8) (h9 : 0 ≤ a1.toInt ∧ a1.toInt < (τ8.2.1 (q_r (τ8.1 (q_r (τ8.1 a0 2)) 0)) : Int)) :
    p_130 (a0) (a1) σ (.inl (q_i (τ1.1 (q_r (τ1.1 (q_r (τ1.1 a0 2)) 0)) a1.toNatClampNeg))) (q_w τ8 (q_r (τ8.1 (q_r (τ8.1 a0 2)) 0)) a1.toNatClampNeg (.int (Int32.ofInt (-1)))) := by
  rintro rfl A nf nt nx n Ms K
  have q0 := K.1.q
  obtain ⟨rfl, u, -⟩ := g1
  have u := u rfl
  obtain ⟨rfl, v, -⟩ := g7
  have v := v rfl
  refine ⟨fun w => absurd u w, fun hh e hl => ?_⟩
  subst e
  have w0 := K.2.1.p (hp_h hl)
  have d0 := K.2.1.k hk_0
  have nh : (Int32.ofNat hh).toNatClampNeg = hh := o32n (by omega)
  simp only [q0.2.1, d0, nh, w0] at h3
  first
  | exact absurd rfl v
  | (rw [q0.2.1, q0.2.2.2.2] at g8
     have R := K.kp g8
     have qs := (R.sk K.1).q
     have d1 := R.2.1.k hk_0
     simp only [q0.2.1, d0, nh, w0, qs.2.1, d1]
     refine ⟨fun w => absurd (by rw [w]; rfl) h3, fun _ => ⟨trivial, R.hs (hHF.w (hp_h hl)) (R.2.1.ww (hp_h hl))⟩⟩)
theorem sp_130_enfx4_ (a0 : Nat) (a1 : Int32) (σ : zSg) (τ1 : zSg) (τ7 : zSg) (g1 : p_166 a0 a1 σ (.inl 0) τ1) (h2 : 0 ≤ a1.toInt ∧ a1.toInt < (τ1.2.1 (q_r (τ1.1 (q_r (τ1.1 a0 2)) 0)) : Int)) (h3 : (q_i (τ1.1 (q_r (τ1.1 (q_r (τ1.1 a0 2)) 0)) a1.toNatClampNeg)).toInt ≠ (-1 : Int)) (g7 : p_172 a0 (Int32.ofInt (1)) τ1 (.inr 4) τ7) :
    p_130 (a0) (a1) σ (.inr 4) τ7 := by
  rintro rfl A nf nt nx n Ms K
  have q0 := K.1.q
  obtain ⟨rfl, u, -⟩ := g1
  have u := u rfl
  obtain ⟨rfl, -, v⟩ := g7
  have v := v rfl
  refine ⟨fun w => absurd u w, fun hh e hl => ?_⟩
  subst e
  have w0 := K.2.1.p (hp_h hl)
  have d0 := K.2.1.k hk_0
  simp only [q0.2.1, d0, o32n (show hh ≤ 1000 by omega), w0] at h3
  refine ⟨fun _ => ⟨rfl, rfl⟩, fun w => ?_⟩
  first
  | exact absurd v (by decide)
  | exact absurd (Int32.toInt_inj.mp h3) w
theorem sp_130_ex2_ (a0 : Nat) (a1 : Int32) (σ : zSg) (τ1 : zSg) (g1 : p_166 a0 a1 σ (.inr 2) τ1) :
    p_130 (a0) (a1) σ (.inr 2) τ1 := by
  rintro rfl A nf nt nx n Ms K
  have q0 := K.1.q
  obtain ⟨rfl, -, u⟩ := g1
  have u := u rfl
  exact ⟨fun _ => ⟨rfl, rfl⟩, fun hh e hl => absurd (by rw [e, o32 (by omega)]; omega) u⟩
noncomputable def qP_130 : zPp := fun as σ o σ' => match as with
  | [a0, a1] => (∃ r, o = .inl (some (.int r)) ∧ p_130 (q_r a0) (q_i a1) σ (.inl r) σ') ∨ (o = .inr 2 ∧ p_130 (q_r a0) (q_i a1) σ (.inr 2) σ') ∨ (o = .inr 4 ∧ p_130 (q_r a0) (q_i a1) σ (.inr 4) σ')
  | _ => True
set_option maxRecDepth 100000 in
theorem sp_130 {sx : zX} (S166 : zEe sx 166 2 qP_166) (S172 : zEe sx 172 2 qP_172) (S62 : zEe sx 62 2 qP_62) : zEe sx 130 2 qP_130 := by
  refine zfle zJ_130 (sps := [(166, 2, qP_166), (172, 2, qP_172), (62, 2, qP_62)]) (fun q hq => by
    simp only [List.mem_cons, List.not_mem_nil, or_false] at hq
    rcases hq with rfl | rfl | rfl
    · exact S166
    · exact S172
    · exact S62) (fun as σ hl => ?_)
  match as, hl with
  | [a0, a1], _ =>
  refine ⟨[], 400, ?_, ?_⟩
  · exact fun q hq => absurd hq List.not_mem_nil
  · refine fun o1 τ1 g1 => ?_
    rcases g1 with ⟨rfl, g1⟩ | ⟨rfl, g1⟩
    · refine fun h2 => ?_
      refine And.intro (fun h3 => ?_) (fun h3 => ?_)
      · refine fun o4 τ4 g4 => ?_
        rcases g4 with ⟨rfl, g4⟩ | ⟨rfl, g4⟩
        · refine fun o5 τ5 g5 => ?_
          obtain ⟨rfl, g5⟩ := g5
          refine fun h6 => ?_
          exact Or.inl ⟨_, rfl, sp_130_entn (q_r a0) (q_i a1) σ τ1 τ4 τ5 g1 (q_inp h2) (cm0t h3) g4 g5 (q_inp h6)⟩
        · exact Or.inr (Or.inr (⟨rfl, sp_130_entx4_ (q_r a0) (q_i a1) σ τ1 τ4 g1 (q_inp h2) (cm0t h3) g4⟩))
      · refine fun o7 τ7 g7 => ?_
        rcases g7 with ⟨rfl, g7⟩ | ⟨rfl, g7⟩
        · refine fun o8 τ8 g8 => ?_
          obtain ⟨rfl, g8⟩ := g8
          refine fun h9 => ?_
          exact Or.inl ⟨_, rfl, sp_130_enfn (q_r a0) (q_i a1) σ τ1 τ7 τ8 g1 (q_inp h2) (cm0f h3) g7 g8 (q_inp h9)⟩
        · exact Or.inr (Or.inr (⟨rfl, sp_130_enfx4_ (q_r a0) (q_i a1) σ τ1 τ7 g1 (q_inp h2) (cm0f h3) g7⟩))
    · exact Or.inr (Or.inl (⟨rfl, sp_130_ex2_ (q_r a0) (q_i a1) σ τ1 g1⟩))
theorem zJ_134 : zJ3 134 z_m134 z_c134 z_h134 := ⟨rfl, rfl, rfl⟩
noncomputable def p_134 (a : Nat) (σ : zSg) (r : Int32) (σ' : zSg) : Prop := a = 0 → ∀ A nf nt nx n Ms, xA σ A nf nt nx n Ms → r = A 7 ∧ xR σ σ' A (aU A 7 (Int32.ofInt 0)) nx n Ms
theorem sp_134_e (a0 : Nat) (σ : zSg) (τ1 : zSg) (g1 : p_62 (q_r (σ.1 a0 5)) (q_r (σ.1 a0 2)) σ τ1) :
    p_134 (a0) σ (q_i (σ.1 (q_r (σ.1 a0 2)) 10)) (q_w τ1 (q_r (τ1.1 a0 2)) 10 (.int (Int32.ofInt (0)))) := by
  rintro rfl A nf nt nx n Ms K
  have q0 := K.1.q
  have w0 := K.2.1.p (hp_s (k := 7) (by omega) (by omega))
  rw [q0.2.1, q0.2.2.2.2] at g1
  have R := K.kp g1
  have qs := (R.sk K.1).q
  simp only [q0.2.1, qs.2.1]
  exact ⟨w0, R.hs (hHF.w (hp_s (k := 7) (by omega) (by omega))) (R.2.1.ww (hp_s (k := 7) (by omega) (by omega)))⟩
noncomputable def qP_134 : zPp := fun as σ o σ' => match as with
  | [a0] => ∃ r, o = .inl (some (.int r)) ∧ p_134 (q_r a0) σ r σ'
  | _ => True
set_option maxRecDepth 100000 in
theorem sp_134 {sx : zX} (S62 : zEe sx 62 2 qP_62) : zEe sx 134 1 qP_134 := by
  refine zfle zJ_134 (sps := [(62, 2, qP_62)]) (fun q hq => by
    simp only [List.mem_cons, List.not_mem_nil, or_false] at hq
    rcases hq with rfl
    · exact S62) (fun as σ hl => ?_)
  match as, hl with
  | [a0], _ =>
  refine ⟨[], 400, ?_, ?_⟩
  · exact fun q hq => absurd hq List.not_mem_nil
  · refine fun o1 τ1 g1 => ?_
    obtain ⟨rfl, g1⟩ := g1
    exact ⟨_, rfl, sp_134_e (q_r a0) σ τ1 g1⟩
theorem zJ_167 : zJ3 167 z_m167 z_c167 z_h167 := ⟨rfl, rfl, rfl⟩
noncomputable def p_167 (a : Nat) (f : Int32) (σ : zSg) (e : Int32 ⊕ Nat) (σ' : zSg) : Prop := σ' = σ ∧ (a = 0 → xSk σ → ∀ H nf, hH σ 8 H → H 0 = Int32.ofNat nf → nf ≤ 6 → (e = .inl 0 → 0 ≤ f.toInt ∧ f.toInt < (nf : Int)) ∧ (e = .inr 2 → ¬ (0 ≤ f.toInt ∧ f.toInt < (nf : Int))))
theorem sp_167_et (a0 : Nat) (a1 : Int32) (σ : zSg) (τ1 : zSg) (r1 : Int32) (g1 : p_9 (q_r (σ.1 (q_r (σ.1 a0 2)) 1)) a1 σ r1 τ1) (h2 : r1.toInt ≠ (0 : Int)) :
    p_167 (a0) (a1) σ (.inl 0) τ1 := by
  obtain ⟨rfl, g⟩ := g1
  refine ⟨rfl, ?_⟩
  rintro rfl K H nf L u0 u6
  have pp : q_i (τ1.1 (q_r (τ1.1 (q_r (τ1.1 0 2)) 1)) 4) = Int32.ofNat nf := by
    rw [K.q.2.1, L.k hk_1]
    exact (L.p hp_0).trans u0
  rw [pp, o32 (by omega)] at g
  exact ⟨fun _ => ⟨(g.mp h2).1, (g.mp h2).2.1⟩, fun h => (by cases h)⟩
theorem sp_167_ef (a0 : Nat) (a1 : Int32) (σ : zSg) (τ1 : zSg) (r1 : Int32) (g1 : p_9 (q_r (σ.1 (q_r (σ.1 a0 2)) 1)) a1 σ r1 τ1) (h2 : r1.toInt = (0 : Int)) :
    p_167 (a0) (a1) σ (.inr 2) τ1 := by
  obtain ⟨rfl, g⟩ := g1
  refine ⟨rfl, ?_⟩
  rintro rfl K H nf L u0 u6
  have pp : q_i (τ1.1 (q_r (τ1.1 (q_r (τ1.1 0 2)) 1)) 4) = Int32.ofNat nf := by
    rw [K.q.2.1, L.k hk_1]
    exact (L.p hp_0).trans u0
  rw [pp, o32 (by omega)] at g
  exact ⟨fun h => (by cases h), fun _ => fun q => absurd h2 (g.mpr ⟨q.1, q.2, by omega⟩)⟩
noncomputable def qP_167 : zPp := fun as σ o σ' => match as with
  | [a0, a1] => (o = .inl none ∧ p_167 (q_r a0) (q_i a1) σ (.inl 0) σ') ∨ (o = .inr 2 ∧ p_167 (q_r a0) (q_i a1) σ (.inr 2) σ')
  | _ => True
set_option maxRecDepth 100000 in
theorem sp_167 {sx : zX} (S9 : zEe sx 9 2 qP_9) : zEe sx 167 2 qP_167 := by
  refine zfle zJ_167 (sps := [(9, 2, qP_9)]) (fun q hq => by
    simp only [List.mem_cons, List.not_mem_nil, or_false] at hq
    rcases hq with rfl
    · exact S9) (fun as σ hl => ?_)
  match as, hl with
  | [a0, a1], _ =>
  refine ⟨[], 400, ?_, ?_⟩
  · exact fun q hq => absurd hq List.not_mem_nil
  · refine fun o1 τ1 g1 => ?_
    obtain ⟨r1, rfl, g1⟩ := g1
    refine And.intro (fun h2 => ?_) (fun h2 => ?_)
    · exact Or.inl ⟨rfl, sp_167_et (q_r a0) (q_i a1) σ τ1 r1 g1 (cm1t h2)⟩
    · exact Or.inr (⟨rfl, sp_167_ef (q_r a0) (q_i a1) σ τ1 r1 g1 (cm1f h2)⟩)
theorem zJ_168 : zJ3 168 z_m168 z_c168 z_h168 := ⟨rfl, rfl, rfl⟩
noncomputable def p_168 (a : Nat) (f : Int32) (σ : zSg) (e : Int32 ⊕ Nat) (σ' : zSg) : Prop := σ' = σ ∧ (a = 0 → xSk σ → ∀ H nf, hH σ 8 H → H 1 = Int32.ofNat nf → nf ≤ 8 → (e = .inl 0 → 0 ≤ f.toInt ∧ f.toInt < (nf : Int)) ∧ (e = .inr 2 → ¬ (0 ≤ f.toInt ∧ f.toInt < (nf : Int))))
theorem sp_168_et (a0 : Nat) (a1 : Int32) (σ : zSg) (τ1 : zSg) (r1 : Int32) (g1 : p_102 (q_r (σ.1 (q_r (σ.1 a0 2)) 2)) a1 σ r1 τ1) (h2 : r1.toInt ≠ (0 : Int)) :
    p_168 (a0) (a1) σ (.inl 0) τ1 := by
  obtain ⟨rfl, g⟩ := g1
  refine ⟨rfl, ?_⟩
  rintro rfl K H nf L u0 u6
  have pp : q_i (τ1.1 (q_r (τ1.1 (q_r (τ1.1 0 2)) 2)) 3) = Int32.ofNat nf := by
    rw [K.q.2.1, L.k hk_2]
    exact (L.p hp_1).trans u0
  rw [pp, o32 (by omega)] at g
  exact ⟨fun _ => ⟨(g.mp h2).1, (g.mp h2).2.1⟩, fun h => (by cases h)⟩
theorem sp_168_ef (a0 : Nat) (a1 : Int32) (σ : zSg) (τ1 : zSg) (r1 : Int32) (g1 : p_102 (q_r (σ.1 (q_r (σ.1 a0 2)) 2)) a1 σ r1 τ1) (h2 : r1.toInt = (0 : Int)) :
    p_168 (a0) (a1) σ (.inr 2) τ1 := by
  obtain ⟨rfl, g⟩ := g1
  refine ⟨rfl, ?_⟩
  rintro rfl K H nf L u0 u6
  have pp : q_i (τ1.1 (q_r (τ1.1 (q_r (τ1.1 0 2)) 2)) 3) = Int32.ofNat nf := by
    rw [K.q.2.1, L.k hk_2]
    exact (L.p hp_1).trans u0
  rw [pp, o32 (by omega)] at g
  exact ⟨fun h => (by cases h), fun _ => fun q => absurd h2 (g.mpr ⟨q.1, q.2, by omega⟩)⟩
noncomputable def qP_168 : zPp := fun as σ o σ' => match as with
  | [a0, a1] => (o = .inl none ∧ p_168 (q_r a0) (q_i a1) σ (.inl 0) σ') ∨ (o = .inr 2 ∧ p_168 (q_r a0) (q_i a1) σ (.inr 2) σ')
  | _ => True
set_option maxRecDepth 100000 in
theorem sp_168 {sx : zX} (S102 : zEe sx 102 2 qP_102) : zEe sx 168 2 qP_168 := by
  refine zfle zJ_168 (sps := [(102, 2, qP_102)]) (fun q hq => by
    simp only [List.mem_cons, List.not_mem_nil, or_false] at hq
    rcases hq with rfl
    · exact S102) (fun as σ hl => ?_)
  match as, hl with
  | [a0, a1], _ =>
  refine ⟨[], 400, ?_, ?_⟩
  · exact fun q hq => absurd hq List.not_mem_nil
  · refine fun o1 τ1 g1 => ?_
    obtain ⟨r1, rfl, g1⟩ := g1
    refine And.intro (fun h2 => ?_) (fun h2 => ?_)
    · exact Or.inl ⟨rfl, sp_168_et (q_r a0) (q_i a1) σ τ1 r1 g1 (cm1t h2)⟩
    · exact Or.inr (⟨rfl, sp_168_ef (q_r a0) (q_i a1) σ τ1 r1 g1 (cm1f h2)⟩)
theorem zJ_129 : zJ3 129 z_m129 z_c129 z_h129 := ⟨rfl, rfl, rfl⟩
noncomputable def p_129 (a : Nat) (h o : Int32) (σ : zSg) (e : Int32 ⊕ Nat) (σ' : zSg) : Prop := a = 0 → ∀ A nf nt nx n Ms, xA σ A nf nt nx n Ms → (¬ ((0 ≤ h.toInt ∧ h.toInt < 24) ∧ (0 ≤ o.toInt ∧ o.toInt < 24)) → e = .inr 2 ∧ σ' = σ) ∧ (∀ x y, h = Int32.ofNat x → x < 24 → o = Int32.ofNat y → y < 24 → (x = y → e = .inr 0 ∧ σ' = σ) ∧ (x ≠ y → (¬ (A (16 + x) ≠ Int32.ofInt (-1) ∧ A (16 + y) ≠ Int32.ofInt (-1) ∧ A (16 + x) ≠ A (16 + y)) → e = .inr 4 ∧ σ' = σ) ∧ ((A (16 + x) ≠ Int32.ofInt (-1) ∧ A (16 + y) ≠ Int32.ofInt (-1) ∧ A (16 + x) ≠ A (16 + y)) → e = .inl (A (16 + y)) ∧ xR σ σ' A (aU (aU A (16 + x) (A (16 + y))) (16 + y) (A (16 + x))) nx n Ms)))
theorem sp_129_ennntn (a0 : Nat) (a1 : Int32) (a2 : Int32) (σ : zSg) (τ1 : zSg) (τ2 : zSg) (τ3 : zSg) (τ7 : zSg) (τ8 : zSg) (g1 : p_166 a0 a1 σ (.inl 0) τ1) (g2 : p_166 a0 a2 τ1 (.inl 0) τ2) (g3 : p_171 a0 a1 a2 τ2 (.inl 0) τ3) (h4 : 0 ≤ a1.toInt ∧ a1.toInt < (τ3.2.1 (q_r (τ3.1 (q_r (τ3.1 a0 2)) 0)) : Int)) (h5 : 0 ≤ a2.toInt ∧ a2.toInt < (τ3.2.1 (q_r (τ3.1 (q_r (τ3.1 a0 2)) 0)) : Int)) (h6 : (q_i (τ3.1 (q_r (τ3.1 (q_r (τ3.1 a0 2)) 0)) a1.toNatClampNeg)).toInt = (-1 : Int)) (g7 : p_172 a0 (Int32.ofInt (0)) τ3 (.inl 0) τ7) (g8 : p_62 (q_r (τ7.1 a0 5)) (q_r (τ7.1 a0 2)) τ7 τ8) (h9 : 0 ≤ a1.toInt ∧ a1.toInt < (τ8.2.1 (q_r (τ8.1 (q_r (τ8.1 a0 2)) 0)) : Int)) (h10 : 0 ≤ a2.toInt ∧ a2.toInt < ((q_w τ8 (q_r (τ8.1 (q_r (τ8.1 a0 2)) 0)) a1.toNatClampNeg (.int (q_i (τ3.1 (q_r (τ3.1 (q_r (τ3.1 a0 2)) 0)) a2.toNatClampNeg)))).2.1 (q_r ((q_w τ8 (q_r (τ8.1 (q_r (τ8.1 a0 2)) 0)) a1.toNatClampNeg (.int (q_i (τ3.1 (q_r (τ3.1 (q_r (τ3.1 a0 2)) 0)) a2.toNatClampNeg)))).1 (q_r ((q_w τ8 (q_r (τ8.1 (q_r (τ8.1 a0 2)) 0)) a1.toNatClampNeg (.int (q_i (τ3.1 (q_r (τ3.1 (q_r (τ3.1 a0 2)) 0)) a2.toNatClampNeg)))).1 a0 2)) 0)) : Int)) :
    p_129 (a0) (a1) (a2) σ (.inl (q_i (τ3.1 (q_r (τ3.1 (q_r (τ3.1 a0 2)) 0)) a2.toNatClampNeg))) (q_w (q_w τ8 (q_r (τ8.1 (q_r (τ8.1 a0 2)) 0)) a1.toNatClampNeg (.int (q_i (τ3.1 (q_r (τ3.1 (q_r (τ3.1 a0 2)) 0)) a2.toNatClampNeg)))) (q_r ((q_w τ8 (q_r (τ8.1 (q_r (τ8.1 a0 2)) 0)) a1.toNatClampNeg (.int (q_i (τ3.1 (q_r (τ3.1 (q_r (τ3.1 a0 2)) 0)) a2.toNatClampNeg)))).1 (q_r ((q_w τ8 (q_r (τ8.1 (q_r (τ8.1 a0 2)) 0)) a1.toNatClampNeg (.int (q_i (τ3.1 (q_r (τ3.1 (q_r (τ3.1 a0 2)) 0)) a2.toNatClampNeg)))).1 a0 2)) 0)) a2.toNatClampNeg (.int (q_i (τ3.1 (q_r (τ3.1 (q_r (τ3.1 a0 2)) 0)) a1.toNatClampNeg)))) := by
  rintro rfl A nf nt nx n Ms K
  have q0 := K.1.q
  obtain ⟨rfl, u, -⟩ := g1
  have u := u rfl
  obtain ⟨rfl, u', -⟩ := g2
  have u' := u' rfl
  obtain ⟨rfl, v, -⟩ := g3
  have v := v rfl
  refine ⟨fun w => absurd ⟨u, u'⟩ w, fun x y e1 l1 e2 l2 => ?_⟩
  subst e1
  subst e2
  rw [o32 (by omega), o32 (by omega)] at v
  refine ⟨fun w => absurd (by rw [w]) v, fun _ => ?_⟩
  have wx := K.2.1.p (hp_h l1)
  have wy := K.2.1.p (hp_h l2)
  have d0 := K.2.1.k hk_0
  have nh : (Int32.ofNat x).toNatClampNeg = x := o32n (by omega)
  have no : (Int32.ofNat y).toNatClampNeg = y := o32n (by omega)
  simp only [q0.2.1, d0, nh, no, wx, wy] at h6
  obtain ⟨rfl, z, -⟩ := g7
  have z := z rfl
  exact absurd rfl z
theorem sp_129_ennntx4_ (a0 : Nat) (a1 : Int32) (a2 : Int32) (σ : zSg) (τ1 : zSg) (τ2 : zSg) (τ3 : zSg) (τ7 : zSg) (g1 : p_166 a0 a1 σ (.inl 0) τ1) (g2 : p_166 a0 a2 τ1 (.inl 0) τ2) (g3 : p_171 a0 a1 a2 τ2 (.inl 0) τ3) (h4 : 0 ≤ a1.toInt ∧ a1.toInt < (τ3.2.1 (q_r (τ3.1 (q_r (τ3.1 a0 2)) 0)) : Int)) (h5 : 0 ≤ a2.toInt ∧ a2.toInt < (τ3.2.1 (q_r (τ3.1 (q_r (τ3.1 a0 2)) 0)) : Int)) (h6 : (q_i (τ3.1 (q_r (τ3.1 (q_r (τ3.1 a0 2)) 0)) a1.toNatClampNeg)).toInt = (-1 : Int)) (g7 : p_172 a0 (Int32.ofInt (0)) τ3 (.inr 4) τ7) :
    p_129 (a0) (a1) (a2) σ (.inr 4) τ7 := by
  rintro rfl A nf nt nx n Ms K
  have q0 := K.1.q
  obtain ⟨rfl, u, -⟩ := g1
  have u := u rfl
  obtain ⟨rfl, u', -⟩ := g2
  have u' := u' rfl
  obtain ⟨rfl, v, -⟩ := g3
  have v := v rfl
  refine ⟨fun w => absurd ⟨u, u'⟩ w, fun x y e1 l1 e2 l2 => ?_⟩
  subst e1
  subst e2
  rw [o32 (by omega), o32 (by omega)] at v
  refine ⟨fun w => absurd (by rw [w]) v, fun _ => ?_⟩
  have wx := K.2.1.p (hp_h l1)
  have wy := K.2.1.p (hp_h l2)
  have d0 := K.2.1.k hk_0
  have nh : (Int32.ofNat x).toNatClampNeg = x := o32n (by omega)
  have no : (Int32.ofNat y).toNatClampNeg = y := o32n (by omega)
  simp only [q0.2.1, d0, nh, no, wx, wy] at h6
  obtain ⟨rfl, -, z⟩ := g7
  have z := z rfl
  exact ⟨fun _ => ⟨rfl, rfl⟩, fun q => absurd (Int32.toInt_inj.mp h6) q.1⟩
theorem sp_129_ennnftn (a0 : Nat) (a1 : Int32) (a2 : Int32) (σ : zSg) (τ1 : zSg) (τ2 : zSg) (τ3 : zSg) (τ12 : zSg) (τ13 : zSg) (g1 : p_166 a0 a1 σ (.inl 0) τ1) (g2 : p_166 a0 a2 τ1 (.inl 0) τ2) (g3 : p_171 a0 a1 a2 τ2 (.inl 0) τ3) (h4 : 0 ≤ a1.toInt ∧ a1.toInt < (τ3.2.1 (q_r (τ3.1 (q_r (τ3.1 a0 2)) 0)) : Int)) (h5 : 0 ≤ a2.toInt ∧ a2.toInt < (τ3.2.1 (q_r (τ3.1 (q_r (τ3.1 a0 2)) 0)) : Int)) (h6 : (q_i (τ3.1 (q_r (τ3.1 (q_r (τ3.1 a0 2)) 0)) a1.toNatClampNeg)).toInt ≠ (-1 : Int)) (h11 : (q_i (τ3.1 (q_r (τ3.1 (q_r (τ3.1 a0 2)) 0)) a2.toNatClampNeg)).toInt = (-1 : Int)) (g12 : p_172 a0 (Int32.ofInt (0)) τ3 (.inl 0) τ12) (g13 : p_62 (q_r (τ12.1 a0 5)) (q_r (τ12.1 a0 2)) τ12 τ13) (h14 : 0 ≤ a1.toInt ∧ a1.toInt < (τ13.2.1 (q_r (τ13.1 (q_r (τ13.1 a0 2)) 0)) : Int)) (h15 : 0 ≤ a2.toInt ∧ a2.toInt < ((q_w τ13 (q_r (τ13.1 (q_r (τ13.1 a0 2)) 0)) a1.toNatClampNeg (.int (q_i (τ3.1 (q_r (τ3.1 (q_r (τ3.1 a0 2)) 0)) a2.toNatClampNeg)))).2.1 (q_r ((q_w τ13 (q_r (τ13.1 (q_r (τ13.1 a0 2)) 0)) a1.toNatClampNeg (.int (q_i (τ3.1 (q_r (τ3.1 (q_r (τ3.1 a0 2)) 0)) a2.toNatClampNeg)))).1 (q_r ((q_w τ13 (q_r (τ13.1 (q_r (τ13.1 a0 2)) 0)) a1.toNatClampNeg (.int (q_i (τ3.1 (q_r (τ3.1 (q_r (τ3.1 a0 2)) 0)) a2.toNatClampNeg)))).1 a0 2)) 0)) : Int)) :
    p_129 (a0) (a1) (a2) σ (.inl (q_i (τ3.1 (q_r (τ3.1 (q_r (τ3.1 a0 2)) 0)) a2.toNatClampNeg))) (q_w (q_w τ13 (q_r (τ13.1 (q_r (τ13.1 a0 2)) 0)) a1.toNatClampNeg (.int (q_i (τ3.1 (q_r (τ3.1 (q_r (τ3.1 a0 2)) 0)) a2.toNatClampNeg)))) (q_r ((q_w τ13 (q_r (τ13.1 (q_r (τ13.1 a0 2)) 0)) a1.toNatClampNeg (.int (q_i (τ3.1 (q_r (τ3.1 (q_r (τ3.1 a0 2)) 0)) a2.toNatClampNeg)))).1 (q_r ((q_w τ13 (q_r (τ13.1 (q_r (τ13.1 a0 2)) 0)) a1.toNatClampNeg (.int (q_i (τ3.1 (q_r (τ3.1 (q_r (τ3.1 a0 2)) 0)) a2.toNatClampNeg)))).1 a0 2)) 0)) a2.toNatClampNeg (.int (q_i (τ3.1 (q_r (τ3.1 (q_r (τ3.1 a0 2)) 0)) a1.toNatClampNeg)))) := by
  rintro rfl A nf nt nx n Ms K
  have q0 := K.1.q
  obtain ⟨rfl, u, -⟩ := g1
  have u := u rfl
  obtain ⟨rfl, u', -⟩ := g2
  have u' := u' rfl
  obtain ⟨rfl, v, -⟩ := g3
  have v := v rfl
  refine ⟨fun w => absurd ⟨u, u'⟩ w, fun x y e1 l1 e2 l2 => ?_⟩
  subst e1
  subst e2
  rw [o32 (by omega), o32 (by omega)] at v
  refine ⟨fun w => absurd (by rw [w]) v, fun _ => ?_⟩
  have wx := K.2.1.p (hp_h l1)
  have wy := K.2.1.p (hp_h l2)
  have d0 := K.2.1.k hk_0
  have nh : (Int32.ofNat x).toNatClampNeg = x := o32n (by omega)
  have no : (Int32.ofNat y).toNatClampNeg = y := o32n (by omega)
  simp only [q0.2.1, d0, nh, no, wx, wy] at h6 h11
  obtain ⟨rfl, z, -⟩ := g12
  have z := z rfl
  exact absurd rfl z
theorem sp_129_ennnftx4_ (a0 : Nat) (a1 : Int32) (a2 : Int32) (σ : zSg) (τ1 : zSg) (τ2 : zSg) (τ3 : zSg) (τ12 : zSg) (g1 : p_166 a0 a1 σ (.inl 0) τ1) (g2 : p_166 a0 a2 τ1 (.inl 0) τ2) (g3 : p_171 a0 a1 a2 τ2 (.inl 0) τ3) (h4 : 0 ≤ a1.toInt ∧ a1.toInt < (τ3.2.1 (q_r (τ3.1 (q_r (τ3.1 a0 2)) 0)) : Int)) (h5 : 0 ≤ a2.toInt ∧ a2.toInt < (τ3.2.1 (q_r (τ3.1 (q_r (τ3.1 a0 2)) 0)) : Int)) (h6 : (q_i (τ3.1 (q_r (τ3.1 (q_r (τ3.1 a0 2)) 0)) a1.toNatClampNeg)).toInt ≠ (-1 : Int)) (h11 : (q_i (τ3.1 (q_r (τ3.1 (q_r (τ3.1 a0 2)) 0)) a2.toNatClampNeg)).toInt = (-1 : Int)) (g12 : p_172 a0 (Int32.ofInt (0)) τ3 (.inr 4) τ12) :
    p_129 (a0) (a1) (a2) σ (.inr 4) τ12 := by
  rintro rfl A nf nt nx n Ms K
  have q0 := K.1.q
  obtain ⟨rfl, u, -⟩ := g1
  have u := u rfl
  obtain ⟨rfl, u', -⟩ := g2
  have u' := u' rfl
  obtain ⟨rfl, v, -⟩ := g3
  have v := v rfl
  refine ⟨fun w => absurd ⟨u, u'⟩ w, fun x y e1 l1 e2 l2 => ?_⟩
  subst e1
  subst e2
  rw [o32 (by omega), o32 (by omega)] at v
  refine ⟨fun w => absurd (by rw [w]) v, fun _ => ?_⟩
  have wx := K.2.1.p (hp_h l1)
  have wy := K.2.1.p (hp_h l2)
  have d0 := K.2.1.k hk_0
  have nh : (Int32.ofNat x).toNatClampNeg = x := o32n (by omega)
  have no : (Int32.ofNat y).toNatClampNeg = y := o32n (by omega)
  simp only [q0.2.1, d0, nh, no, wx, wy] at h6 h11
  obtain ⟨rfl, -, z⟩ := g12
  have z := z rfl
  exact ⟨fun _ => ⟨rfl, rfl⟩, fun q => absurd (Int32.toInt_inj.mp h11) q.2.1⟩
theorem sp_129_ennnfftn (a0 : Nat) (a1 : Int32) (a2 : Int32) (σ : zSg) (τ1 : zSg) (τ2 : zSg) (τ3 : zSg) (τ17 : zSg) (τ18 : zSg) (g1 : p_166 a0 a1 σ (.inl 0) τ1) (g2 : p_166 a0 a2 τ1 (.inl 0) τ2) (g3 : p_171 a0 a1 a2 τ2 (.inl 0) τ3) (h4 : 0 ≤ a1.toInt ∧ a1.toInt < (τ3.2.1 (q_r (τ3.1 (q_r (τ3.1 a0 2)) 0)) : Int)) (h5 : 0 ≤ a2.toInt ∧ a2.toInt < (τ3.2.1 (q_r (τ3.1 (q_r (τ3.1 a0 2)) 0)) : Int)) (h6 : (q_i (τ3.1 (q_r (τ3.1 (q_r (τ3.1 a0 2)) 0)) a1.toNatClampNeg)).toInt ≠ (-1 : Int)) (h11 : (q_i (τ3.1 (q_r (τ3.1 (q_r (τ3.1 a0 2)) 0)) a2.toNatClampNeg)).toInt ≠ (-1 : Int)) (h16 : (q_i (τ3.1 (q_r (τ3.1 (q_r (τ3.1 a0 2)) 0)) a1.toNatClampNeg)).toInt = (q_i (τ3.1 (q_r (τ3.1 (q_r (τ3.1 a0 2)) 0)) a2.toNatClampNeg)).toInt) (g17 : p_172 a0 (Int32.ofInt (0)) τ3 (.inl 0) τ17) (g18 : p_62 (q_r (τ17.1 a0 5)) (q_r (τ17.1 a0 2)) τ17 τ18) (h19 : 0 ≤ a1.toInt ∧ a1.toInt < (τ18.2.1 (q_r (τ18.1 (q_r (τ18.1 a0 2)) 0)) : Int)) (h20 : 0 ≤ a2.toInt ∧ a2.toInt < ((q_w τ18 (q_r (τ18.1 (q_r (τ18.1 a0 2)) 0)) a1.toNatClampNeg (.int (q_i (τ3.1 (q_r (τ3.1 (q_r (τ3.1 a0 2)) 0)) a2.toNatClampNeg)))).2.1 (q_r ((q_w τ18 (q_r (τ18.1 (q_r (τ18.1 a0 2)) 0)) a1.toNatClampNeg (.int (q_i (τ3.1 (q_r (τ3.1 (q_r (τ3.1 a0 2)) 0)) a2.toNatClampNeg)))).1 (q_r ((q_w τ18 (q_r (τ18.1 (q_r (τ18.1 a0 2)) 0)) a1.toNatClampNeg (.int (q_i (τ3.1 (q_r (τ3.1 (q_r (τ3.1 a0 2)) 0)) a2.toNatClampNeg)))).1 a0 2)) 0)) : Int)) :
    p_129 (a0) (a1) (a2) σ (.inl (q_i (τ3.1 (q_r (τ3.1 (q_r (τ3.1 a0 2)) 0)) a2.toNatClampNeg))) (q_w (q_w τ18 (q_r (τ18.1 (q_r (τ18.1 a0 2)) 0)) a1.toNatClampNeg (.int (q_i (τ3.1 (q_r (τ3.1 (q_r (τ3.1 a0 2)) 0)) a2.toNatClampNeg)))) (q_r ((q_w τ18 (q_r (τ18.1 (q_r (τ18.1 a0 2)) 0)) a1.toNatClampNeg (.int (q_i (τ3.1 (q_r (τ3.1 (q_r (τ3.1 a0 2)) 0)) a2.toNatClampNeg)))).1 (q_r ((q_w τ18 (q_r (τ18.1 (q_r (τ18.1 a0 2)) 0)) a1.toNatClampNeg (.int (q_i (τ3.1 (q_r (τ3.1 (q_r (τ3.1 a0 2)) 0)) a2.toNatClampNeg)))).1 a0 2)) 0)) a2.toNatClampNeg (.int (q_i (τ3.1 (q_r (τ3.1 (q_r (τ3.1 a0 2)) 0)) a1.toNatClampNeg)))) := by
  rintro rfl A nf nt nx n Ms K
  have q0 := K.1.q
  obtain ⟨rfl, u, -⟩ := g1
  have u := u rfl
  obtain ⟨rfl, u', -⟩ := g2
  have u' := u' rfl
  obtain ⟨rfl, v, -⟩ := g3
  have v := v rfl
  refine ⟨fun w => absurd ⟨u, u'⟩ w, fun x y e1 l1 e2 l2 => ?_⟩
  subst e1
  subst e2
  rw [o32 (by omega), o32 (by omega)] at v
  refine ⟨fun w => absurd (by rw [w]) v, fun _ => ?_⟩
  have wx := K.2.1.p (hp_h l1)
  have wy := K.2.1.p (hp_h l2)
  have d0 := K.2.1.k hk_0
  have nh : (Int32.ofNat x).toNatClampNeg = x := o32n (by omega)
  have no : (Int32.ofNat y).toNatClampNeg = y := o32n (by omega)
  simp only [q0.2.1, d0, nh, no, wx, wy] at h6 h11 h16
  obtain ⟨rfl, z, -⟩ := g17
  have z := z rfl
  exact absurd rfl z
theorem sp_129_ennnfftx4_ (a0 : Nat) (a1 : Int32) (a2 : Int32) (σ : zSg) (τ1 : zSg) (τ2 : zSg) (τ3 : zSg) (τ17 : zSg) (g1 : p_166 a0 a1 σ (.inl 0) τ1) (g2 : p_166 a0 a2 τ1 (.inl 0) τ2) (g3 : p_171 a0 a1 a2 τ2 (.inl 0) τ3) (h4 : 0 ≤ a1.toInt ∧ a1.toInt < (τ3.2.1 (q_r (τ3.1 (q_r (τ3.1 a0 2)) 0)) : Int)) (h5 : 0 ≤ a2.toInt ∧ a2.toInt < (τ3.2.1 (q_r (τ3.1 (q_r (τ3.1 a0 2)) 0)) : Int)) (h6 : (q_i (τ3.1 (q_r (τ3.1 (q_r (τ3.1 a0 2)) 0)) a1.toNatClampNeg)).toInt ≠ (-1 : Int)) (h11 : (q_i (τ3.1 (q_r (τ3.1 (q_r (τ3.1 a0 2)) 0)) a2.toNatClampNeg)).toInt ≠ (-1 : Int)) (h16 : (q_i (τ3.1 (q_r (τ3.1 (q_r (τ3.1 a0 2)) 0)) a1.toNatClampNeg)).toInt = (q_i (τ3.1 (q_r (τ3.1 (q_r (τ3.1 a0 2)) 0)) a2.toNatClampNeg)).toInt) (g17 : p_172 a0 (Int32.ofInt (0)) τ3 (.inr 4) τ17) :
    p_129 (a0) (a1) (a2) σ (.inr 4) τ17 := by
  rintro rfl A nf nt nx n Ms K
  have q0 := K.1.q
  obtain ⟨rfl, u, -⟩ := g1
  have u := u rfl
  obtain ⟨rfl, u', -⟩ := g2
  have u' := u' rfl
  obtain ⟨rfl, v, -⟩ := g3
  have v := v rfl
  refine ⟨fun w => absurd ⟨u, u'⟩ w, fun x y e1 l1 e2 l2 => ?_⟩
  subst e1
  subst e2
  rw [o32 (by omega), o32 (by omega)] at v
  refine ⟨fun w => absurd (by rw [w]) v, fun _ => ?_⟩
  have wx := K.2.1.p (hp_h l1)
  have wy := K.2.1.p (hp_h l2)
  have d0 := K.2.1.k hk_0
  have nh : (Int32.ofNat x).toNatClampNeg = x := o32n (by omega)
  have no : (Int32.ofNat y).toNatClampNeg = y := o32n (by omega)
  simp only [q0.2.1, d0, nh, no, wx, wy] at h6 h11 h16
  obtain ⟨rfl, -, z⟩ := g17
  have z := z rfl
  exact ⟨fun _ => ⟨rfl, rfl⟩, fun q => absurd (Int32.toInt_inj.mp h16) q.2.2⟩
theorem sp_129_ennnfffn (a0 : Nat) (a1 : Int32) (a2 : Int32) (σ : zSg) (τ1 : zSg) (τ2 : zSg) (τ3 : zSg) (τ21 : zSg) (τ22 : zSg) (g1 : p_166 a0 a1 σ (.inl 0) τ1) (g2 : p_166 a0 a2 τ1 (.inl 0) τ2) (g3 : p_171 a0 a1 a2 τ2 (.inl 0) τ3) (h4 : 0 ≤ a1.toInt ∧ a1.toInt < (τ3.2.1 (q_r (τ3.1 (q_r (τ3.1 a0 2)) 0)) : Int)) (h5 : 0 ≤ a2.toInt ∧ a2.toInt < (τ3.2.1 (q_r (τ3.1 (q_r (τ3.1 a0 2)) 0)) : Int)) (h6 : (q_i (τ3.1 (q_r (τ3.1 (q_r (τ3.1 a0 2)) 0)) a1.toNatClampNeg)).toInt ≠ (-1 : Int)) (h11 : (q_i (τ3.1 (q_r (τ3.1 (q_r (τ3.1 a0 2)) 0)) a2.toNatClampNeg)).toInt ≠ (-1 : Int)) (h16 : (q_i (τ3.1 (q_r (τ3.1 (q_r (τ3.1 a0 2)) 0)) a1.toNatClampNeg)).toInt ≠ (q_i (τ3.1 (q_r (τ3.1 (q_r (τ3.1 a0 2)) 0)) a2.toNatClampNeg)).toInt) (g21 : p_172 a0 (Int32.ofInt (1)) τ3 (.inl 0) τ21) (g22 : p_62 (q_r (τ21.1 a0 5)) (q_r (τ21.1 a0 2)) τ21 τ22) (h23 : 0 ≤ a1.toInt ∧ a1.toInt < (τ22.2.1 (q_r (τ22.1 (q_r (τ22.1 a0 2)) 0)) : Int)) (h24 : 0 ≤ a2.toInt ∧ a2.toInt < ((q_w τ22 (q_r (τ22.1 (q_r (τ22.1 a0 2)) 0)) a1.toNatClampNeg (.int (q_i (τ3.1 (q_r (τ3.1 (q_r (τ3.1 a0 2)) 0)) a2.toNatClampNeg)))).2.1 (q_r ((q_w τ22 (q_r (τ22.1 (q_r (τ22.1 a0 2)) 0)) a1.toNatClampNeg (.int (q_i (τ3.1 (q_r (τ3.1 (q_r (τ3.1 a0 2)) 0)) a2.toNatClampNeg)))).1 (q_r ((q_w τ22 (q_r (τ22.1 (q_r (τ22.1 a0 2)) 0)) a1.toNatClampNeg (.int (q_i (τ3.1 (q_r (τ3.1 (q_r (τ3.1 a0 2)) 0)) a2.toNatClampNeg)))).1 a0 2)) 0)) : Int)) :
    p_129 (a0) (a1) (a2) σ (.inl (q_i (τ3.1 (q_r (τ3.1 (q_r (τ3.1 a0 2)) 0)) a2.toNatClampNeg))) (q_w (q_w τ22 (q_r (τ22.1 (q_r (τ22.1 a0 2)) 0)) a1.toNatClampNeg (.int (q_i (τ3.1 (q_r (τ3.1 (q_r (τ3.1 a0 2)) 0)) a2.toNatClampNeg)))) (q_r ((q_w τ22 (q_r (τ22.1 (q_r (τ22.1 a0 2)) 0)) a1.toNatClampNeg (.int (q_i (τ3.1 (q_r (τ3.1 (q_r (τ3.1 a0 2)) 0)) a2.toNatClampNeg)))).1 (q_r ((q_w τ22 (q_r (τ22.1 (q_r (τ22.1 a0 2)) 0)) a1.toNatClampNeg (.int (q_i (τ3.1 (q_r (τ3.1 (q_r (τ3.1 a0 2)) 0)) a2.toNatClampNeg)))).1 a0 2)) 0)) a2.toNatClampNeg (.int (q_i (τ3.1 (q_r (τ3.1 (q_r (τ3.1 a0 2)) 0)) a1.toNatClampNeg)))) := by
  rintro rfl A nf nt nx n Ms K
  have q0 := K.1.q
  obtain ⟨rfl, u, -⟩ := g1
  have u := u rfl
  obtain ⟨rfl, u', -⟩ := g2
  have u' := u' rfl
  obtain ⟨rfl, v, -⟩ := g3
  have v := v rfl
  refine ⟨fun w => absurd ⟨u, u'⟩ w, fun x y e1 l1 e2 l2 => ?_⟩
  subst e1
  subst e2
  rw [o32 (by omega), o32 (by omega)] at v
  refine ⟨fun w => absurd (by rw [w]) v, fun _ => ?_⟩
  have wx := K.2.1.p (hp_h l1)
  have wy := K.2.1.p (hp_h l2)
  have d0 := K.2.1.k hk_0
  have nh : (Int32.ofNat x).toNatClampNeg = x := o32n (by omega)
  have no : (Int32.ofNat y).toNatClampNeg = y := o32n (by omega)
  simp only [q0.2.1, d0, nh, no, wx, wy] at h6 h11 h16
  obtain ⟨rfl, z, -⟩ := g21
  have z := z rfl
  have hok : A (16 + x) ≠ Int32.ofInt (-1) ∧ A (16 + y) ≠ Int32.ofInt (-1) ∧ A (16 + x) ≠ A (16 + y) := ⟨fun q => h6 (by rw [q]; rfl), fun q => h11 (by rw [q]; rfl), fun q => h16 (by rw [q])⟩
  refine ⟨fun q => absurd hok q, fun _ => ?_⟩
  rw [q0.2.1, q0.2.2.2.2] at g22
  have R := K.kp g22
  have qs := (R.sk K.1).q
  have d1 := R.2.1.k hk_0
  have T1 := R.hs (hHF.w (hp_h (b := 8) l1)) (R.2.1.ww (v := A (16 + y)) (hp_h l1))
  have qt := (T1.sk K.1).q
  have d2 := T1.2.1.k hk_0
  simp only [q0.2.1, d0, nh, no, wx, wy, qs.2.1, d1, qt.2.1, d2]
  exact ⟨trivial, T1.hs (hHF.w (hp_h l2)) (T1.2.1.ww (hp_h l2))⟩
theorem sp_129_ennnfffx4_ (a0 : Nat) (a1 : Int32) (a2 : Int32) (σ : zSg) (τ1 : zSg) (τ2 : zSg) (τ3 : zSg) (τ21 : zSg) (g1 : p_166 a0 a1 σ (.inl 0) τ1) (g2 : p_166 a0 a2 τ1 (.inl 0) τ2) (g3 : p_171 a0 a1 a2 τ2 (.inl 0) τ3) (h4 : 0 ≤ a1.toInt ∧ a1.toInt < (τ3.2.1 (q_r (τ3.1 (q_r (τ3.1 a0 2)) 0)) : Int)) (h5 : 0 ≤ a2.toInt ∧ a2.toInt < (τ3.2.1 (q_r (τ3.1 (q_r (τ3.1 a0 2)) 0)) : Int)) (h6 : (q_i (τ3.1 (q_r (τ3.1 (q_r (τ3.1 a0 2)) 0)) a1.toNatClampNeg)).toInt ≠ (-1 : Int)) (h11 : (q_i (τ3.1 (q_r (τ3.1 (q_r (τ3.1 a0 2)) 0)) a2.toNatClampNeg)).toInt ≠ (-1 : Int)) (h16 : (q_i (τ3.1 (q_r (τ3.1 (q_r (τ3.1 a0 2)) 0)) a1.toNatClampNeg)).toInt ≠ (q_i (τ3.1 (q_r (τ3.1 (q_r (τ3.1 a0 2)) 0)) a2.toNatClampNeg)).toInt) (g21 : p_172 a0 (Int32.ofInt (1)) τ3 (.inr 4) τ21) :
    p_129 (a0) (a1) (a2) σ (.inr 4) τ21 := by
  rintro rfl A nf nt nx n Ms K
  have q0 := K.1.q
  obtain ⟨rfl, u, -⟩ := g1
  have u := u rfl
  obtain ⟨rfl, u', -⟩ := g2
  have u' := u' rfl
  obtain ⟨rfl, v, -⟩ := g3
  have v := v rfl
  refine ⟨fun w => absurd ⟨u, u'⟩ w, fun x y e1 l1 e2 l2 => ?_⟩
  subst e1
  subst e2
  rw [o32 (by omega), o32 (by omega)] at v
  refine ⟨fun w => absurd (by rw [w]) v, fun _ => ?_⟩
  have wx := K.2.1.p (hp_h l1)
  have wy := K.2.1.p (hp_h l2)
  have d0 := K.2.1.k hk_0
  have nh : (Int32.ofNat x).toNatClampNeg = x := o32n (by omega)
  have no : (Int32.ofNat y).toNatClampNeg = y := o32n (by omega)
  simp only [q0.2.1, d0, nh, no, wx, wy] at h6 h11 h16
  obtain ⟨rfl, -, z⟩ := g21
  have z := z rfl
  exact absurd z (by decide)
theorem sp_129_ennx0_ (a0 : Nat) (a1 : Int32) (a2 : Int32) (σ : zSg) (τ1 : zSg) (τ2 : zSg) (τ3 : zSg) (g1 : p_166 a0 a1 σ (.inl 0) τ1) (g2 : p_166 a0 a2 τ1 (.inl 0) τ2) (g3 : p_171 a0 a1 a2 τ2 (.inr 0) τ3) :
    p_129 (a0) (a1) (a2) σ (.inr 0) τ3 := by
  rintro rfl A nf nt nx n Ms K
  have q0 := K.1.q
  obtain ⟨rfl, u, -⟩ := g1
  have u := u rfl
  obtain ⟨rfl, u', -⟩ := g2
  have u' := u' rfl
  obtain ⟨rfl, -, v⟩ := g3
  have v := v rfl
  refine ⟨fun w => absurd ⟨u, u'⟩ w, fun x y e1 l1 e2 l2 => ?_⟩
  subst e1
  subst e2
  rw [o32 (by omega), o32 (by omega)] at v
  exact ⟨fun _ => ⟨rfl, rfl⟩, fun w => absurd (by omega) w⟩
theorem sp_129_enx2_ (a0 : Nat) (a1 : Int32) (a2 : Int32) (σ : zSg) (τ1 : zSg) (τ2 : zSg) (g1 : p_166 a0 a1 σ (.inl 0) τ1) (g2 : p_166 a0 a2 τ1 (.inr 2) τ2) :
    p_129 (a0) (a1) (a2) σ (.inr 2) τ2 := by
  rintro rfl A nf nt nx n Ms K
  have q0 := K.1.q
  obtain ⟨rfl, -, -⟩ := g1
  obtain ⟨rfl, -, u⟩ := g2
  have u := u rfl
  exact ⟨fun _ => ⟨rfl, rfl⟩, fun x y e1 l1 e2 l2 => absurd (by rw [e2, o32 (by omega)]; omega) u⟩
theorem sp_129_ex2_ (a0 : Nat) (a1 : Int32) (a2 : Int32) (σ : zSg) (τ1 : zSg) (g1 : p_166 a0 a1 σ (.inr 2) τ1) :
    p_129 (a0) (a1) (a2) σ (.inr 2) τ1 := by
  rintro rfl A nf nt nx n Ms K
  have q0 := K.1.q
  obtain ⟨rfl, -, u⟩ := g1
  have u := u rfl
  exact ⟨fun _ => ⟨rfl, rfl⟩, fun x y e1 l1 e2 l2 => absurd (by rw [e1, o32 (by omega)]; omega) u⟩
noncomputable def qP_129 : zPp := fun as σ o σ' => match as with
  | [a0, a1, a2] => (∃ r, o = .inl (some (.int r)) ∧ p_129 (q_r a0) (q_i a1) (q_i a2) σ (.inl r) σ') ∨ (o = .inr 2 ∧ p_129 (q_r a0) (q_i a1) (q_i a2) σ (.inr 2) σ') ∨ (o = .inr 0 ∧ p_129 (q_r a0) (q_i a1) (q_i a2) σ (.inr 0) σ') ∨ (o = .inr 4 ∧ p_129 (q_r a0) (q_i a1) (q_i a2) σ (.inr 4) σ')
  | _ => True
set_option maxRecDepth 100000 in
theorem sp_129 {sx : zX} (S166 : zEe sx 166 2 qP_166) (S171 : zEe sx 171 3 qP_171) (S172 : zEe sx 172 2 qP_172) (S62 : zEe sx 62 2 qP_62) : zEe sx 129 3 qP_129 := by
  refine zfle zJ_129 (sps := [(166, 2, qP_166), (171, 3, qP_171), (172, 2, qP_172), (62, 2, qP_62)]) (fun q hq => by
    simp only [List.mem_cons, List.not_mem_nil, or_false] at hq
    rcases hq with rfl | rfl | rfl | rfl
    · exact S166
    · exact S171
    · exact S172
    · exact S62) (fun as σ hl => ?_)
  match as, hl with
  | [a0, a1, a2], _ =>
  refine ⟨[], 400, ?_, ?_⟩
  · exact fun q hq => absurd hq List.not_mem_nil
  · refine fun o1 τ1 g1 => ?_
    rcases g1 with ⟨rfl, g1⟩ | ⟨rfl, g1⟩
    · refine fun o2 τ2 g2 => ?_
      rcases g2 with ⟨rfl, g2⟩ | ⟨rfl, g2⟩
      · refine fun o3 τ3 g3 => ?_
        rcases g3 with ⟨rfl, g3⟩ | ⟨rfl, g3⟩
        · refine fun h4 => ?_
          refine fun h5 => ?_
          refine And.intro (fun h6 => ?_) (fun h6 => ?_)
          · refine fun o7 τ7 g7 => ?_
            rcases g7 with ⟨rfl, g7⟩ | ⟨rfl, g7⟩
            · refine fun o8 τ8 g8 => ?_
              obtain ⟨rfl, g8⟩ := g8
              refine fun h9 => ?_
              refine fun h10 => ?_
              exact Or.inl ⟨_, rfl, sp_129_ennntn (q_r a0) (q_i a1) (q_i a2) σ τ1 τ2 τ3 τ7 τ8 g1 g2 g3 (q_inp h4) (q_inp h5) (cm0t h6) g7 g8 (q_inp h9) (q_inp h10)⟩
            · exact Or.inr (Or.inr (Or.inr (⟨rfl, sp_129_ennntx4_ (q_r a0) (q_i a1) (q_i a2) σ τ1 τ2 τ3 τ7 g1 g2 g3 (q_inp h4) (q_inp h5) (cm0t h6) g7⟩)))
          · refine And.intro (fun h11 => ?_) (fun h11 => ?_)
            · refine fun o12 τ12 g12 => ?_
              rcases g12 with ⟨rfl, g12⟩ | ⟨rfl, g12⟩
              · refine fun o13 τ13 g13 => ?_
                obtain ⟨rfl, g13⟩ := g13
                refine fun h14 => ?_
                refine fun h15 => ?_
                exact Or.inl ⟨_, rfl, sp_129_ennnftn (q_r a0) (q_i a1) (q_i a2) σ τ1 τ2 τ3 τ12 τ13 g1 g2 g3 (q_inp h4) (q_inp h5) (cm0f h6) (cm0t h11) g12 g13 (q_inp h14) (q_inp h15)⟩
              · exact Or.inr (Or.inr (Or.inr (⟨rfl, sp_129_ennnftx4_ (q_r a0) (q_i a1) (q_i a2) σ τ1 τ2 τ3 τ12 g1 g2 g3 (q_inp h4) (q_inp h5) (cm0f h6) (cm0t h11) g12⟩)))
            · refine And.intro (fun h16 => ?_) (fun h16 => ?_)
              · refine fun o17 τ17 g17 => ?_
                rcases g17 with ⟨rfl, g17⟩ | ⟨rfl, g17⟩
                · refine fun o18 τ18 g18 => ?_
                  obtain ⟨rfl, g18⟩ := g18
                  refine fun h19 => ?_
                  refine fun h20 => ?_
                  exact Or.inl ⟨_, rfl, sp_129_ennnfftn (q_r a0) (q_i a1) (q_i a2) σ τ1 τ2 τ3 τ17 τ18 g1 g2 g3 (q_inp h4) (q_inp h5) (cm0f h6) (cm0f h11) (cm0t h16) g17 g18 (q_inp h19) (q_inp h20)⟩
                · exact Or.inr (Or.inr (Or.inr (⟨rfl, sp_129_ennnfftx4_ (q_r a0) (q_i a1) (q_i a2) σ τ1 τ2 τ3 τ17 g1 g2 g3 (q_inp h4) (q_inp h5) (cm0f h6) (cm0f h11) (cm0t h16) g17⟩)))
              · refine fun o21 τ21 g21 => ?_
                rcases g21 with ⟨rfl, g21⟩ | ⟨rfl, g21⟩
                · refine fun o22 τ22 g22 => ?_
                  obtain ⟨rfl, g22⟩ := g22
                  refine fun h23 => ?_
                  refine fun h24 => ?_
                  exact Or.inl ⟨_, rfl, sp_129_ennnfffn (q_r a0) (q_i a1) (q_i a2) σ τ1 τ2 τ3 τ21 τ22 g1 g2 g3 (q_inp h4) (q_inp h5) (cm0f h6) (cm0f h11) (cm0f h16) g21 g22 (q_inp h23) (q_inp h24)⟩
                · exact Or.inr (Or.inr (Or.inr (⟨rfl, sp_129_ennnfffx4_ (q_r a0) (q_i a1) (q_i a2) σ τ1 τ2 τ3 τ21 g1 g2 g3 (q_inp h4) (q_inp h5) (cm0f h6) (cm0f h11) (cm0f h16) g21⟩)))
        · exact Or.inr (Or.inr (Or.inl (⟨rfl, sp_129_ennx0_ (q_r a0) (q_i a1) (q_i a2) σ τ1 τ2 τ3 g1 g2 g3⟩)))
      · exact Or.inr (Or.inl (⟨rfl, sp_129_enx2_ (q_r a0) (q_i a1) (q_i a2) σ τ1 τ2 g1 g2⟩))
    · exact Or.inr (Or.inl (⟨rfl, sp_129_ex2_ (q_r a0) (q_i a1) (q_i a2) σ τ1 g1⟩))
theorem zJ_128 : zJ3 128 z_m128 z_c128 z_h128 := ⟨rfl, rfl, rfl⟩
noncomputable def p_128 (a : Nat) (h f : Int32) (σ : zSg) (e : Int32 ⊕ Nat) (σ' : zSg) : Prop := a = 0 → ∀ A nf nt nx n Ms, xA σ A nf nt nx n Ms → (¬ ((0 ≤ h.toInt ∧ h.toInt < 24) ∧ (0 ≤ f.toInt ∧ f.toInt < (nf : Int))) → e = .inr 2 ∧ σ' = σ) ∧ (∀ x F, h = Int32.ofNat x → x < 24 → f = Int32.ofNat F → F < nf → (¬ (A (16 + x) = Int32.ofInt (-1) ∧ (A 12).toInt ≤ (A (40 + 4 * F)).toInt) → e = .inr 4 ∧ σ' = σ) ∧ ((A (16 + x) = Int32.ofInt (-1) ∧ (A 12).toInt ≤ (A (40 + 4 * F)).toInt) → e = .inl (aPy (A (40 + 4 * F)) (A 12)) ∧ xR σ σ' A (aU (aU A (40 + 4 * F) (aPy (A (40 + 4 * F)) (A 12))) (16 + x) (Int32.ofNat F)) nx n Ms))
theorem sp_128_enntn (a0 : Nat) (a1 : Int32) (a2 : Int32) (σ : zSg) (τ1 : zSg) (τ2 : zSg) (τ5 : zSg) (τ6 : zSg) (τ7 : zSg) (τ9 : zSg) (r9 : Int32) (g1 : p_166 a0 a1 σ (.inl 0) τ1) (g2 : p_167 a0 a2 τ1 (.inl 0) τ2) (h3 : 0 ≤ a1.toInt ∧ a1.toInt < (τ2.2.1 (q_r (τ2.1 (q_r (τ2.1 a0 2)) 0)) : Int)) (h4 : (q_i (τ2.1 (q_r (τ2.1 (q_r (τ2.1 a0 2)) 0)) a1.toNatClampNeg)).toInt ≠ (-1 : Int)) (g5 : p_172 a0 (Int32.ofInt (0)) τ2 (.inl 0) τ5) (g6 : p_62 (q_r (τ5.1 a0 5)) (q_r (τ5.1 a0 2)) τ5 τ6) (g7 : p_17 (q_r (τ6.1 (q_r (τ6.1 a0 2)) 1)) a2 (q_i (τ6.1 (q_r (τ6.1 a0 2)) 15)) τ6 τ7) (h8 : 0 ≤ a1.toInt ∧ a1.toInt < (τ7.2.1 (q_r (τ7.1 (q_r (τ7.1 a0 2)) 0)) : Int)) (g9 : p_16 (q_r ((q_w τ7 (q_r (τ7.1 (q_r (τ7.1 a0 2)) 0)) a1.toNatClampNeg (.int a2)).1 (q_r ((q_w τ7 (q_r (τ7.1 (q_r (τ7.1 a0 2)) 0)) a1.toNatClampNeg (.int a2)).1 a0 2)) 1)) a2 (q_w τ7 (q_r (τ7.1 (q_r (τ7.1 a0 2)) 0)) a1.toNatClampNeg (.int a2)) r9 τ9) :
    p_128 (a0) (a1) (a2) σ (.inl r9) τ9 := by
  rintro rfl A nf nt nx n Ms K
  have q0 := K.1.q
  obtain ⟨rfl, u, -⟩ := g1
  have u := u rfl
  have hc := K.2.2.2.1
  obtain ⟨rfl, g⟩ := g2
  have u' := (g rfl K.1 A nf K.2.1 hc.1 hc.2.1).1 rfl
  refine ⟨fun w => absurd ⟨u, u'⟩ w, fun x F e1 l1 e2 l2 => ?_⟩
  subst e1
  subst e2
  have l6 : F < 6 := by have := hc.2.1; omega
  have wx := K.2.1.p (hp_h l1)
  have d0 := K.2.1.k hk_0
  have d1 := K.2.1.k hk_1
  have w12 := K.2.1.p (hp_s (k := 12) (by omega) (by omega))
  have nh : (Int32.ofNat x).toNatClampNeg = x := o32n (by omega)
  simp only [q0.2.1, d0, nh, wx] at h4
  obtain ⟨rfl, z, -⟩ := g5
  exact absurd rfl (z rfl)
theorem sp_128_enntx4_ (a0 : Nat) (a1 : Int32) (a2 : Int32) (σ : zSg) (τ1 : zSg) (τ2 : zSg) (τ5 : zSg) (g1 : p_166 a0 a1 σ (.inl 0) τ1) (g2 : p_167 a0 a2 τ1 (.inl 0) τ2) (h3 : 0 ≤ a1.toInt ∧ a1.toInt < (τ2.2.1 (q_r (τ2.1 (q_r (τ2.1 a0 2)) 0)) : Int)) (h4 : (q_i (τ2.1 (q_r (τ2.1 (q_r (τ2.1 a0 2)) 0)) a1.toNatClampNeg)).toInt ≠ (-1 : Int)) (g5 : p_172 a0 (Int32.ofInt (0)) τ2 (.inr 4) τ5) :
    p_128 (a0) (a1) (a2) σ (.inr 4) τ5 := by
  rintro rfl A nf nt nx n Ms K
  have q0 := K.1.q
  obtain ⟨rfl, u, -⟩ := g1
  have u := u rfl
  have hc := K.2.2.2.1
  obtain ⟨rfl, g⟩ := g2
  have u' := (g rfl K.1 A nf K.2.1 hc.1 hc.2.1).1 rfl
  refine ⟨fun w => absurd ⟨u, u'⟩ w, fun x F e1 l1 e2 l2 => ?_⟩
  subst e1
  subst e2
  have l6 : F < 6 := by have := hc.2.1; omega
  have wx := K.2.1.p (hp_h l1)
  have d0 := K.2.1.k hk_0
  have d1 := K.2.1.k hk_1
  have w12 := K.2.1.p (hp_s (k := 12) (by omega) (by omega))
  have nh : (Int32.ofNat x).toNatClampNeg = x := o32n (by omega)
  simp only [q0.2.1, d0, nh, wx] at h4
  obtain ⟨rfl, -, z⟩ := g5
  exact ⟨fun _ => ⟨rfl, rfl⟩, fun q => absurd (by rw [q.1]; rfl) h4⟩
theorem sp_128_ennftn (a0 : Nat) (a1 : Int32) (a2 : Int32) (σ : zSg) (τ1 : zSg) (τ2 : zSg) (τ10 : zSg) (r10 : Int32) (τ12 : zSg) (τ13 : zSg) (τ14 : zSg) (τ16 : zSg) (r16 : Int32) (g1 : p_166 a0 a1 σ (.inl 0) τ1) (g2 : p_167 a0 a2 τ1 (.inl 0) τ2) (h3 : 0 ≤ a1.toInt ∧ a1.toInt < (τ2.2.1 (q_r (τ2.1 (q_r (τ2.1 a0 2)) 0)) : Int)) (h4 : (q_i (τ2.1 (q_r (τ2.1 (q_r (τ2.1 a0 2)) 0)) a1.toNatClampNeg)).toInt = (-1 : Int)) (g10 : p_16 (q_r (τ2.1 (q_r (τ2.1 a0 2)) 1)) a2 τ2 r10 τ10) (h11 : r10.toInt < (q_i (τ10.1 (q_r (τ10.1 a0 2)) 15)).toInt) (g12 : p_172 a0 (Int32.ofInt (0)) τ10 (.inl 0) τ12) (g13 : p_62 (q_r (τ12.1 a0 5)) (q_r (τ12.1 a0 2)) τ12 τ13) (g14 : p_17 (q_r (τ13.1 (q_r (τ13.1 a0 2)) 1)) a2 (q_i (τ13.1 (q_r (τ13.1 a0 2)) 15)) τ13 τ14) (h15 : 0 ≤ a1.toInt ∧ a1.toInt < (τ14.2.1 (q_r (τ14.1 (q_r (τ14.1 a0 2)) 0)) : Int)) (g16 : p_16 (q_r ((q_w τ14 (q_r (τ14.1 (q_r (τ14.1 a0 2)) 0)) a1.toNatClampNeg (.int a2)).1 (q_r ((q_w τ14 (q_r (τ14.1 (q_r (τ14.1 a0 2)) 0)) a1.toNatClampNeg (.int a2)).1 a0 2)) 1)) a2 (q_w τ14 (q_r (τ14.1 (q_r (τ14.1 a0 2)) 0)) a1.toNatClampNeg (.int a2)) r16 τ16) :
    p_128 (a0) (a1) (a2) σ (.inl r16) τ16 := by
  rintro rfl A nf nt nx n Ms K
  have q0 := K.1.q
  obtain ⟨rfl, u, -⟩ := g1
  have u := u rfl
  have hc := K.2.2.2.1
  obtain ⟨rfl, g⟩ := g2
  have u' := (g rfl K.1 A nf K.2.1 hc.1 hc.2.1).1 rfl
  refine ⟨fun w => absurd ⟨u, u'⟩ w, fun x F e1 l1 e2 l2 => ?_⟩
  subst e1
  subst e2
  have l6 : F < 6 := by have := hc.2.1; omega
  have wx := K.2.1.p (hp_h l1)
  have d0 := K.2.1.k hk_0
  have d1 := K.2.1.k hk_1
  have w12 := K.2.1.p (hp_s (k := 12) (by omega) (by omega))
  have nh : (Int32.ofNat x).toNatClampNeg = x := o32n (by omega)
  simp only [q0.2.1, d0, nh, wx] at h4
  simp only [q0.2.1, d1] at g10
  obtain ⟨rfl, g3⟩ := g10
  have x3 := g3 8 A nf rfl K.2.1 hc.1 hc.2.1 F rfl l2
  simp only [q0.2.1, x3, w12] at h11
  obtain ⟨rfl, z, -⟩ := g12
  exact absurd rfl (z rfl)
theorem sp_128_ennftx4_ (a0 : Nat) (a1 : Int32) (a2 : Int32) (σ : zSg) (τ1 : zSg) (τ2 : zSg) (τ10 : zSg) (r10 : Int32) (τ12 : zSg) (g1 : p_166 a0 a1 σ (.inl 0) τ1) (g2 : p_167 a0 a2 τ1 (.inl 0) τ2) (h3 : 0 ≤ a1.toInt ∧ a1.toInt < (τ2.2.1 (q_r (τ2.1 (q_r (τ2.1 a0 2)) 0)) : Int)) (h4 : (q_i (τ2.1 (q_r (τ2.1 (q_r (τ2.1 a0 2)) 0)) a1.toNatClampNeg)).toInt = (-1 : Int)) (g10 : p_16 (q_r (τ2.1 (q_r (τ2.1 a0 2)) 1)) a2 τ2 r10 τ10) (h11 : r10.toInt < (q_i (τ10.1 (q_r (τ10.1 a0 2)) 15)).toInt) (g12 : p_172 a0 (Int32.ofInt (0)) τ10 (.inr 4) τ12) :
    p_128 (a0) (a1) (a2) σ (.inr 4) τ12 := by
  rintro rfl A nf nt nx n Ms K
  have q0 := K.1.q
  obtain ⟨rfl, u, -⟩ := g1
  have u := u rfl
  have hc := K.2.2.2.1
  obtain ⟨rfl, g⟩ := g2
  have u' := (g rfl K.1 A nf K.2.1 hc.1 hc.2.1).1 rfl
  refine ⟨fun w => absurd ⟨u, u'⟩ w, fun x F e1 l1 e2 l2 => ?_⟩
  subst e1
  subst e2
  have l6 : F < 6 := by have := hc.2.1; omega
  have wx := K.2.1.p (hp_h l1)
  have d0 := K.2.1.k hk_0
  have d1 := K.2.1.k hk_1
  have w12 := K.2.1.p (hp_s (k := 12) (by omega) (by omega))
  have nh : (Int32.ofNat x).toNatClampNeg = x := o32n (by omega)
  simp only [q0.2.1, d0, nh, wx] at h4
  simp only [q0.2.1, d1] at g10
  obtain ⟨rfl, g3⟩ := g10
  have x3 := g3 8 A nf rfl K.2.1 hc.1 hc.2.1 F rfl l2
  simp only [q0.2.1, x3, w12] at h11
  obtain ⟨rfl, -, z⟩ := g12
  exact ⟨fun _ => ⟨rfl, rfl⟩, fun q => absurd q.2 (by omega)⟩
theorem sp_128_ennffn (a0 : Nat) (a1 : Int32) (a2 : Int32) (σ : zSg) (τ1 : zSg) (τ2 : zSg) (τ10 : zSg) (r10 : Int32) (τ17 : zSg) (τ18 : zSg) (τ19 : zSg) (τ21 : zSg) (r21 : Int32) (g1 : p_166 a0 a1 σ (.inl 0) τ1) (g2 : p_167 a0 a2 τ1 (.inl 0) τ2) (h3 : 0 ≤ a1.toInt ∧ a1.toInt < (τ2.2.1 (q_r (τ2.1 (q_r (τ2.1 a0 2)) 0)) : Int)) (h4 : (q_i (τ2.1 (q_r (τ2.1 (q_r (τ2.1 a0 2)) 0)) a1.toNatClampNeg)).toInt = (-1 : Int)) (g10 : p_16 (q_r (τ2.1 (q_r (τ2.1 a0 2)) 1)) a2 τ2 r10 τ10) (h11 : r10.toInt ≥ (q_i (τ10.1 (q_r (τ10.1 a0 2)) 15)).toInt) (g17 : p_172 a0 (Int32.ofInt (1)) τ10 (.inl 0) τ17) (g18 : p_62 (q_r (τ17.1 a0 5)) (q_r (τ17.1 a0 2)) τ17 τ18) (g19 : p_17 (q_r (τ18.1 (q_r (τ18.1 a0 2)) 1)) a2 (q_i (τ18.1 (q_r (τ18.1 a0 2)) 15)) τ18 τ19) (h20 : 0 ≤ a1.toInt ∧ a1.toInt < (τ19.2.1 (q_r (τ19.1 (q_r (τ19.1 a0 2)) 0)) : Int)) (g21 : p_16 (q_r ((q_w τ19 (q_r (τ19.1 (q_r (τ19.1 a0 2)) 0)) a1.toNatClampNeg (.int a2)).1 (q_r ((q_w τ19 (q_r (τ19.1 (q_r (τ19.1 a0 2)) 0)) a1.toNatClampNeg (.int a2)).1 a0 2)) 1)) a2 (q_w τ19 (q_r (τ19.1 (q_r (τ19.1 a0 2)) 0)) a1.toNatClampNeg (.int a2)) r21 τ21) :
    p_128 (a0) (a1) (a2) σ (.inl r21) τ21 := by
  rintro rfl A nf nt nx n Ms K
  have q0 := K.1.q
  obtain ⟨rfl, u, -⟩ := g1
  have u := u rfl
  have hc := K.2.2.2.1
  obtain ⟨rfl, g⟩ := g2
  have u' := (g rfl K.1 A nf K.2.1 hc.1 hc.2.1).1 rfl
  refine ⟨fun w => absurd ⟨u, u'⟩ w, fun x F e1 l1 e2 l2 => ?_⟩
  subst e1
  subst e2
  have l6 : F < 6 := by have := hc.2.1; omega
  have wx := K.2.1.p (hp_h l1)
  have d0 := K.2.1.k hk_0
  have d1 := K.2.1.k hk_1
  have w12 := K.2.1.p (hp_s (k := 12) (by omega) (by omega))
  have nh : (Int32.ofNat x).toNatClampNeg = x := o32n (by omega)
  simp only [q0.2.1, d0, nh, wx] at h4
  simp only [q0.2.1, d1] at g10
  obtain ⟨rfl, g3⟩ := g10
  have x3 := g3 8 A nf rfl K.2.1 hc.1 hc.2.1 F rfl l2
  simp only [q0.2.1, x3, w12] at h11
  obtain ⟨rfl, z, -⟩ := g17
  refine ⟨fun q => absurd ⟨Int32.toInt_inj.mp h4, by omega⟩ q, fun _ => ?_⟩
  rw [q0.2.1, q0.2.2.2.2] at g18
  have R := K.kp g18
  have qs := (R.sk K.1).q
  have v1 := R.2.1.k hk_1
  have v12 := R.2.1.p (hp_s (k := 12) (by omega) (by omega))
  simp only [qs.2.1, v1, v12] at g19
  obtain ⟨t1, t2⟩ := g19 8 A nf rfl R.2.1 hc.1 hc.2.1 F rfl l2
  have T1 := R.hs t1 t2
  have qt := (T1.sk K.1).q
  have d2 := T1.2.1.k hk_0
  have T2 := T1.hs (hHF.w (hp_h (b := 8) l1)) (T1.2.1.ww (v := Int32.ofNat F) (hp_h l1))
  have qu := (T2.sk K.1).q
  have d3 := T2.2.1.k hk_1
  simp only [qt.2.1, d2, nh, qu.2.1, d3] at g21
  obtain ⟨rfl, g7⟩ := g21
  have x7 := g7 8 _ nf rfl T2.2.1 (by rw [aU_ne (by omega), aU_ne (by omega)]; exact hc.1) hc.2.1 F rfl l2
  rw [x7, aU_ne (by omega), aU_at]
  exact ⟨rfl, T2⟩
theorem sp_128_ennffx4_ (a0 : Nat) (a1 : Int32) (a2 : Int32) (σ : zSg) (τ1 : zSg) (τ2 : zSg) (τ10 : zSg) (r10 : Int32) (τ17 : zSg) (g1 : p_166 a0 a1 σ (.inl 0) τ1) (g2 : p_167 a0 a2 τ1 (.inl 0) τ2) (h3 : 0 ≤ a1.toInt ∧ a1.toInt < (τ2.2.1 (q_r (τ2.1 (q_r (τ2.1 a0 2)) 0)) : Int)) (h4 : (q_i (τ2.1 (q_r (τ2.1 (q_r (τ2.1 a0 2)) 0)) a1.toNatClampNeg)).toInt = (-1 : Int)) (g10 : p_16 (q_r (τ2.1 (q_r (τ2.1 a0 2)) 1)) a2 τ2 r10 τ10) (h11 : r10.toInt ≥ (q_i (τ10.1 (q_r (τ10.1 a0 2)) 15)).toInt) (g17 : p_172 a0 (Int32.ofInt (1)) τ10 (.inr 4) τ17) :
    p_128 (a0) (a1) (a2) σ (.inr 4) τ17 := by
  rintro rfl A nf nt nx n Ms K
  have q0 := K.1.q
  obtain ⟨rfl, u, -⟩ := g1
  have u := u rfl
  have hc := K.2.2.2.1
  obtain ⟨rfl, g⟩ := g2
  have u' := (g rfl K.1 A nf K.2.1 hc.1 hc.2.1).1 rfl
  refine ⟨fun w => absurd ⟨u, u'⟩ w, fun x F e1 l1 e2 l2 => ?_⟩
  subst e1
  subst e2
  have l6 : F < 6 := by have := hc.2.1; omega
  have wx := K.2.1.p (hp_h l1)
  have d0 := K.2.1.k hk_0
  have d1 := K.2.1.k hk_1
  have w12 := K.2.1.p (hp_s (k := 12) (by omega) (by omega))
  have nh : (Int32.ofNat x).toNatClampNeg = x := o32n (by omega)
  simp only [q0.2.1, d0, nh, wx] at h4
  simp only [q0.2.1, d1] at g10
  obtain ⟨rfl, g3⟩ := g10
  have x3 := g3 8 A nf rfl K.2.1 hc.1 hc.2.1 F rfl l2
  simp only [q0.2.1, x3, w12] at h11
  obtain ⟨rfl, -, z⟩ := g17
  exact absurd (z rfl) (by decide)
theorem sp_128_enx2_ (a0 : Nat) (a1 : Int32) (a2 : Int32) (σ : zSg) (τ1 : zSg) (τ2 : zSg) (g1 : p_166 a0 a1 σ (.inl 0) τ1) (g2 : p_167 a0 a2 τ1 (.inr 2) τ2) :
    p_128 (a0) (a1) (a2) σ (.inr 2) τ2 := by
  rintro rfl A nf nt nx n Ms K
  have q0 := K.1.q
  obtain ⟨rfl, -, -⟩ := g1
  obtain ⟨rfl, g⟩ := g2
  have hc := K.2.2.2.1
  have hs := hc.2.1
  have u := (g rfl K.1 A nf K.2.1 hc.1 hc.2.1).2 rfl
  exact ⟨fun _ => ⟨rfl, rfl⟩, fun x F e1 l1 e2 l2 => absurd (by rw [e2, o32 (by omega)]; omega) u⟩
theorem sp_128_ex2_ (a0 : Nat) (a1 : Int32) (a2 : Int32) (σ : zSg) (τ1 : zSg) (g1 : p_166 a0 a1 σ (.inr 2) τ1) :
    p_128 (a0) (a1) (a2) σ (.inr 2) τ1 := by
  rintro rfl A nf nt nx n Ms K
  have q0 := K.1.q
  obtain ⟨rfl, -, u⟩ := g1
  have u := u rfl
  exact ⟨fun _ => ⟨rfl, rfl⟩, fun x F e1 l1 e2 l2 => absurd (by rw [e1, o32 (by omega)]; omega) u⟩
noncomputable def qP_128 : zPp := fun as σ o σ' => match as with
  | [a0, a1, a2] => (∃ r, o = .inl (some (.int r)) ∧ p_128 (q_r a0) (q_i a1) (q_i a2) σ (.inl r) σ') ∨ (o = .inr 2 ∧ p_128 (q_r a0) (q_i a1) (q_i a2) σ (.inr 2) σ') ∨ (o = .inr 4 ∧ p_128 (q_r a0) (q_i a1) (q_i a2) σ (.inr 4) σ')
  | _ => True
set_option maxRecDepth 100000 in
theorem sp_128 {sx : zX} (S166 : zEe sx 166 2 qP_166) (S167 : zEe sx 167 2 qP_167) (S172 : zEe sx 172 2 qP_172) (S62 : zEe sx 62 2 qP_62) (S17 : zEe sx 17 3 qP_17) (S16 : zEe sx 16 2 qP_16) : zEe sx 128 3 qP_128 := by
  refine zfle zJ_128 (sps := [(166, 2, qP_166), (167, 2, qP_167), (172, 2, qP_172), (62, 2, qP_62), (17, 3, qP_17), (16, 2, qP_16)]) (fun q hq => by
    simp only [List.mem_cons, List.not_mem_nil, or_false] at hq
    rcases hq with rfl | rfl | rfl | rfl | rfl | rfl
    · exact S166
    · exact S167
    · exact S172
    · exact S62
    · exact S17
    · exact S16) (fun as σ hl => ?_)
  match as, hl with
  | [a0, a1, a2], _ =>
  refine ⟨[], 400, ?_, ?_⟩
  · exact fun q hq => absurd hq List.not_mem_nil
  · refine fun o1 τ1 g1 => ?_
    rcases g1 with ⟨rfl, g1⟩ | ⟨rfl, g1⟩
    · refine fun o2 τ2 g2 => ?_
      rcases g2 with ⟨rfl, g2⟩ | ⟨rfl, g2⟩
      · refine fun h3 => ?_
        refine And.intro (fun h4 => ?_) (fun h4 => ?_)
        · refine fun o5 τ5 g5 => ?_
          rcases g5 with ⟨rfl, g5⟩ | ⟨rfl, g5⟩
          · refine fun o6 τ6 g6 => ?_
            obtain ⟨rfl, g6⟩ := g6
            refine fun o7 τ7 g7 => ?_
            obtain ⟨rfl, g7⟩ := g7
            refine fun h8 => ?_
            refine fun o9 τ9 g9 => ?_
            obtain ⟨r9, rfl, g9⟩ := g9
            exact Or.inl ⟨_, rfl, sp_128_enntn (q_r a0) (q_i a1) (q_i a2) σ τ1 τ2 τ5 τ6 τ7 τ9 r9 g1 g2 (q_inp h3) (cm1t h4) g5 g6 g7 (q_inp h8) g9⟩
          · exact Or.inr (Or.inr (⟨rfl, sp_128_enntx4_ (q_r a0) (q_i a1) (q_i a2) σ τ1 τ2 τ5 g1 g2 (q_inp h3) (cm1t h4) g5⟩))
        · refine fun o10 τ10 g10 => ?_
          obtain ⟨r10, rfl, g10⟩ := g10
          refine And.intro (fun h11 => ?_) (fun h11 => ?_)
          · refine fun o12 τ12 g12 => ?_
            rcases g12 with ⟨rfl, g12⟩ | ⟨rfl, g12⟩
            · refine fun o13 τ13 g13 => ?_
              obtain ⟨rfl, g13⟩ := g13
              refine fun o14 τ14 g14 => ?_
              obtain ⟨rfl, g14⟩ := g14
              refine fun h15 => ?_
              refine fun o16 τ16 g16 => ?_
              obtain ⟨r16, rfl, g16⟩ := g16
              exact Or.inl ⟨_, rfl, sp_128_ennftn (q_r a0) (q_i a1) (q_i a2) σ τ1 τ2 τ10 r10 τ12 τ13 τ14 τ16 r16 g1 g2 (q_inp h3) (cm1f h4) g10 (cm2t h11) g12 g13 g14 (q_inp h15) g16⟩
            · exact Or.inr (Or.inr (⟨rfl, sp_128_ennftx4_ (q_r a0) (q_i a1) (q_i a2) σ τ1 τ2 τ10 r10 τ12 g1 g2 (q_inp h3) (cm1f h4) g10 (cm2t h11) g12⟩))
          · refine fun o17 τ17 g17 => ?_
            rcases g17 with ⟨rfl, g17⟩ | ⟨rfl, g17⟩
            · refine fun o18 τ18 g18 => ?_
              obtain ⟨rfl, g18⟩ := g18
              refine fun o19 τ19 g19 => ?_
              obtain ⟨rfl, g19⟩ := g19
              refine fun h20 => ?_
              refine fun o21 τ21 g21 => ?_
              obtain ⟨r21, rfl, g21⟩ := g21
              exact Or.inl ⟨_, rfl, sp_128_ennffn (q_r a0) (q_i a1) (q_i a2) σ τ1 τ2 τ10 r10 τ17 τ18 τ19 τ21 r21 g1 g2 (q_inp h3) (cm1f h4) g10 (cm2f h11) g17 g18 g19 (q_inp h20) g21⟩
            · exact Or.inr (Or.inr (⟨rfl, sp_128_ennffx4_ (q_r a0) (q_i a1) (q_i a2) σ τ1 τ2 τ10 r10 τ17 g1 g2 (q_inp h3) (cm1f h4) g10 (cm2f h11) g17⟩))
      · exact Or.inr (Or.inl (⟨rfl, sp_128_enx2_ (q_r a0) (q_i a1) (q_i a2) σ τ1 τ2 g1 g2⟩))
    · exact Or.inr (Or.inl (⟨rfl, sp_128_ex2_ (q_r a0) (q_i a1) (q_i a2) σ τ1 g1⟩))
theorem zJ_127 : zJ3 127 z_m127 z_c127 z_h127 := ⟨rfl, rfl, rfl⟩
noncomputable def p_127 (a : Nat) (h f : Int32) (σ : zSg) (e : Int32 ⊕ Nat) (σ' : zSg) : Prop := a = 0 → ∀ A nf nt nx n Ms, xA σ A nf nt nx n Ms → (¬ ((0 ≤ h.toInt ∧ h.toInt < 24) ∧ (0 ≤ f.toInt ∧ f.toInt < (nf : Int))) → e = .inr 2 ∧ σ' = σ) ∧ (∀ x F, h = Int32.ofNat x → x < 24 → f = Int32.ofNat F → F < nf → (A (16 + x) = Int32.ofNat F → e = .inr 0 ∧ σ' = σ) ∧ (A (16 + x) ≠ Int32.ofNat F → (¬ (A (16 + x) ≠ Int32.ofInt (-1) ∧ (A 12).toInt ≤ (A (40 + 4 * F)).toInt) → e = .inr 4 ∧ σ' = σ) ∧ ((A (16 + x) ≠ Int32.ofInt (-1) ∧ (A 12).toInt ≤ (A (40 + 4 * F)).toInt) → ∀ G, A (16 + x) = Int32.ofNat G → G < nf → e = .inl (aEn (A (40 + 4 * G)) (A 12)) ∧ xR σ σ' A (aU (aU (aU A (40 + 4 * F) (aPy (A (40 + 4 * F)) (A 12))) (40 + 4 * G) (aEn (A (40 + 4 * G)) (A 12))) (16 + x) (Int32.ofNat F)) nx n Ms)))
theorem sp_127_ennntn (a0 : Nat) (a1 : Int32) (a2 : Int32) (σ : zSg) (τ1 : zSg) (τ2 : zSg) (τ4 : zSg) (τ6 : zSg) (τ7 : zSg) (τ8 : zSg) (τ9 : zSg) (τ11 : zSg) (r11 : Int32) (g1 : p_166 a0 a1 σ (.inl 0) τ1) (g2 : p_167 a0 a2 τ1 (.inl 0) τ2) (h3 : 0 ≤ a1.toInt ∧ a1.toInt < (τ2.2.1 (q_r (τ2.1 (q_r (τ2.1 a0 2)) 0)) : Int)) (g4 : p_171 a0 (q_i (τ2.1 (q_r (τ2.1 (q_r (τ2.1 a0 2)) 0)) a1.toNatClampNeg)) a2 τ2 (.inl 0) τ4) (h5 : (q_i (τ2.1 (q_r (τ2.1 (q_r (τ2.1 a0 2)) 0)) a1.toNatClampNeg)).toInt = (-1 : Int)) (g6 : p_172 a0 (Int32.ofInt (0)) τ4 (.inl 0) τ6) (g7 : p_62 (q_r (τ6.1 a0 5)) (q_r (τ6.1 a0 2)) τ6 τ7) (g8 : p_17 (q_r (τ7.1 (q_r (τ7.1 a0 2)) 1)) a2 (q_i (τ7.1 (q_r (τ7.1 a0 2)) 15)) τ7 τ8) (g9 : p_18 (q_r (τ8.1 (q_r (τ8.1 a0 2)) 1)) (q_i (τ2.1 (q_r (τ2.1 (q_r (τ2.1 a0 2)) 0)) a1.toNatClampNeg)) (q_i (τ8.1 (q_r (τ8.1 a0 2)) 15)) τ8 τ9) (h10 : 0 ≤ a1.toInt ∧ a1.toInt < (τ9.2.1 (q_r (τ9.1 (q_r (τ9.1 a0 2)) 0)) : Int)) (g11 : p_16 (q_r ((q_w τ9 (q_r (τ9.1 (q_r (τ9.1 a0 2)) 0)) a1.toNatClampNeg (.int a2)).1 (q_r ((q_w τ9 (q_r (τ9.1 (q_r (τ9.1 a0 2)) 0)) a1.toNatClampNeg (.int a2)).1 a0 2)) 1)) (q_i (τ2.1 (q_r (τ2.1 (q_r (τ2.1 a0 2)) 0)) a1.toNatClampNeg)) (q_w τ9 (q_r (τ9.1 (q_r (τ9.1 a0 2)) 0)) a1.toNatClampNeg (.int a2)) r11 τ11) :
    p_127 (a0) (a1) (a2) σ (.inl r11) τ11 := by
  rintro rfl A nf nt nx n Ms K
  have q0 := K.1.q
  obtain ⟨rfl, u, -⟩ := g1
  have u := u rfl
  have hc := K.2.2.2.1
  obtain ⟨rfl, g⟩ := g2
  have u' := (g rfl K.1 A nf K.2.1 hc.1 hc.2.1).1 rfl
  obtain ⟨rfl, v, -⟩ := g4
  have v := v rfl
  refine ⟨fun w => absurd ⟨u, u'⟩ w, fun x F e1 l1 e2 l2 => ?_⟩
  subst e1
  subst e2
  have l6 : F < 6 := by have := hc.2.1; omega
  have wx := K.2.1.p (hp_h l1)
  have d0 := K.2.1.k hk_0
  have d1 := K.2.1.k hk_1
  have w12 := K.2.1.p (hp_s (k := 12) (by omega) (by omega))
  have nh : (Int32.ofNat x).toNatClampNeg = x := o32n (by omega)
  simp only [q0.2.1, d0, nh, wx] at v
  refine ⟨fun w => absurd (by rw [w]) v, fun vn => ?_⟩
  simp only [q0.2.1, d0, nh, wx] at h5
  obtain ⟨rfl, z, -⟩ := g6
  exact absurd rfl (z rfl)
theorem sp_127_ennntx4_ (a0 : Nat) (a1 : Int32) (a2 : Int32) (σ : zSg) (τ1 : zSg) (τ2 : zSg) (τ4 : zSg) (τ6 : zSg) (g1 : p_166 a0 a1 σ (.inl 0) τ1) (g2 : p_167 a0 a2 τ1 (.inl 0) τ2) (h3 : 0 ≤ a1.toInt ∧ a1.toInt < (τ2.2.1 (q_r (τ2.1 (q_r (τ2.1 a0 2)) 0)) : Int)) (g4 : p_171 a0 (q_i (τ2.1 (q_r (τ2.1 (q_r (τ2.1 a0 2)) 0)) a1.toNatClampNeg)) a2 τ2 (.inl 0) τ4) (h5 : (q_i (τ2.1 (q_r (τ2.1 (q_r (τ2.1 a0 2)) 0)) a1.toNatClampNeg)).toInt = (-1 : Int)) (g6 : p_172 a0 (Int32.ofInt (0)) τ4 (.inr 4) τ6) :
    p_127 (a0) (a1) (a2) σ (.inr 4) τ6 := by
  rintro rfl A nf nt nx n Ms K
  have q0 := K.1.q
  obtain ⟨rfl, u, -⟩ := g1
  have u := u rfl
  have hc := K.2.2.2.1
  obtain ⟨rfl, g⟩ := g2
  have u' := (g rfl K.1 A nf K.2.1 hc.1 hc.2.1).1 rfl
  obtain ⟨rfl, v, -⟩ := g4
  have v := v rfl
  refine ⟨fun w => absurd ⟨u, u'⟩ w, fun x F e1 l1 e2 l2 => ?_⟩
  subst e1
  subst e2
  have l6 : F < 6 := by have := hc.2.1; omega
  have wx := K.2.1.p (hp_h l1)
  have d0 := K.2.1.k hk_0
  have d1 := K.2.1.k hk_1
  have w12 := K.2.1.p (hp_s (k := 12) (by omega) (by omega))
  have nh : (Int32.ofNat x).toNatClampNeg = x := o32n (by omega)
  simp only [q0.2.1, d0, nh, wx] at v
  refine ⟨fun w => absurd (by rw [w]) v, fun vn => ?_⟩
  simp only [q0.2.1, d0, nh, wx] at h5
  obtain ⟨rfl, -, z⟩ := g6
  exact ⟨fun _ => ⟨rfl, rfl⟩, fun q => absurd (Int32.toInt_inj.mp h5) q.1⟩
theorem sp_127_ennnftn (a0 : Nat) (a1 : Int32) (a2 : Int32) (σ : zSg) (τ1 : zSg) (τ2 : zSg) (τ4 : zSg) (τ12 : zSg) (r12 : Int32) (τ14 : zSg) (τ15 : zSg) (τ16 : zSg) (τ17 : zSg) (τ19 : zSg) (r19 : Int32) (g1 : p_166 a0 a1 σ (.inl 0) τ1) (g2 : p_167 a0 a2 τ1 (.inl 0) τ2) (h3 : 0 ≤ a1.toInt ∧ a1.toInt < (τ2.2.1 (q_r (τ2.1 (q_r (τ2.1 a0 2)) 0)) : Int)) (g4 : p_171 a0 (q_i (τ2.1 (q_r (τ2.1 (q_r (τ2.1 a0 2)) 0)) a1.toNatClampNeg)) a2 τ2 (.inl 0) τ4) (h5 : (q_i (τ2.1 (q_r (τ2.1 (q_r (τ2.1 a0 2)) 0)) a1.toNatClampNeg)).toInt ≠ (-1 : Int)) (g12 : p_16 (q_r (τ4.1 (q_r (τ4.1 a0 2)) 1)) a2 τ4 r12 τ12) (h13 : r12.toInt < (q_i (τ12.1 (q_r (τ12.1 a0 2)) 15)).toInt) (g14 : p_172 a0 (Int32.ofInt (0)) τ12 (.inl 0) τ14) (g15 : p_62 (q_r (τ14.1 a0 5)) (q_r (τ14.1 a0 2)) τ14 τ15) (g16 : p_17 (q_r (τ15.1 (q_r (τ15.1 a0 2)) 1)) a2 (q_i (τ15.1 (q_r (τ15.1 a0 2)) 15)) τ15 τ16) (g17 : p_18 (q_r (τ16.1 (q_r (τ16.1 a0 2)) 1)) (q_i (τ2.1 (q_r (τ2.1 (q_r (τ2.1 a0 2)) 0)) a1.toNatClampNeg)) (q_i (τ16.1 (q_r (τ16.1 a0 2)) 15)) τ16 τ17) (h18 : 0 ≤ a1.toInt ∧ a1.toInt < (τ17.2.1 (q_r (τ17.1 (q_r (τ17.1 a0 2)) 0)) : Int)) (g19 : p_16 (q_r ((q_w τ17 (q_r (τ17.1 (q_r (τ17.1 a0 2)) 0)) a1.toNatClampNeg (.int a2)).1 (q_r ((q_w τ17 (q_r (τ17.1 (q_r (τ17.1 a0 2)) 0)) a1.toNatClampNeg (.int a2)).1 a0 2)) 1)) (q_i (τ2.1 (q_r (τ2.1 (q_r (τ2.1 a0 2)) 0)) a1.toNatClampNeg)) (q_w τ17 (q_r (τ17.1 (q_r (τ17.1 a0 2)) 0)) a1.toNatClampNeg (.int a2)) r19 τ19) :
    p_127 (a0) (a1) (a2) σ (.inl r19) τ19 := by
  rintro rfl A nf nt nx n Ms K
  have q0 := K.1.q
  obtain ⟨rfl, u, -⟩ := g1
  have u := u rfl
  have hc := K.2.2.2.1
  obtain ⟨rfl, g⟩ := g2
  have u' := (g rfl K.1 A nf K.2.1 hc.1 hc.2.1).1 rfl
  obtain ⟨rfl, v, -⟩ := g4
  have v := v rfl
  refine ⟨fun w => absurd ⟨u, u'⟩ w, fun x F e1 l1 e2 l2 => ?_⟩
  subst e1
  subst e2
  have l6 : F < 6 := by have := hc.2.1; omega
  have wx := K.2.1.p (hp_h l1)
  have d0 := K.2.1.k hk_0
  have d1 := K.2.1.k hk_1
  have w12 := K.2.1.p (hp_s (k := 12) (by omega) (by omega))
  have nh : (Int32.ofNat x).toNatClampNeg = x := o32n (by omega)
  simp only [q0.2.1, d0, nh, wx] at v
  refine ⟨fun w => absurd (by rw [w]) v, fun vn => ?_⟩
  simp only [q0.2.1, d0, nh, wx] at h5
  simp only [q0.2.1, d1] at g12
  obtain ⟨rfl, g3⟩ := g12
  have x3 := g3 8 A nf rfl K.2.1 hc.1 hc.2.1 F rfl l2
  simp only [q0.2.1, x3, w12] at h13
  obtain ⟨rfl, z, -⟩ := g14
  exact absurd rfl (z rfl)
theorem sp_127_ennnftx4_ (a0 : Nat) (a1 : Int32) (a2 : Int32) (σ : zSg) (τ1 : zSg) (τ2 : zSg) (τ4 : zSg) (τ12 : zSg) (r12 : Int32) (τ14 : zSg) (g1 : p_166 a0 a1 σ (.inl 0) τ1) (g2 : p_167 a0 a2 τ1 (.inl 0) τ2) (h3 : 0 ≤ a1.toInt ∧ a1.toInt < (τ2.2.1 (q_r (τ2.1 (q_r (τ2.1 a0 2)) 0)) : Int)) (g4 : p_171 a0 (q_i (τ2.1 (q_r (τ2.1 (q_r (τ2.1 a0 2)) 0)) a1.toNatClampNeg)) a2 τ2 (.inl 0) τ4) (h5 : (q_i (τ2.1 (q_r (τ2.1 (q_r (τ2.1 a0 2)) 0)) a1.toNatClampNeg)).toInt ≠ (-1 : Int)) (g12 : p_16 (q_r (τ4.1 (q_r (τ4.1 a0 2)) 1)) a2 τ4 r12 τ12) (h13 : r12.toInt < (q_i (τ12.1 (q_r (τ12.1 a0 2)) 15)).toInt) (g14 : p_172 a0 (Int32.ofInt (0)) τ12 (.inr 4) τ14) :
    p_127 (a0) (a1) (a2) σ (.inr 4) τ14 := by
  rintro rfl A nf nt nx n Ms K
  have q0 := K.1.q
  obtain ⟨rfl, u, -⟩ := g1
  have u := u rfl
  have hc := K.2.2.2.1
  obtain ⟨rfl, g⟩ := g2
  have u' := (g rfl K.1 A nf K.2.1 hc.1 hc.2.1).1 rfl
  obtain ⟨rfl, v, -⟩ := g4
  have v := v rfl
  refine ⟨fun w => absurd ⟨u, u'⟩ w, fun x F e1 l1 e2 l2 => ?_⟩
  subst e1
  subst e2
  have l6 : F < 6 := by have := hc.2.1; omega
  have wx := K.2.1.p (hp_h l1)
  have d0 := K.2.1.k hk_0
  have d1 := K.2.1.k hk_1
  have w12 := K.2.1.p (hp_s (k := 12) (by omega) (by omega))
  have nh : (Int32.ofNat x).toNatClampNeg = x := o32n (by omega)
  simp only [q0.2.1, d0, nh, wx] at v
  refine ⟨fun w => absurd (by rw [w]) v, fun vn => ?_⟩
  simp only [q0.2.1, d0, nh, wx] at h5
  simp only [q0.2.1, d1] at g12
  obtain ⟨rfl, g3⟩ := g12
  have x3 := g3 8 A nf rfl K.2.1 hc.1 hc.2.1 F rfl l2
  simp only [q0.2.1, x3, w12] at h13
  obtain ⟨rfl, -, z⟩ := g14
  exact ⟨fun _ => ⟨rfl, rfl⟩, fun q => absurd q.2 (by omega)⟩
theorem sp_127_ennnffn (a0 : Nat) (a1 : Int32) (a2 : Int32) (σ : zSg) (τ1 : zSg) (τ2 : zSg) (τ4 : zSg) (τ12 : zSg) (r12 : Int32) (τ20 : zSg) (τ21 : zSg) (τ22 : zSg) (τ23 : zSg) (τ25 : zSg) (r25 : Int32) (g1 : p_166 a0 a1 σ (.inl 0) τ1) (g2 : p_167 a0 a2 τ1 (.inl 0) τ2) (h3 : 0 ≤ a1.toInt ∧ a1.toInt < (τ2.2.1 (q_r (τ2.1 (q_r (τ2.1 a0 2)) 0)) : Int)) (g4 : p_171 a0 (q_i (τ2.1 (q_r (τ2.1 (q_r (τ2.1 a0 2)) 0)) a1.toNatClampNeg)) a2 τ2 (.inl 0) τ4) (h5 : (q_i (τ2.1 (q_r (τ2.1 (q_r (τ2.1 a0 2)) 0)) a1.toNatClampNeg)).toInt ≠ (-1 : Int)) (g12 : p_16 (q_r (τ4.1 (q_r (τ4.1 a0 2)) 1)) a2 τ4 r12 τ12) (h13 : r12.toInt ≥ (q_i (τ12.1 (q_r (τ12.1 a0 2)) 15)).toInt) (g20 : p_172 a0 (Int32.ofInt (1)) τ12 (.inl 0) τ20) (g21 : p_62 (q_r (τ20.1 a0 5)) (q_r (τ20.1 a0 2)) τ20 τ21) (g22 : p_17 (q_r (τ21.1 (q_r (τ21.1 a0 2)) 1)) a2 (q_i (τ21.1 (q_r (τ21.1 a0 2)) 15)) τ21 τ22) (g23 : p_18 (q_r (τ22.1 (q_r (τ22.1 a0 2)) 1)) (q_i (τ2.1 (q_r (τ2.1 (q_r (τ2.1 a0 2)) 0)) a1.toNatClampNeg)) (q_i (τ22.1 (q_r (τ22.1 a0 2)) 15)) τ22 τ23) (h24 : 0 ≤ a1.toInt ∧ a1.toInt < (τ23.2.1 (q_r (τ23.1 (q_r (τ23.1 a0 2)) 0)) : Int)) (g25 : p_16 (q_r ((q_w τ23 (q_r (τ23.1 (q_r (τ23.1 a0 2)) 0)) a1.toNatClampNeg (.int a2)).1 (q_r ((q_w τ23 (q_r (τ23.1 (q_r (τ23.1 a0 2)) 0)) a1.toNatClampNeg (.int a2)).1 a0 2)) 1)) (q_i (τ2.1 (q_r (τ2.1 (q_r (τ2.1 a0 2)) 0)) a1.toNatClampNeg)) (q_w τ23 (q_r (τ23.1 (q_r (τ23.1 a0 2)) 0)) a1.toNatClampNeg (.int a2)) r25 τ25) :
    p_127 (a0) (a1) (a2) σ (.inl r25) τ25 := by
  rintro rfl A nf nt nx n Ms K
  have q0 := K.1.q
  obtain ⟨rfl, u, -⟩ := g1
  have u := u rfl
  have hc := K.2.2.2.1
  obtain ⟨rfl, g⟩ := g2
  have u' := (g rfl K.1 A nf K.2.1 hc.1 hc.2.1).1 rfl
  obtain ⟨rfl, v, -⟩ := g4
  have v := v rfl
  refine ⟨fun w => absurd ⟨u, u'⟩ w, fun x F e1 l1 e2 l2 => ?_⟩
  subst e1
  subst e2
  have l6 : F < 6 := by have := hc.2.1; omega
  have wx := K.2.1.p (hp_h l1)
  have d0 := K.2.1.k hk_0
  have d1 := K.2.1.k hk_1
  have w12 := K.2.1.p (hp_s (k := 12) (by omega) (by omega))
  have nh : (Int32.ofNat x).toNatClampNeg = x := o32n (by omega)
  simp only [q0.2.1, d0, nh, wx] at v
  refine ⟨fun w => absurd (by rw [w]) v, fun vn => ?_⟩
  simp only [q0.2.1, d0, nh, wx] at h5
  simp only [q0.2.1, d1] at g12
  obtain ⟨rfl, g3⟩ := g12
  have x3 := g3 8 A nf rfl K.2.1 hc.1 hc.2.1 F rfl l2
  simp only [q0.2.1, x3, w12] at h13
  obtain ⟨rfl, z, -⟩ := g20
  refine ⟨fun q => absurd ⟨fun w => h5 (by rw [w]; rfl), by omega⟩ q, fun _ G eG lG => ?_⟩
  have GF : G ≠ F := fun w => vn (by rw [eG, w])
  have l6' : G < 6 := by have := hc.2.1; omega
  rw [q0.2.1, q0.2.2.2.2] at g21
  have R := K.kp g21
  have qs := (R.sk K.1).q
  have v1 := R.2.1.k hk_1
  have v12 := R.2.1.p (hp_s (k := 12) (by omega) (by omega))
  simp only [qs.2.1, v1, v12] at g22
  obtain ⟨t1, t2⟩ := g22 8 A nf rfl R.2.1 hc.1 hc.2.1 F rfl l2
  have T1 := R.hs t1 t2
  have qt := (T1.sk K.1).q
  have y1 := T1.2.1.k hk_1
  have y12 := (T1.2.1.p (hp_s (k := 12) (by omega) (by omega))).trans (aU_ne (by omega))
  simp only [q0.2.1, d0, nh, wx, qt.2.1, y1, y12, eG] at g23
  obtain ⟨t3, t4⟩ := g23 8 _ nf rfl T1.2.1 (by rw [aU_ne (by omega)]; exact hc.1) hc.2.1 G rfl lG
  rw [aU_ne (show 40 + 4 * G ≠ 40 + 4 * F by omega)] at t4
  have T2 := T1.hs t3 t4
  have qu := (T2.sk K.1).q
  have d2 := T2.2.1.k hk_0
  have T3 := T2.hs (hHF.w (hp_h (b := 8) l1)) (T2.2.1.ww (v := Int32.ofNat F) (hp_h l1))
  have qv := (T3.sk K.1).q
  have d3 := T3.2.1.k hk_1
  simp only [q0.2.1, d0, wx, eG, qu.2.1, d2, nh, qv.2.1, d3] at g25
  obtain ⟨rfl, g9⟩ := g25
  have x9 := g9 8 _ nf rfl T3.2.1 (by rw [aU_ne (by omega), aU_ne (by omega), aU_ne (by omega)]; exact hc.1) hc.2.1 G rfl lG
  rw [x9, aU_ne (by omega), aU_at]
  exact ⟨rfl, T3⟩
theorem sp_127_ennnffx4_ (a0 : Nat) (a1 : Int32) (a2 : Int32) (σ : zSg) (τ1 : zSg) (τ2 : zSg) (τ4 : zSg) (τ12 : zSg) (r12 : Int32) (τ20 : zSg) (g1 : p_166 a0 a1 σ (.inl 0) τ1) (g2 : p_167 a0 a2 τ1 (.inl 0) τ2) (h3 : 0 ≤ a1.toInt ∧ a1.toInt < (τ2.2.1 (q_r (τ2.1 (q_r (τ2.1 a0 2)) 0)) : Int)) (g4 : p_171 a0 (q_i (τ2.1 (q_r (τ2.1 (q_r (τ2.1 a0 2)) 0)) a1.toNatClampNeg)) a2 τ2 (.inl 0) τ4) (h5 : (q_i (τ2.1 (q_r (τ2.1 (q_r (τ2.1 a0 2)) 0)) a1.toNatClampNeg)).toInt ≠ (-1 : Int)) (g12 : p_16 (q_r (τ4.1 (q_r (τ4.1 a0 2)) 1)) a2 τ4 r12 τ12) (h13 : r12.toInt ≥ (q_i (τ12.1 (q_r (τ12.1 a0 2)) 15)).toInt) (g20 : p_172 a0 (Int32.ofInt (1)) τ12 (.inr 4) τ20) :
    p_127 (a0) (a1) (a2) σ (.inr 4) τ20 := by
  rintro rfl A nf nt nx n Ms K
  have q0 := K.1.q
  obtain ⟨rfl, u, -⟩ := g1
  have u := u rfl
  have hc := K.2.2.2.1
  obtain ⟨rfl, g⟩ := g2
  have u' := (g rfl K.1 A nf K.2.1 hc.1 hc.2.1).1 rfl
  obtain ⟨rfl, v, -⟩ := g4
  have v := v rfl
  refine ⟨fun w => absurd ⟨u, u'⟩ w, fun x F e1 l1 e2 l2 => ?_⟩
  subst e1
  subst e2
  have l6 : F < 6 := by have := hc.2.1; omega
  have wx := K.2.1.p (hp_h l1)
  have d0 := K.2.1.k hk_0
  have d1 := K.2.1.k hk_1
  have w12 := K.2.1.p (hp_s (k := 12) (by omega) (by omega))
  have nh : (Int32.ofNat x).toNatClampNeg = x := o32n (by omega)
  simp only [q0.2.1, d0, nh, wx] at v
  refine ⟨fun w => absurd (by rw [w]) v, fun vn => ?_⟩
  simp only [q0.2.1, d0, nh, wx] at h5
  simp only [q0.2.1, d1] at g12
  obtain ⟨rfl, g3⟩ := g12
  have x3 := g3 8 A nf rfl K.2.1 hc.1 hc.2.1 F rfl l2
  simp only [q0.2.1, x3, w12] at h13
  obtain ⟨rfl, -, z⟩ := g20
  exact absurd (z rfl) (by decide)
theorem sp_127_ennx0_ (a0 : Nat) (a1 : Int32) (a2 : Int32) (σ : zSg) (τ1 : zSg) (τ2 : zSg) (τ4 : zSg) (g1 : p_166 a0 a1 σ (.inl 0) τ1) (g2 : p_167 a0 a2 τ1 (.inl 0) τ2) (h3 : 0 ≤ a1.toInt ∧ a1.toInt < (τ2.2.1 (q_r (τ2.1 (q_r (τ2.1 a0 2)) 0)) : Int)) (g4 : p_171 a0 (q_i (τ2.1 (q_r (τ2.1 (q_r (τ2.1 a0 2)) 0)) a1.toNatClampNeg)) a2 τ2 (.inr 0) τ4) :
    p_127 (a0) (a1) (a2) σ (.inr 0) τ4 := by
  rintro rfl A nf nt nx n Ms K
  have q0 := K.1.q
  obtain ⟨rfl, u, -⟩ := g1
  have u := u rfl
  have hc := K.2.2.2.1
  obtain ⟨rfl, g⟩ := g2
  have u' := (g rfl K.1 A nf K.2.1 hc.1 hc.2.1).1 rfl
  obtain ⟨rfl, -, v⟩ := g4
  have v := v rfl
  refine ⟨fun w => absurd ⟨u, u'⟩ w, fun x F e1 l1 e2 l2 => ?_⟩
  subst e1
  subst e2
  have l6 : F < 6 := by have := hc.2.1; omega
  have wx := K.2.1.p (hp_h l1)
  have d0 := K.2.1.k hk_0
  have d1 := K.2.1.k hk_1
  have w12 := K.2.1.p (hp_s (k := 12) (by omega) (by omega))
  have nh : (Int32.ofNat x).toNatClampNeg = x := o32n (by omega)
  simp only [q0.2.1, d0, nh, wx] at v
  exact ⟨fun _ => ⟨rfl, rfl⟩, fun vn => absurd (Int32.toInt_inj.mp v) vn⟩
theorem sp_127_enx2_ (a0 : Nat) (a1 : Int32) (a2 : Int32) (σ : zSg) (τ1 : zSg) (τ2 : zSg) (g1 : p_166 a0 a1 σ (.inl 0) τ1) (g2 : p_167 a0 a2 τ1 (.inr 2) τ2) :
    p_127 (a0) (a1) (a2) σ (.inr 2) τ2 := by
  rintro rfl A nf nt nx n Ms K
  have q0 := K.1.q
  obtain ⟨rfl, -, -⟩ := g1
  obtain ⟨rfl, g⟩ := g2
  have hc := K.2.2.2.1
  have hs := hc.2.1
  have u := (g rfl K.1 A nf K.2.1 hc.1 hc.2.1).2 rfl
  exact ⟨fun _ => ⟨rfl, rfl⟩, fun x F e1 l1 e2 l2 => absurd (by rw [e2, o32 (by omega)]; omega) u⟩
theorem sp_127_ex2_ (a0 : Nat) (a1 : Int32) (a2 : Int32) (σ : zSg) (τ1 : zSg) (g1 : p_166 a0 a1 σ (.inr 2) τ1) :
    p_127 (a0) (a1) (a2) σ (.inr 2) τ1 := by
  rintro rfl A nf nt nx n Ms K
  have q0 := K.1.q
  obtain ⟨rfl, -, u⟩ := g1
  have u := u rfl
  exact ⟨fun _ => ⟨rfl, rfl⟩, fun x F e1 l1 e2 l2 => absurd (by rw [e1, o32 (by omega)]; omega) u⟩
noncomputable def qP_127 : zPp := fun as σ o σ' => match as with
  | [a0, a1, a2] => (∃ r, o = .inl (some (.int r)) ∧ p_127 (q_r a0) (q_i a1) (q_i a2) σ (.inl r) σ') ∨ (o = .inr 2 ∧ p_127 (q_r a0) (q_i a1) (q_i a2) σ (.inr 2) σ') ∨ (o = .inr 0 ∧ p_127 (q_r a0) (q_i a1) (q_i a2) σ (.inr 0) σ') ∨ (o = .inr 4 ∧ p_127 (q_r a0) (q_i a1) (q_i a2) σ (.inr 4) σ')
  | _ => True
set_option maxRecDepth 100000 in
theorem sp_127 {sx : zX} (S166 : zEe sx 166 2 qP_166) (S167 : zEe sx 167 2 qP_167) (S171 : zEe sx 171 3 qP_171) (S172 : zEe sx 172 2 qP_172) (S62 : zEe sx 62 2 qP_62) (S17 : zEe sx 17 3 qP_17) (S18 : zEe sx 18 3 qP_18) (S16 : zEe sx 16 2 qP_16) : zEe sx 127 3 qP_127 := by
  refine zfle zJ_127 (sps := [(166, 2, qP_166), (167, 2, qP_167), (171, 3, qP_171), (172, 2, qP_172), (62, 2, qP_62), (17, 3, qP_17), (18, 3, qP_18), (16, 2, qP_16)]) (fun q hq => by
    simp only [List.mem_cons, List.not_mem_nil, or_false] at hq
    rcases hq with rfl | rfl | rfl | rfl | rfl | rfl | rfl | rfl
    · exact S166
    · exact S167
    · exact S171
    · exact S172
    · exact S62
    · exact S17
    · exact S18
    · exact S16) (fun as σ hl => ?_)
  match as, hl with
  | [a0, a1, a2], _ =>
  refine ⟨[], 400, ?_, ?_⟩
  · exact fun q hq => absurd hq List.not_mem_nil
  · refine fun o1 τ1 g1 => ?_
    rcases g1 with ⟨rfl, g1⟩ | ⟨rfl, g1⟩
    · refine fun o2 τ2 g2 => ?_
      rcases g2 with ⟨rfl, g2⟩ | ⟨rfl, g2⟩
      · refine fun h3 => ?_
        refine fun o4 τ4 g4 => ?_
        rcases g4 with ⟨rfl, g4⟩ | ⟨rfl, g4⟩
        · refine And.intro (fun h5 => ?_) (fun h5 => ?_)
          · refine fun o6 τ6 g6 => ?_
            rcases g6 with ⟨rfl, g6⟩ | ⟨rfl, g6⟩
            · refine fun o7 τ7 g7 => ?_
              obtain ⟨rfl, g7⟩ := g7
              refine fun o8 τ8 g8 => ?_
              obtain ⟨rfl, g8⟩ := g8
              refine fun o9 τ9 g9 => ?_
              obtain ⟨rfl, g9⟩ := g9
              refine fun h10 => ?_
              refine fun o11 τ11 g11 => ?_
              obtain ⟨r11, rfl, g11⟩ := g11
              exact Or.inl ⟨_, rfl, sp_127_ennntn (q_r a0) (q_i a1) (q_i a2) σ τ1 τ2 τ4 τ6 τ7 τ8 τ9 τ11 r11 g1 g2 (q_inp h3) g4 (cm0t h5) g6 g7 g8 g9 (q_inp h10) g11⟩
            · exact Or.inr (Or.inr (Or.inr (⟨rfl, sp_127_ennntx4_ (q_r a0) (q_i a1) (q_i a2) σ τ1 τ2 τ4 τ6 g1 g2 (q_inp h3) g4 (cm0t h5) g6⟩)))
          · refine fun o12 τ12 g12 => ?_
            obtain ⟨r12, rfl, g12⟩ := g12
            refine And.intro (fun h13 => ?_) (fun h13 => ?_)
            · refine fun o14 τ14 g14 => ?_
              rcases g14 with ⟨rfl, g14⟩ | ⟨rfl, g14⟩
              · refine fun o15 τ15 g15 => ?_
                obtain ⟨rfl, g15⟩ := g15
                refine fun o16 τ16 g16 => ?_
                obtain ⟨rfl, g16⟩ := g16
                refine fun o17 τ17 g17 => ?_
                obtain ⟨rfl, g17⟩ := g17
                refine fun h18 => ?_
                refine fun o19 τ19 g19 => ?_
                obtain ⟨r19, rfl, g19⟩ := g19
                exact Or.inl ⟨_, rfl, sp_127_ennnftn (q_r a0) (q_i a1) (q_i a2) σ τ1 τ2 τ4 τ12 r12 τ14 τ15 τ16 τ17 τ19 r19 g1 g2 (q_inp h3) g4 (cm0f h5) g12 (cm2t h13) g14 g15 g16 g17 (q_inp h18) g19⟩
              · exact Or.inr (Or.inr (Or.inr (⟨rfl, sp_127_ennnftx4_ (q_r a0) (q_i a1) (q_i a2) σ τ1 τ2 τ4 τ12 r12 τ14 g1 g2 (q_inp h3) g4 (cm0f h5) g12 (cm2t h13) g14⟩)))
            · refine fun o20 τ20 g20 => ?_
              rcases g20 with ⟨rfl, g20⟩ | ⟨rfl, g20⟩
              · refine fun o21 τ21 g21 => ?_
                obtain ⟨rfl, g21⟩ := g21
                refine fun o22 τ22 g22 => ?_
                obtain ⟨rfl, g22⟩ := g22
                refine fun o23 τ23 g23 => ?_
                obtain ⟨rfl, g23⟩ := g23
                refine fun h24 => ?_
                refine fun o25 τ25 g25 => ?_
                obtain ⟨r25, rfl, g25⟩ := g25
                exact Or.inl ⟨_, rfl, sp_127_ennnffn (q_r a0) (q_i a1) (q_i a2) σ τ1 τ2 τ4 τ12 r12 τ20 τ21 τ22 τ23 τ25 r25 g1 g2 (q_inp h3) g4 (cm0f h5) g12 (cm2f h13) g20 g21 g22 g23 (q_inp h24) g25⟩
              · exact Or.inr (Or.inr (Or.inr (⟨rfl, sp_127_ennnffx4_ (q_r a0) (q_i a1) (q_i a2) σ τ1 τ2 τ4 τ12 r12 τ20 g1 g2 (q_inp h3) g4 (cm0f h5) g12 (cm2f h13) g20⟩)))
        · exact Or.inr (Or.inr (Or.inl (⟨rfl, sp_127_ennx0_ (q_r a0) (q_i a1) (q_i a2) σ τ1 τ2 τ4 g1 g2 (q_inp h3) g4⟩)))
      · exact Or.inr (Or.inl (⟨rfl, sp_127_enx2_ (q_r a0) (q_i a1) (q_i a2) σ τ1 τ2 g1 g2⟩))
    · exact Or.inr (Or.inl (⟨rfl, sp_127_ex2_ (q_r a0) (q_i a1) (q_i a2) σ τ1 g1⟩))
theorem zJ_131 : zJ3 131 z_m131 z_c131 z_h131 := ⟨rfl, rfl, rfl⟩
noncomputable def p_131 (a : Nat) (t : Int32) (σ : zSg) (e : Int32 ⊕ Nat) (σ' : zSg) : Prop := a = 0 → ∀ A nf nt nx n Ms, xA σ A nf nt nx n Ms → (¬ (0 ≤ t.toInt ∧ t.toInt < (nt : Int)) → e = .inr 2 ∧ σ' = σ) ∧ (∀ x, t = Int32.ofNat x → x < nt → ∀ i4, A 4 = Int32.ofNat i4 → i4 < 24 → (¬ (A (64 + 3 * x) = A (16 + i4) ∧ A (66 + 3 * x) = Int32.ofInt 0) → e = .inr 4 ∧ σ' = σ) ∧ ((A (64 + 3 * x) = A (16 + i4) ∧ A (66 + 3 * x) = Int32.ofInt 0) → e = .inl (aBo (aU A (66 + 3 * x) (Int32.ofInt 1)) (Int32.ofInt (-1)) nt) ∧ xR σ σ' A (aU A (66 + 3 * x) (Int32.ofInt 1)) nx n Ms))
theorem sp_131_entn (a0 : Nat) (a1 : Int32) (σ : zSg) (τ1 : zSg) (τ3 : zSg) (r3 : Int32) (τ5 : zSg) (τ6 : zSg) (τ7 : zSg) (τ8 : zSg) (r8 : Int32) (g1 : p_168 a0 a1 σ (.inl 0) τ1) (h2 : 0 ≤ a1.toInt ∧ a1.toInt < (τ1.2.1 (q_r (τ1.1 (q_r (τ1.1 (q_r (τ1.1 a0 2)) 2)) 0)) : Int)) (g3 : p_27 (q_r (τ1.1 a0 2)) τ1 r3 τ3) (h4 : (q_i (τ1.1 (q_r (τ1.1 (q_r (τ1.1 (q_r (τ1.1 a0 2)) 2)) 0)) a1.toNatClampNeg)).toInt ≠ r3.toInt) (g5 : p_172 a0 (Int32.ofInt (0)) τ3 (.inl 0) τ5) (g6 : p_62 (q_r (τ5.1 a0 5)) (q_r (τ5.1 a0 2)) τ5 τ6) (g7 : p_106 (q_r (τ6.1 (q_r (τ6.1 a0 2)) 2)) a1 τ6 τ7) (g8 : p_108 (q_r (τ7.1 (q_r (τ7.1 a0 2)) 2)) τ7 r8 τ8) :
    p_131 (a0) (a1) σ (.inl r8) τ8 := by
  rintro rfl A nf nt nx n Ms K
  have q0 := K.1.q
  obtain ⟨rfl, g⟩ := g1
  have hc := K.2.2.2.1
  have u := (g rfl K.1 A nt K.2.1 hc.2.2.1 hc.2.2.2.1).1 rfl
  refine ⟨fun w => absurd u w, fun x e1 l1 i4 e4 l4 => ?_⟩
  subst e1
  have l8 : x < 8 := by have := hc.2.2.2.1; omega
  have wo := K.2.1.p (hp_o l8)
  have d2 := K.2.1.k hk_2
  have d0 := K.2.1.k hk_t0
  have nh : (Int32.ofNat x).toNatClampNeg = x := o32n (by omega)
  obtain ⟨rfl, gi⟩ := g3
  simp only [q0.2.1] at gi
  have xi := gi A i4 K.2.1 e4 l4
  simp only [q0.2.1, d2, d0, nh, wo, xi] at h4
  obtain ⟨rfl, z, -⟩ := g5
  exact absurd rfl (z rfl)
theorem sp_131_entx4_ (a0 : Nat) (a1 : Int32) (σ : zSg) (τ1 : zSg) (τ3 : zSg) (r3 : Int32) (τ5 : zSg) (g1 : p_168 a0 a1 σ (.inl 0) τ1) (h2 : 0 ≤ a1.toInt ∧ a1.toInt < (τ1.2.1 (q_r (τ1.1 (q_r (τ1.1 (q_r (τ1.1 a0 2)) 2)) 0)) : Int)) (g3 : p_27 (q_r (τ1.1 a0 2)) τ1 r3 τ3) (h4 : (q_i (τ1.1 (q_r (τ1.1 (q_r (τ1.1 (q_r (τ1.1 a0 2)) 2)) 0)) a1.toNatClampNeg)).toInt ≠ r3.toInt) (g5 : p_172 a0 (Int32.ofInt (0)) τ3 (.inr 4) τ5) :
    p_131 (a0) (a1) σ (.inr 4) τ5 := by
  rintro rfl A nf nt nx n Ms K
  have q0 := K.1.q
  obtain ⟨rfl, g⟩ := g1
  have hc := K.2.2.2.1
  have u := (g rfl K.1 A nt K.2.1 hc.2.2.1 hc.2.2.2.1).1 rfl
  refine ⟨fun w => absurd u w, fun x e1 l1 i4 e4 l4 => ?_⟩
  subst e1
  have l8 : x < 8 := by have := hc.2.2.2.1; omega
  have wo := K.2.1.p (hp_o l8)
  have d2 := K.2.1.k hk_2
  have d0 := K.2.1.k hk_t0
  have nh : (Int32.ofNat x).toNatClampNeg = x := o32n (by omega)
  obtain ⟨rfl, gi⟩ := g3
  simp only [q0.2.1] at gi
  have xi := gi A i4 K.2.1 e4 l4
  simp only [q0.2.1, d2, d0, nh, wo, xi] at h4
  obtain ⟨rfl, -, z⟩ := g5
  exact ⟨fun _ => ⟨rfl, rfl⟩, fun q => absurd (by rw [q.1]) h4⟩
theorem sp_131_enftn (a0 : Nat) (a1 : Int32) (σ : zSg) (τ1 : zSg) (τ3 : zSg) (r3 : Int32) (τ9 : zSg) (r9 : Int32) (τ11 : zSg) (τ12 : zSg) (τ13 : zSg) (τ14 : zSg) (r14 : Int32) (g1 : p_168 a0 a1 σ (.inl 0) τ1) (h2 : 0 ≤ a1.toInt ∧ a1.toInt < (τ1.2.1 (q_r (τ1.1 (q_r (τ1.1 (q_r (τ1.1 a0 2)) 2)) 0)) : Int)) (g3 : p_27 (q_r (τ1.1 a0 2)) τ1 r3 τ3) (h4 : (q_i (τ1.1 (q_r (τ1.1 (q_r (τ1.1 (q_r (τ1.1 a0 2)) 2)) 0)) a1.toNatClampNeg)).toInt = r3.toInt) (g9 : p_105 (q_r (τ3.1 (q_r (τ3.1 a0 2)) 2)) a1 τ3 r9 τ9) (h10 : r9.toInt ≠ (0 : Int)) (g11 : p_172 a0 (Int32.ofInt (0)) τ9 (.inl 0) τ11) (g12 : p_62 (q_r (τ11.1 a0 5)) (q_r (τ11.1 a0 2)) τ11 τ12) (g13 : p_106 (q_r (τ12.1 (q_r (τ12.1 a0 2)) 2)) a1 τ12 τ13) (g14 : p_108 (q_r (τ13.1 (q_r (τ13.1 a0 2)) 2)) τ13 r14 τ14) :
    p_131 (a0) (a1) σ (.inl r14) τ14 := by
  rintro rfl A nf nt nx n Ms K
  have q0 := K.1.q
  obtain ⟨rfl, g⟩ := g1
  have hc := K.2.2.2.1
  have u := (g rfl K.1 A nt K.2.1 hc.2.2.1 hc.2.2.2.1).1 rfl
  refine ⟨fun w => absurd u w, fun x e1 l1 i4 e4 l4 => ?_⟩
  subst e1
  have l8 : x < 8 := by have := hc.2.2.2.1; omega
  have wo := K.2.1.p (hp_o l8)
  have d2 := K.2.1.k hk_2
  have d0 := K.2.1.k hk_t0
  have nh : (Int32.ofNat x).toNatClampNeg = x := o32n (by omega)
  obtain ⟨rfl, gi⟩ := g3
  simp only [q0.2.1] at gi
  have xi := gi A i4 K.2.1 e4 l4
  simp only [q0.2.1, d2, d0, nh, wo, xi] at h4
  simp only [q0.2.1, d2] at g9
  obtain ⟨rfl, g3⟩ := g9
  have x3 := g3 8 A rfl K.2.1 x rfl l8
  rw [x3] at h10
  obtain ⟨rfl, z, -⟩ := g11
  exact absurd rfl (z rfl)
theorem sp_131_enftx4_ (a0 : Nat) (a1 : Int32) (σ : zSg) (τ1 : zSg) (τ3 : zSg) (r3 : Int32) (τ9 : zSg) (r9 : Int32) (τ11 : zSg) (g1 : p_168 a0 a1 σ (.inl 0) τ1) (h2 : 0 ≤ a1.toInt ∧ a1.toInt < (τ1.2.1 (q_r (τ1.1 (q_r (τ1.1 (q_r (τ1.1 a0 2)) 2)) 0)) : Int)) (g3 : p_27 (q_r (τ1.1 a0 2)) τ1 r3 τ3) (h4 : (q_i (τ1.1 (q_r (τ1.1 (q_r (τ1.1 (q_r (τ1.1 a0 2)) 2)) 0)) a1.toNatClampNeg)).toInt = r3.toInt) (g9 : p_105 (q_r (τ3.1 (q_r (τ3.1 a0 2)) 2)) a1 τ3 r9 τ9) (h10 : r9.toInt ≠ (0 : Int)) (g11 : p_172 a0 (Int32.ofInt (0)) τ9 (.inr 4) τ11) :
    p_131 (a0) (a1) σ (.inr 4) τ11 := by
  rintro rfl A nf nt nx n Ms K
  have q0 := K.1.q
  obtain ⟨rfl, g⟩ := g1
  have hc := K.2.2.2.1
  have u := (g rfl K.1 A nt K.2.1 hc.2.2.1 hc.2.2.2.1).1 rfl
  refine ⟨fun w => absurd u w, fun x e1 l1 i4 e4 l4 => ?_⟩
  subst e1
  have l8 : x < 8 := by have := hc.2.2.2.1; omega
  have wo := K.2.1.p (hp_o l8)
  have d2 := K.2.1.k hk_2
  have d0 := K.2.1.k hk_t0
  have nh : (Int32.ofNat x).toNatClampNeg = x := o32n (by omega)
  obtain ⟨rfl, gi⟩ := g3
  simp only [q0.2.1] at gi
  have xi := gi A i4 K.2.1 e4 l4
  simp only [q0.2.1, d2, d0, nh, wo, xi] at h4
  simp only [q0.2.1, d2] at g9
  obtain ⟨rfl, g3⟩ := g9
  have x3 := g3 8 A rfl K.2.1 x rfl l8
  rw [x3] at h10
  obtain ⟨rfl, -, z⟩ := g11
  exact ⟨fun _ => ⟨rfl, rfl⟩, fun q => absurd (by rw [q.2]; rfl) h10⟩
theorem sp_131_enffn (a0 : Nat) (a1 : Int32) (σ : zSg) (τ1 : zSg) (τ3 : zSg) (r3 : Int32) (τ9 : zSg) (r9 : Int32) (τ15 : zSg) (τ16 : zSg) (τ17 : zSg) (τ18 : zSg) (r18 : Int32) (g1 : p_168 a0 a1 σ (.inl 0) τ1) (h2 : 0 ≤ a1.toInt ∧ a1.toInt < (τ1.2.1 (q_r (τ1.1 (q_r (τ1.1 (q_r (τ1.1 a0 2)) 2)) 0)) : Int)) (g3 : p_27 (q_r (τ1.1 a0 2)) τ1 r3 τ3) (h4 : (q_i (τ1.1 (q_r (τ1.1 (q_r (τ1.1 (q_r (τ1.1 a0 2)) 2)) 0)) a1.toNatClampNeg)).toInt = r3.toInt) (g9 : p_105 (q_r (τ3.1 (q_r (τ3.1 a0 2)) 2)) a1 τ3 r9 τ9) (h10 : r9.toInt = (0 : Int)) (g15 : p_172 a0 (Int32.ofInt (1)) τ9 (.inl 0) τ15) (g16 : p_62 (q_r (τ15.1 a0 5)) (q_r (τ15.1 a0 2)) τ15 τ16) (g17 : p_106 (q_r (τ16.1 (q_r (τ16.1 a0 2)) 2)) a1 τ16 τ17) (g18 : p_108 (q_r (τ17.1 (q_r (τ17.1 a0 2)) 2)) τ17 r18 τ18) :
    p_131 (a0) (a1) σ (.inl r18) τ18 := by
  rintro rfl A nf nt nx n Ms K
  have q0 := K.1.q
  obtain ⟨rfl, g⟩ := g1
  have hc := K.2.2.2.1
  have u := (g rfl K.1 A nt K.2.1 hc.2.2.1 hc.2.2.2.1).1 rfl
  refine ⟨fun w => absurd u w, fun x e1 l1 i4 e4 l4 => ?_⟩
  subst e1
  have l8 : x < 8 := by have := hc.2.2.2.1; omega
  have wo := K.2.1.p (hp_o l8)
  have d2 := K.2.1.k hk_2
  have d0 := K.2.1.k hk_t0
  have nh : (Int32.ofNat x).toNatClampNeg = x := o32n (by omega)
  obtain ⟨rfl, gi⟩ := g3
  simp only [q0.2.1] at gi
  have xi := gi A i4 K.2.1 e4 l4
  simp only [q0.2.1, d2, d0, nh, wo, xi] at h4
  simp only [q0.2.1, d2] at g9
  obtain ⟨rfl, g3⟩ := g9
  have x3 := g3 8 A rfl K.2.1 x rfl l8
  rw [x3] at h10
  obtain ⟨rfl, z, -⟩ := g15
  have hL : A (66 + 3 * x) = Int32.ofInt 0 := by
    obtain ⟨l, -, hl'⟩ := K.2.1.2.2.1
    have e9 := hl' x l8
    by_cases hb : btb l (Int32.ofNat x) = true
    · rw [if_pos hb] at e9
      exact absurd h10 (by rw [e9]; decide)
    · rw [if_neg hb] at e9
      exact e9
  refine ⟨fun q => absurd ⟨Int32.toInt_inj.mp h4, hL⟩ q, fun _ => ?_⟩
  rw [q0.2.1, q0.2.2.2.2] at g16
  have R := K.kp g16
  have qs := (R.sk K.1).q
  have v2 := R.2.1.k hk_2
  simp only [qs.2.1, v2] at g17
  have T1 := R.hs (hHF.wl (b := 8)) (R.2.1.pd l8)
  obtain rfl := g17
  have qt := (T1.sk K.1).q
  have y2 := T1.2.1.k hk_2
  rw [qt.2.1, y2] at g18
  obtain ⟨rfl, rfl⟩ := g18 8 _ nt rfl T1.2.1 (by rw [aU_ne (by omega)]; exact hc.2.2.1) hc.2.2.2.1
  exact ⟨rfl, T1⟩
theorem sp_131_enffx4_ (a0 : Nat) (a1 : Int32) (σ : zSg) (τ1 : zSg) (τ3 : zSg) (r3 : Int32) (τ9 : zSg) (r9 : Int32) (τ15 : zSg) (g1 : p_168 a0 a1 σ (.inl 0) τ1) (h2 : 0 ≤ a1.toInt ∧ a1.toInt < (τ1.2.1 (q_r (τ1.1 (q_r (τ1.1 (q_r (τ1.1 a0 2)) 2)) 0)) : Int)) (g3 : p_27 (q_r (τ1.1 a0 2)) τ1 r3 τ3) (h4 : (q_i (τ1.1 (q_r (τ1.1 (q_r (τ1.1 (q_r (τ1.1 a0 2)) 2)) 0)) a1.toNatClampNeg)).toInt = r3.toInt) (g9 : p_105 (q_r (τ3.1 (q_r (τ3.1 a0 2)) 2)) a1 τ3 r9 τ9) (h10 : r9.toInt = (0 : Int)) (g15 : p_172 a0 (Int32.ofInt (1)) τ9 (.inr 4) τ15) :
    p_131 (a0) (a1) σ (.inr 4) τ15 := by
  rintro rfl A nf nt nx n Ms K
  have q0 := K.1.q
  obtain ⟨rfl, g⟩ := g1
  have hc := K.2.2.2.1
  have u := (g rfl K.1 A nt K.2.1 hc.2.2.1 hc.2.2.2.1).1 rfl
  refine ⟨fun w => absurd u w, fun x e1 l1 i4 e4 l4 => ?_⟩
  subst e1
  have l8 : x < 8 := by have := hc.2.2.2.1; omega
  have wo := K.2.1.p (hp_o l8)
  have d2 := K.2.1.k hk_2
  have d0 := K.2.1.k hk_t0
  have nh : (Int32.ofNat x).toNatClampNeg = x := o32n (by omega)
  obtain ⟨rfl, gi⟩ := g3
  simp only [q0.2.1] at gi
  have xi := gi A i4 K.2.1 e4 l4
  simp only [q0.2.1, d2, d0, nh, wo, xi] at h4
  simp only [q0.2.1, d2] at g9
  obtain ⟨rfl, g3⟩ := g9
  have x3 := g3 8 A rfl K.2.1 x rfl l8
  rw [x3] at h10
  obtain ⟨rfl, -, z⟩ := g15
  exact absurd (z rfl) (by decide)
theorem sp_131_ex2_ (a0 : Nat) (a1 : Int32) (σ : zSg) (τ1 : zSg) (g1 : p_168 a0 a1 σ (.inr 2) τ1) :
    p_131 (a0) (a1) σ (.inr 2) τ1 := by
  rintro rfl A nf nt nx n Ms K
  have q0 := K.1.q
  obtain ⟨rfl, g⟩ := g1
  have hc := K.2.2.2.1
  have hs := hc.2.2.2.1
  have u := (g rfl K.1 A nt K.2.1 hc.2.2.1 hc.2.2.2.1).2 rfl
  exact ⟨fun _ => ⟨rfl, rfl⟩, fun x e1 l1 i4 e4 l4 => absurd (by rw [e1, o32 (by omega)]; omega) u⟩
noncomputable def qP_131 : zPp := fun as σ o σ' => match as with
  | [a0, a1] => (∃ r, o = .inl (some (.int r)) ∧ p_131 (q_r a0) (q_i a1) σ (.inl r) σ') ∨ (o = .inr 2 ∧ p_131 (q_r a0) (q_i a1) σ (.inr 2) σ') ∨ (o = .inr 4 ∧ p_131 (q_r a0) (q_i a1) σ (.inr 4) σ')
  | _ => True
set_option maxRecDepth 100000 in
theorem sp_131 {sx : zX} (S168 : zEe sx 168 2 qP_168) (S27 : zEe sx 27 1 qP_27) (S172 : zEe sx 172 2 qP_172) (S62 : zEe sx 62 2 qP_62) (S106 : zEe sx 106 2 qP_106) (S108 : zEe sx 108 1 qP_108) (S105 : zEe sx 105 2 qP_105) : zEe sx 131 2 qP_131 := by
  refine zfle zJ_131 (sps := [(168, 2, qP_168), (27, 1, qP_27), (172, 2, qP_172), (62, 2, qP_62), (106, 2, qP_106), (108, 1, qP_108), (105, 2, qP_105)]) (fun q hq => by
    simp only [List.mem_cons, List.not_mem_nil, or_false] at hq
    rcases hq with rfl | rfl | rfl | rfl | rfl | rfl | rfl
    · exact S168
    · exact S27
    · exact S172
    · exact S62
    · exact S106
    · exact S108
    · exact S105) (fun as σ hl => ?_)
  match as, hl with
  | [a0, a1], _ =>
  refine ⟨[], 400, ?_, ?_⟩
  · exact fun q hq => absurd hq List.not_mem_nil
  · refine fun o1 τ1 g1 => ?_
    rcases g1 with ⟨rfl, g1⟩ | ⟨rfl, g1⟩
    · refine fun h2 => ?_
      refine fun o3 τ3 g3 => ?_
      obtain ⟨r3, rfl, g3⟩ := g3
      refine And.intro (fun h4 => ?_) (fun h4 => ?_)
      · refine fun o5 τ5 g5 => ?_
        rcases g5 with ⟨rfl, g5⟩ | ⟨rfl, g5⟩
        · refine fun o6 τ6 g6 => ?_
          obtain ⟨rfl, g6⟩ := g6
          refine fun o7 τ7 g7 => ?_
          obtain ⟨rfl, g7⟩ := g7
          refine fun o8 τ8 g8 => ?_
          obtain ⟨r8, rfl, g8⟩ := g8
          exact Or.inl ⟨_, rfl, sp_131_entn (q_r a0) (q_i a1) σ τ1 τ3 r3 τ5 τ6 τ7 τ8 r8 g1 (q_inp h2) g3 (cm1t h4) g5 g6 g7 g8⟩
        · exact Or.inr (Or.inr (⟨rfl, sp_131_entx4_ (q_r a0) (q_i a1) σ τ1 τ3 r3 τ5 g1 (q_inp h2) g3 (cm1t h4) g5⟩))
      · refine fun o9 τ9 g9 => ?_
        obtain ⟨r9, rfl, g9⟩ := g9
        refine And.intro (fun h10 => ?_) (fun h10 => ?_)
        · refine fun o11 τ11 g11 => ?_
          rcases g11 with ⟨rfl, g11⟩ | ⟨rfl, g11⟩
          · refine fun o12 τ12 g12 => ?_
            obtain ⟨rfl, g12⟩ := g12
            refine fun o13 τ13 g13 => ?_
            obtain ⟨rfl, g13⟩ := g13
            refine fun o14 τ14 g14 => ?_
            obtain ⟨r14, rfl, g14⟩ := g14
            exact Or.inl ⟨_, rfl, sp_131_enftn (q_r a0) (q_i a1) σ τ1 τ3 r3 τ9 r9 τ11 τ12 τ13 τ14 r14 g1 (q_inp h2) g3 (cm1f h4) g9 (cm1t h10) g11 g12 g13 g14⟩
          · exact Or.inr (Or.inr (⟨rfl, sp_131_enftx4_ (q_r a0) (q_i a1) σ τ1 τ3 r3 τ9 r9 τ11 g1 (q_inp h2) g3 (cm1f h4) g9 (cm1t h10) g11⟩))
        · refine fun o15 τ15 g15 => ?_
          rcases g15 with ⟨rfl, g15⟩ | ⟨rfl, g15⟩
          · refine fun o16 τ16 g16 => ?_
            obtain ⟨rfl, g16⟩ := g16
            refine fun o17 τ17 g17 => ?_
            obtain ⟨rfl, g17⟩ := g17
            refine fun o18 τ18 g18 => ?_
            obtain ⟨r18, rfl, g18⟩ := g18
            exact Or.inl ⟨_, rfl, sp_131_enffn (q_r a0) (q_i a1) σ τ1 τ3 r3 τ9 r9 τ15 τ16 τ17 τ18 r18 g1 (q_inp h2) g3 (cm1f h4) g9 (cm1f h10) g15 g16 g17 g18⟩
          · exact Or.inr (Or.inr (⟨rfl, sp_131_enffx4_ (q_r a0) (q_i a1) σ τ1 τ3 r3 τ9 r9 τ15 g1 (q_inp h2) g3 (cm1f h4) g9 (cm1f h10) g15⟩))
    · exact Or.inr (Or.inl (⟨rfl, sp_131_ex2_ (q_r a0) (q_i a1) σ τ1 g1⟩))
theorem zJ_132 : zJ3 132 z_m132 z_c132 z_h132 := ⟨rfl, rfl, rfl⟩
noncomputable def p_132 (a : Nat) (t : Int32) (σ : zSg) (e : Int32 ⊕ Nat) (σ' : zSg) : Prop := a = 0 → ∀ A nf nt nx n Ms, xA σ A nf nt nx n Ms → (¬ (0 ≤ t.toInt ∧ t.toInt < (nt : Int)) → e = .inr 2 ∧ σ' = σ) ∧ (∀ x, t = Int32.ofNat x → x < nt → ∀ i4, A 4 = Int32.ofNat i4 → i4 < 24 → (¬ (A (64 + 3 * x) = A (16 + i4) ∧ A (66 + 3 * x) = Int32.ofInt 1) → e = .inr 4 ∧ σ' = σ) ∧ ((A (64 + 3 * x) = A (16 + i4) ∧ A (66 + 3 * x) = Int32.ofInt 1) → e = .inl (aBo (aU A (66 + 3 * x) (Int32.ofInt 0)) (Int32.ofInt (-1)) nt) ∧ xR σ σ' A (aU A (66 + 3 * x) (Int32.ofInt 0)) nx n Ms))
theorem sp_132_entn (a0 : Nat) (a1 : Int32) (σ : zSg) (τ1 : zSg) (τ3 : zSg) (r3 : Int32) (τ5 : zSg) (τ6 : zSg) (τ7 : zSg) (τ8 : zSg) (r8 : Int32) (g1 : p_168 a0 a1 σ (.inl 0) τ1) (h2 : 0 ≤ a1.toInt ∧ a1.toInt < (τ1.2.1 (q_r (τ1.1 (q_r (τ1.1 (q_r (τ1.1 a0 2)) 2)) 0)) : Int)) (g3 : p_27 (q_r (τ1.1 a0 2)) τ1 r3 τ3) (h4 : (q_i (τ1.1 (q_r (τ1.1 (q_r (τ1.1 (q_r (τ1.1 a0 2)) 2)) 0)) a1.toNatClampNeg)).toInt ≠ r3.toInt) (g5 : p_172 a0 (Int32.ofInt (0)) τ3 (.inl 0) τ5) (g6 : p_62 (q_r (τ5.1 a0 5)) (q_r (τ5.1 a0 2)) τ5 τ6) (g7 : p_107 (q_r (τ6.1 (q_r (τ6.1 a0 2)) 2)) a1 τ6 τ7) (g8 : p_108 (q_r (τ7.1 (q_r (τ7.1 a0 2)) 2)) τ7 r8 τ8) :
    p_132 (a0) (a1) σ (.inl r8) τ8 := by
  rintro rfl A nf nt nx n Ms K
  have q0 := K.1.q
  obtain ⟨rfl, g⟩ := g1
  have hc := K.2.2.2.1
  have u := (g rfl K.1 A nt K.2.1 hc.2.2.1 hc.2.2.2.1).1 rfl
  refine ⟨fun w => absurd u w, fun x e1 l1 i4 e4 l4 => ?_⟩
  subst e1
  have l8 : x < 8 := by have := hc.2.2.2.1; omega
  have wo := K.2.1.p (hp_o l8)
  have d2 := K.2.1.k hk_2
  have d0 := K.2.1.k hk_t0
  have nh : (Int32.ofNat x).toNatClampNeg = x := o32n (by omega)
  obtain ⟨rfl, gi⟩ := g3
  simp only [q0.2.1] at gi
  have xi := gi A i4 K.2.1 e4 l4
  simp only [q0.2.1, d2, d0, nh, wo, xi] at h4
  obtain ⟨rfl, z, -⟩ := g5
  exact absurd rfl (z rfl)
theorem sp_132_entx4_ (a0 : Nat) (a1 : Int32) (σ : zSg) (τ1 : zSg) (τ3 : zSg) (r3 : Int32) (τ5 : zSg) (g1 : p_168 a0 a1 σ (.inl 0) τ1) (h2 : 0 ≤ a1.toInt ∧ a1.toInt < (τ1.2.1 (q_r (τ1.1 (q_r (τ1.1 (q_r (τ1.1 a0 2)) 2)) 0)) : Int)) (g3 : p_27 (q_r (τ1.1 a0 2)) τ1 r3 τ3) (h4 : (q_i (τ1.1 (q_r (τ1.1 (q_r (τ1.1 (q_r (τ1.1 a0 2)) 2)) 0)) a1.toNatClampNeg)).toInt ≠ r3.toInt) (g5 : p_172 a0 (Int32.ofInt (0)) τ3 (.inr 4) τ5) :
    p_132 (a0) (a1) σ (.inr 4) τ5 := by
  rintro rfl A nf nt nx n Ms K
  have q0 := K.1.q
  obtain ⟨rfl, g⟩ := g1
  have hc := K.2.2.2.1
  have u := (g rfl K.1 A nt K.2.1 hc.2.2.1 hc.2.2.2.1).1 rfl
  refine ⟨fun w => absurd u w, fun x e1 l1 i4 e4 l4 => ?_⟩
  subst e1
  have l8 : x < 8 := by have := hc.2.2.2.1; omega
  have wo := K.2.1.p (hp_o l8)
  have d2 := K.2.1.k hk_2
  have d0 := K.2.1.k hk_t0
  have nh : (Int32.ofNat x).toNatClampNeg = x := o32n (by omega)
  obtain ⟨rfl, gi⟩ := g3
  simp only [q0.2.1] at gi
  have xi := gi A i4 K.2.1 e4 l4
  simp only [q0.2.1, d2, d0, nh, wo, xi] at h4
  obtain ⟨rfl, -, z⟩ := g5
  exact ⟨fun _ => ⟨rfl, rfl⟩, fun q => absurd (by rw [q.1]) h4⟩
theorem sp_132_enftn (a0 : Nat) (a1 : Int32) (σ : zSg) (τ1 : zSg) (τ3 : zSg) (r3 : Int32) (τ9 : zSg) (r9 : Int32) (τ11 : zSg) (τ12 : zSg) (τ13 : zSg) (τ14 : zSg) (r14 : Int32) (g1 : p_168 a0 a1 σ (.inl 0) τ1) (h2 : 0 ≤ a1.toInt ∧ a1.toInt < (τ1.2.1 (q_r (τ1.1 (q_r (τ1.1 (q_r (τ1.1 a0 2)) 2)) 0)) : Int)) (g3 : p_27 (q_r (τ1.1 a0 2)) τ1 r3 τ3) (h4 : (q_i (τ1.1 (q_r (τ1.1 (q_r (τ1.1 (q_r (τ1.1 a0 2)) 2)) 0)) a1.toNatClampNeg)).toInt = r3.toInt) (g9 : p_105 (q_r (τ3.1 (q_r (τ3.1 a0 2)) 2)) a1 τ3 r9 τ9) (h10 : r9.toInt = (0 : Int)) (g11 : p_172 a0 (Int32.ofInt (0)) τ9 (.inl 0) τ11) (g12 : p_62 (q_r (τ11.1 a0 5)) (q_r (τ11.1 a0 2)) τ11 τ12) (g13 : p_107 (q_r (τ12.1 (q_r (τ12.1 a0 2)) 2)) a1 τ12 τ13) (g14 : p_108 (q_r (τ13.1 (q_r (τ13.1 a0 2)) 2)) τ13 r14 τ14) :
    p_132 (a0) (a1) σ (.inl r14) τ14 := by
  rintro rfl A nf nt nx n Ms K
  have q0 := K.1.q
  obtain ⟨rfl, g⟩ := g1
  have hc := K.2.2.2.1
  have u := (g rfl K.1 A nt K.2.1 hc.2.2.1 hc.2.2.2.1).1 rfl
  refine ⟨fun w => absurd u w, fun x e1 l1 i4 e4 l4 => ?_⟩
  subst e1
  have l8 : x < 8 := by have := hc.2.2.2.1; omega
  have wo := K.2.1.p (hp_o l8)
  have d2 := K.2.1.k hk_2
  have d0 := K.2.1.k hk_t0
  have nh : (Int32.ofNat x).toNatClampNeg = x := o32n (by omega)
  obtain ⟨rfl, gi⟩ := g3
  simp only [q0.2.1] at gi
  have xi := gi A i4 K.2.1 e4 l4
  simp only [q0.2.1, d2, d0, nh, wo, xi] at h4
  simp only [q0.2.1, d2] at g9
  obtain ⟨rfl, g3⟩ := g9
  have x3 := g3 8 A rfl K.2.1 x rfl l8
  rw [x3] at h10
  obtain ⟨rfl, z, -⟩ := g11
  exact absurd rfl (z rfl)
theorem sp_132_enftx4_ (a0 : Nat) (a1 : Int32) (σ : zSg) (τ1 : zSg) (τ3 : zSg) (r3 : Int32) (τ9 : zSg) (r9 : Int32) (τ11 : zSg) (g1 : p_168 a0 a1 σ (.inl 0) τ1) (h2 : 0 ≤ a1.toInt ∧ a1.toInt < (τ1.2.1 (q_r (τ1.1 (q_r (τ1.1 (q_r (τ1.1 a0 2)) 2)) 0)) : Int)) (g3 : p_27 (q_r (τ1.1 a0 2)) τ1 r3 τ3) (h4 : (q_i (τ1.1 (q_r (τ1.1 (q_r (τ1.1 (q_r (τ1.1 a0 2)) 2)) 0)) a1.toNatClampNeg)).toInt = r3.toInt) (g9 : p_105 (q_r (τ3.1 (q_r (τ3.1 a0 2)) 2)) a1 τ3 r9 τ9) (h10 : r9.toInt = (0 : Int)) (g11 : p_172 a0 (Int32.ofInt (0)) τ9 (.inr 4) τ11) :
    p_132 (a0) (a1) σ (.inr 4) τ11 := by
  rintro rfl A nf nt nx n Ms K
  have q0 := K.1.q
  obtain ⟨rfl, g⟩ := g1
  have hc := K.2.2.2.1
  have u := (g rfl K.1 A nt K.2.1 hc.2.2.1 hc.2.2.2.1).1 rfl
  refine ⟨fun w => absurd u w, fun x e1 l1 i4 e4 l4 => ?_⟩
  subst e1
  have l8 : x < 8 := by have := hc.2.2.2.1; omega
  have wo := K.2.1.p (hp_o l8)
  have d2 := K.2.1.k hk_2
  have d0 := K.2.1.k hk_t0
  have nh : (Int32.ofNat x).toNatClampNeg = x := o32n (by omega)
  obtain ⟨rfl, gi⟩ := g3
  simp only [q0.2.1] at gi
  have xi := gi A i4 K.2.1 e4 l4
  simp only [q0.2.1, d2, d0, nh, wo, xi] at h4
  simp only [q0.2.1, d2] at g9
  obtain ⟨rfl, g3⟩ := g9
  have x3 := g3 8 A rfl K.2.1 x rfl l8
  rw [x3] at h10
  obtain ⟨rfl, -, z⟩ := g11
  exact ⟨fun _ => ⟨rfl, rfl⟩, fun q => absurd (by rw [q.2] at h10; exact h10) (by decide)⟩
theorem sp_132_enffn (a0 : Nat) (a1 : Int32) (σ : zSg) (τ1 : zSg) (τ3 : zSg) (r3 : Int32) (τ9 : zSg) (r9 : Int32) (τ15 : zSg) (τ16 : zSg) (τ17 : zSg) (τ18 : zSg) (r18 : Int32) (g1 : p_168 a0 a1 σ (.inl 0) τ1) (h2 : 0 ≤ a1.toInt ∧ a1.toInt < (τ1.2.1 (q_r (τ1.1 (q_r (τ1.1 (q_r (τ1.1 a0 2)) 2)) 0)) : Int)) (g3 : p_27 (q_r (τ1.1 a0 2)) τ1 r3 τ3) (h4 : (q_i (τ1.1 (q_r (τ1.1 (q_r (τ1.1 (q_r (τ1.1 a0 2)) 2)) 0)) a1.toNatClampNeg)).toInt = r3.toInt) (g9 : p_105 (q_r (τ3.1 (q_r (τ3.1 a0 2)) 2)) a1 τ3 r9 τ9) (h10 : r9.toInt ≠ (0 : Int)) (g15 : p_172 a0 (Int32.ofInt (1)) τ9 (.inl 0) τ15) (g16 : p_62 (q_r (τ15.1 a0 5)) (q_r (τ15.1 a0 2)) τ15 τ16) (g17 : p_107 (q_r (τ16.1 (q_r (τ16.1 a0 2)) 2)) a1 τ16 τ17) (g18 : p_108 (q_r (τ17.1 (q_r (τ17.1 a0 2)) 2)) τ17 r18 τ18) :
    p_132 (a0) (a1) σ (.inl r18) τ18 := by
  rintro rfl A nf nt nx n Ms K
  have q0 := K.1.q
  obtain ⟨rfl, g⟩ := g1
  have hc := K.2.2.2.1
  have u := (g rfl K.1 A nt K.2.1 hc.2.2.1 hc.2.2.2.1).1 rfl
  refine ⟨fun w => absurd u w, fun x e1 l1 i4 e4 l4 => ?_⟩
  subst e1
  have l8 : x < 8 := by have := hc.2.2.2.1; omega
  have wo := K.2.1.p (hp_o l8)
  have d2 := K.2.1.k hk_2
  have d0 := K.2.1.k hk_t0
  have nh : (Int32.ofNat x).toNatClampNeg = x := o32n (by omega)
  obtain ⟨rfl, gi⟩ := g3
  simp only [q0.2.1] at gi
  have xi := gi A i4 K.2.1 e4 l4
  simp only [q0.2.1, d2, d0, nh, wo, xi] at h4
  simp only [q0.2.1, d2] at g9
  obtain ⟨rfl, g3⟩ := g9
  have x3 := g3 8 A rfl K.2.1 x rfl l8
  rw [x3] at h10
  obtain ⟨rfl, z, -⟩ := g15
  have hL : A (66 + 3 * x) = Int32.ofInt 1 := by
    obtain ⟨l, -, hl'⟩ := K.2.1.2.2.1
    have e9 := hl' x l8
    by_cases hb : btb l (Int32.ofNat x) = true
    · rw [if_pos hb] at e9
      exact e9
    · rw [if_neg hb] at e9
      exact absurd (by rw [e9]; rfl) h10
  refine ⟨fun q => absurd ⟨Int32.toInt_inj.mp h4, hL⟩ q, fun _ => ?_⟩
  rw [q0.2.1, q0.2.2.2.2] at g16
  have R := K.kp g16
  have qs := (R.sk K.1).q
  have v2 := R.2.1.k hk_2
  simp only [qs.2.1, v2] at g17
  have T1 := R.hs (hHF.wl (b := 8)) (R.2.1.ta l8)
  obtain rfl := g17
  have qt := (T1.sk K.1).q
  have y2 := T1.2.1.k hk_2
  rw [qt.2.1, y2] at g18
  obtain ⟨rfl, rfl⟩ := g18 8 _ nt rfl T1.2.1 (by rw [aU_ne (by omega)]; exact hc.2.2.1) hc.2.2.2.1
  exact ⟨rfl, T1⟩
theorem sp_132_enffx4_ (a0 : Nat) (a1 : Int32) (σ : zSg) (τ1 : zSg) (τ3 : zSg) (r3 : Int32) (τ9 : zSg) (r9 : Int32) (τ15 : zSg) (g1 : p_168 a0 a1 σ (.inl 0) τ1) (h2 : 0 ≤ a1.toInt ∧ a1.toInt < (τ1.2.1 (q_r (τ1.1 (q_r (τ1.1 (q_r (τ1.1 a0 2)) 2)) 0)) : Int)) (g3 : p_27 (q_r (τ1.1 a0 2)) τ1 r3 τ3) (h4 : (q_i (τ1.1 (q_r (τ1.1 (q_r (τ1.1 (q_r (τ1.1 a0 2)) 2)) 0)) a1.toNatClampNeg)).toInt = r3.toInt) (g9 : p_105 (q_r (τ3.1 (q_r (τ3.1 a0 2)) 2)) a1 τ3 r9 τ9) (h10 : r9.toInt ≠ (0 : Int)) (g15 : p_172 a0 (Int32.ofInt (1)) τ9 (.inr 4) τ15) :
    p_132 (a0) (a1) σ (.inr 4) τ15 := by
  rintro rfl A nf nt nx n Ms K
  have q0 := K.1.q
  obtain ⟨rfl, g⟩ := g1
  have hc := K.2.2.2.1
  have u := (g rfl K.1 A nt K.2.1 hc.2.2.1 hc.2.2.2.1).1 rfl
  refine ⟨fun w => absurd u w, fun x e1 l1 i4 e4 l4 => ?_⟩
  subst e1
  have l8 : x < 8 := by have := hc.2.2.2.1; omega
  have wo := K.2.1.p (hp_o l8)
  have d2 := K.2.1.k hk_2
  have d0 := K.2.1.k hk_t0
  have nh : (Int32.ofNat x).toNatClampNeg = x := o32n (by omega)
  obtain ⟨rfl, gi⟩ := g3
  simp only [q0.2.1] at gi
  have xi := gi A i4 K.2.1 e4 l4
  simp only [q0.2.1, d2, d0, nh, wo, xi] at h4
  simp only [q0.2.1, d2] at g9
  obtain ⟨rfl, g3⟩ := g9
  have x3 := g3 8 A rfl K.2.1 x rfl l8
  rw [x3] at h10
  obtain ⟨rfl, -, z⟩ := g15
  exact absurd (z rfl) (by decide)
theorem sp_132_ex2_ (a0 : Nat) (a1 : Int32) (σ : zSg) (τ1 : zSg) (g1 : p_168 a0 a1 σ (.inr 2) τ1) :
    p_132 (a0) (a1) σ (.inr 2) τ1 := by
  rintro rfl A nf nt nx n Ms K
  have q0 := K.1.q
  obtain ⟨rfl, g⟩ := g1
  have hc := K.2.2.2.1
  have hs := hc.2.2.2.1
  have u := (g rfl K.1 A nt K.2.1 hc.2.2.1 hc.2.2.2.1).2 rfl
  exact ⟨fun _ => ⟨rfl, rfl⟩, fun x e1 l1 i4 e4 l4 => absurd (by rw [e1, o32 (by omega)]; omega) u⟩
noncomputable def qP_132 : zPp := fun as σ o σ' => match as with
  | [a0, a1] => (∃ r, o = .inl (some (.int r)) ∧ p_132 (q_r a0) (q_i a1) σ (.inl r) σ') ∨ (o = .inr 2 ∧ p_132 (q_r a0) (q_i a1) σ (.inr 2) σ') ∨ (o = .inr 4 ∧ p_132 (q_r a0) (q_i a1) σ (.inr 4) σ')
  | _ => True
set_option maxRecDepth 100000 in
theorem sp_132 {sx : zX} (S168 : zEe sx 168 2 qP_168) (S27 : zEe sx 27 1 qP_27) (S172 : zEe sx 172 2 qP_172) (S62 : zEe sx 62 2 qP_62) (S107 : zEe sx 107 2 qP_107) (S108 : zEe sx 108 1 qP_108) (S105 : zEe sx 105 2 qP_105) : zEe sx 132 2 qP_132 := by
  refine zfle zJ_132 (sps := [(168, 2, qP_168), (27, 1, qP_27), (172, 2, qP_172), (62, 2, qP_62), (107, 2, qP_107), (108, 1, qP_108), (105, 2, qP_105)]) (fun q hq => by
    simp only [List.mem_cons, List.not_mem_nil, or_false] at hq
    rcases hq with rfl | rfl | rfl | rfl | rfl | rfl | rfl
    · exact S168
    · exact S27
    · exact S172
    · exact S62
    · exact S107
    · exact S108
    · exact S105) (fun as σ hl => ?_)
  match as, hl with
  | [a0, a1], _ =>
  refine ⟨[], 400, ?_, ?_⟩
  · exact fun q hq => absurd hq List.not_mem_nil
  · refine fun o1 τ1 g1 => ?_
    rcases g1 with ⟨rfl, g1⟩ | ⟨rfl, g1⟩
    · refine fun h2 => ?_
      refine fun o3 τ3 g3 => ?_
      obtain ⟨r3, rfl, g3⟩ := g3
      refine And.intro (fun h4 => ?_) (fun h4 => ?_)
      · refine fun o5 τ5 g5 => ?_
        rcases g5 with ⟨rfl, g5⟩ | ⟨rfl, g5⟩
        · refine fun o6 τ6 g6 => ?_
          obtain ⟨rfl, g6⟩ := g6
          refine fun o7 τ7 g7 => ?_
          obtain ⟨rfl, g7⟩ := g7
          refine fun o8 τ8 g8 => ?_
          obtain ⟨r8, rfl, g8⟩ := g8
          exact Or.inl ⟨_, rfl, sp_132_entn (q_r a0) (q_i a1) σ τ1 τ3 r3 τ5 τ6 τ7 τ8 r8 g1 (q_inp h2) g3 (cm1t h4) g5 g6 g7 g8⟩
        · exact Or.inr (Or.inr (⟨rfl, sp_132_entx4_ (q_r a0) (q_i a1) σ τ1 τ3 r3 τ5 g1 (q_inp h2) g3 (cm1t h4) g5⟩))
      · refine fun o9 τ9 g9 => ?_
        obtain ⟨r9, rfl, g9⟩ := g9
        refine And.intro (fun h10 => ?_) (fun h10 => ?_)
        · refine fun o11 τ11 g11 => ?_
          rcases g11 with ⟨rfl, g11⟩ | ⟨rfl, g11⟩
          · refine fun o12 τ12 g12 => ?_
            obtain ⟨rfl, g12⟩ := g12
            refine fun o13 τ13 g13 => ?_
            obtain ⟨rfl, g13⟩ := g13
            refine fun o14 τ14 g14 => ?_
            obtain ⟨r14, rfl, g14⟩ := g14
            exact Or.inl ⟨_, rfl, sp_132_enftn (q_r a0) (q_i a1) σ τ1 τ3 r3 τ9 r9 τ11 τ12 τ13 τ14 r14 g1 (q_inp h2) g3 (cm1f h4) g9 (cm0t h10) g11 g12 g13 g14⟩
          · exact Or.inr (Or.inr (⟨rfl, sp_132_enftx4_ (q_r a0) (q_i a1) σ τ1 τ3 r3 τ9 r9 τ11 g1 (q_inp h2) g3 (cm1f h4) g9 (cm0t h10) g11⟩))
        · refine fun o15 τ15 g15 => ?_
          rcases g15 with ⟨rfl, g15⟩ | ⟨rfl, g15⟩
          · refine fun o16 τ16 g16 => ?_
            obtain ⟨rfl, g16⟩ := g16
            refine fun o17 τ17 g17 => ?_
            obtain ⟨rfl, g17⟩ := g17
            refine fun o18 τ18 g18 => ?_
            obtain ⟨r18, rfl, g18⟩ := g18
            exact Or.inl ⟨_, rfl, sp_132_enffn (q_r a0) (q_i a1) σ τ1 τ3 r3 τ9 r9 τ15 τ16 τ17 τ18 r18 g1 (q_inp h2) g3 (cm1f h4) g9 (cm0f h10) g15 g16 g17 g18⟩
          · exact Or.inr (Or.inr (⟨rfl, sp_132_enffx4_ (q_r a0) (q_i a1) σ τ1 τ3 r3 τ9 r9 τ15 g1 (q_inp h2) g3 (cm1f h4) g9 (cm0f h10) g15⟩))
    · exact Or.inr (Or.inl (⟨rfl, sp_132_ex2_ (q_r a0) (q_i a1) σ τ1 g1⟩))
theorem zJ_133 : zJ3 133 z_m133 z_c133 z_h133 := ⟨rfl, rfl, rfl⟩
noncomputable def p_133 (a : Nat) (σ : zSg) (e : Int32 ⊕ Nat) (σ' : zSg) : Prop := a = 0 → ∀ A nf nt nx n Ms, xA σ A nf nt nx n Ms → ∀ i4, A 4 = Int32.ofNat i4 → i4 < 24 → (A (16 + i4) = Int32.ofInt (-1) → e = .inr 4 ∧ σ' = σ) ∧ (∀ F, A (16 + i4) = Int32.ofNat F → F < nf → (¬ (0 < (A 8).toInt ∧ (A 8).toInt ≤ (A (40 + 4 * F)).toInt) → e = .inr 4 ∧ σ' = σ) ∧ ((0 < (A 8).toInt ∧ (A 8).toInt ≤ (A (40 + 4 * F)).toInt) → e = .inl (aPy (A (40 + 4 * F)) (A 8)) ∧ xR σ σ' A (aU (aU A (40 + 4 * F) (aPy (A (40 + 4 * F)) (A 8))) 8 (Int32.ofInt 0)) nx n Ms))
theorem sp_133_etn (a0 : Nat) (σ : zSg) (τ1 : zSg) (r1 : Int32) (τ3 : zSg) (τ4 : zSg) (τ5 : zSg) (τ6 : zSg) (r6 : Int32) (g1 : p_27 (q_r (σ.1 a0 2)) σ r1 τ1) (h2 : r1.toInt = (-1 : Int)) (g3 : p_172 a0 (Int32.ofInt (0)) τ1 (.inl 0) τ3) (g4 : p_62 (q_r (τ3.1 a0 5)) (q_r (τ3.1 a0 2)) τ3 τ4) (g5 : p_17 (q_r (τ4.1 (q_r (τ4.1 a0 2)) 1)) r1 (q_i (τ4.1 (q_r (τ4.1 a0 2)) 11)) τ4 τ5) (g6 : p_16 (q_r ((q_w τ5 (q_r (τ5.1 a0 2)) 11 (.int (Int32.ofInt (0)))).1 (q_r ((q_w τ5 (q_r (τ5.1 a0 2)) 11 (.int (Int32.ofInt (0)))).1 a0 2)) 1)) r1 (q_w τ5 (q_r (τ5.1 a0 2)) 11 (.int (Int32.ofInt (0)))) r6 τ6) :
    p_133 (a0) σ (.inl r6) τ6 := by
  rintro rfl A nf nt nx n Ms K
  have q0 := K.1.q
  refine fun i4 e4 l4 => ?_
  have hc := K.2.2.2.1
  simp only [q0.2.1] at g1
  obtain ⟨rfl, gi⟩ := g1
  have xi := gi A i4 K.2.1 e4 l4
  rw [xi] at h2
  have d1 := K.2.1.k hk_1
  have w8 := K.2.1.p (hp_s (k := 8) (by omega) (by omega))
  obtain ⟨rfl, z, -⟩ := g3
  exact absurd rfl (z rfl)
theorem sp_133_etx4_ (a0 : Nat) (σ : zSg) (τ1 : zSg) (r1 : Int32) (τ3 : zSg) (g1 : p_27 (q_r (σ.1 a0 2)) σ r1 τ1) (h2 : r1.toInt = (-1 : Int)) (g3 : p_172 a0 (Int32.ofInt (0)) τ1 (.inr 4) τ3) :
    p_133 (a0) σ (.inr 4) τ3 := by
  rintro rfl A nf nt nx n Ms K
  have q0 := K.1.q
  refine fun i4 e4 l4 => ?_
  have hc := K.2.2.2.1
  simp only [q0.2.1] at g1
  obtain ⟨rfl, gi⟩ := g1
  have xi := gi A i4 K.2.1 e4 l4
  rw [xi] at h2
  have d1 := K.2.1.k hk_1
  have w8 := K.2.1.p (hp_s (k := 8) (by omega) (by omega))
  obtain ⟨rfl, -, z⟩ := g3
  refine ⟨fun _ => ⟨rfl, rfl⟩, fun F e l => ?_⟩
  have h6 := hc.2.1
  rw [e, o32 (by omega)] at h2
  exact absurd h2 (by omega)
theorem sp_133_eftn (a0 : Nat) (σ : zSg) (τ1 : zSg) (r1 : Int32) (τ8 : zSg) (τ9 : zSg) (τ10 : zSg) (τ11 : zSg) (r11 : Int32) (g1 : p_27 (q_r (σ.1 a0 2)) σ r1 τ1) (h2 : r1.toInt ≠ (-1 : Int)) (h7 : (q_i (τ1.1 (q_r (τ1.1 a0 2)) 11)).toInt ≤ (0 : Int)) (g8 : p_172 a0 (Int32.ofInt (0)) τ1 (.inl 0) τ8) (g9 : p_62 (q_r (τ8.1 a0 5)) (q_r (τ8.1 a0 2)) τ8 τ9) (g10 : p_17 (q_r (τ9.1 (q_r (τ9.1 a0 2)) 1)) r1 (q_i (τ9.1 (q_r (τ9.1 a0 2)) 11)) τ9 τ10) (g11 : p_16 (q_r ((q_w τ10 (q_r (τ10.1 a0 2)) 11 (.int (Int32.ofInt (0)))).1 (q_r ((q_w τ10 (q_r (τ10.1 a0 2)) 11 (.int (Int32.ofInt (0)))).1 a0 2)) 1)) r1 (q_w τ10 (q_r (τ10.1 a0 2)) 11 (.int (Int32.ofInt (0)))) r11 τ11) :
    p_133 (a0) σ (.inl r11) τ11 := by
  rintro rfl A nf nt nx n Ms K
  have q0 := K.1.q
  refine fun i4 e4 l4 => ?_
  have hc := K.2.2.2.1
  simp only [q0.2.1] at g1
  obtain ⟨rfl, gi⟩ := g1
  have xi := gi A i4 K.2.1 e4 l4
  rw [xi] at h2
  have d1 := K.2.1.k hk_1
  have w8 := K.2.1.p (hp_s (k := 8) (by omega) (by omega))
  refine ⟨fun w => absurd (by rw [w]; rfl) h2, fun F e l => ?_⟩
  simp only [q0.2.1, w8] at h7
  obtain ⟨rfl, z, -⟩ := g8
  exact absurd rfl (z rfl)
theorem sp_133_eftx4_ (a0 : Nat) (σ : zSg) (τ1 : zSg) (r1 : Int32) (τ8 : zSg) (g1 : p_27 (q_r (σ.1 a0 2)) σ r1 τ1) (h2 : r1.toInt ≠ (-1 : Int)) (h7 : (q_i (τ1.1 (q_r (τ1.1 a0 2)) 11)).toInt ≤ (0 : Int)) (g8 : p_172 a0 (Int32.ofInt (0)) τ1 (.inr 4) τ8) :
    p_133 (a0) σ (.inr 4) τ8 := by
  rintro rfl A nf nt nx n Ms K
  have q0 := K.1.q
  refine fun i4 e4 l4 => ?_
  have hc := K.2.2.2.1
  simp only [q0.2.1] at g1
  obtain ⟨rfl, gi⟩ := g1
  have xi := gi A i4 K.2.1 e4 l4
  rw [xi] at h2
  have d1 := K.2.1.k hk_1
  have w8 := K.2.1.p (hp_s (k := 8) (by omega) (by omega))
  refine ⟨fun w => absurd (by rw [w]; rfl) h2, fun F e l => ?_⟩
  simp only [q0.2.1, w8] at h7
  obtain ⟨rfl, -, z⟩ := g8
  exact ⟨fun _ => ⟨rfl, rfl⟩, fun q => absurd q.1 (by omega)⟩
theorem sp_133_efftn (a0 : Nat) (σ : zSg) (τ1 : zSg) (r1 : Int32) (τ12 : zSg) (r12 : Int32) (τ14 : zSg) (τ15 : zSg) (τ16 : zSg) (τ17 : zSg) (r17 : Int32) (g1 : p_27 (q_r (σ.1 a0 2)) σ r1 τ1) (h2 : r1.toInt ≠ (-1 : Int)) (h7 : (q_i (τ1.1 (q_r (τ1.1 a0 2)) 11)).toInt > (0 : Int)) (g12 : p_16 (q_r (τ1.1 (q_r (τ1.1 a0 2)) 1)) r1 τ1 r12 τ12) (h13 : r12.toInt < (q_i (τ12.1 (q_r (τ12.1 a0 2)) 11)).toInt) (g14 : p_172 a0 (Int32.ofInt (0)) τ12 (.inl 0) τ14) (g15 : p_62 (q_r (τ14.1 a0 5)) (q_r (τ14.1 a0 2)) τ14 τ15) (g16 : p_17 (q_r (τ15.1 (q_r (τ15.1 a0 2)) 1)) r1 (q_i (τ15.1 (q_r (τ15.1 a0 2)) 11)) τ15 τ16) (g17 : p_16 (q_r ((q_w τ16 (q_r (τ16.1 a0 2)) 11 (.int (Int32.ofInt (0)))).1 (q_r ((q_w τ16 (q_r (τ16.1 a0 2)) 11 (.int (Int32.ofInt (0)))).1 a0 2)) 1)) r1 (q_w τ16 (q_r (τ16.1 a0 2)) 11 (.int (Int32.ofInt (0)))) r17 τ17) :
    p_133 (a0) σ (.inl r17) τ17 := by
  rintro rfl A nf nt nx n Ms K
  have q0 := K.1.q
  refine fun i4 e4 l4 => ?_
  have hc := K.2.2.2.1
  simp only [q0.2.1] at g1
  obtain ⟨rfl, gi⟩ := g1
  have xi := gi A i4 K.2.1 e4 l4
  rw [xi] at h2
  have d1 := K.2.1.k hk_1
  have w8 := K.2.1.p (hp_s (k := 8) (by omega) (by omega))
  refine ⟨fun w => absurd (by rw [w]; rfl) h2, fun F e l => ?_⟩
  simp only [q0.2.1, w8] at h7
  rw [xi, e] at g12
  simp only [q0.2.1, d1] at g12
  obtain ⟨rfl, g3⟩ := g12
  have x3 := g3 8 A nf rfl K.2.1 hc.1 hc.2.1 F rfl l
  simp only [q0.2.1, x3, w8] at h13
  obtain ⟨rfl, z, -⟩ := g14
  exact absurd rfl (z rfl)
theorem sp_133_efftx4_ (a0 : Nat) (σ : zSg) (τ1 : zSg) (r1 : Int32) (τ12 : zSg) (r12 : Int32) (τ14 : zSg) (g1 : p_27 (q_r (σ.1 a0 2)) σ r1 τ1) (h2 : r1.toInt ≠ (-1 : Int)) (h7 : (q_i (τ1.1 (q_r (τ1.1 a0 2)) 11)).toInt > (0 : Int)) (g12 : p_16 (q_r (τ1.1 (q_r (τ1.1 a0 2)) 1)) r1 τ1 r12 τ12) (h13 : r12.toInt < (q_i (τ12.1 (q_r (τ12.1 a0 2)) 11)).toInt) (g14 : p_172 a0 (Int32.ofInt (0)) τ12 (.inr 4) τ14) :
    p_133 (a0) σ (.inr 4) τ14 := by
  rintro rfl A nf nt nx n Ms K
  have q0 := K.1.q
  refine fun i4 e4 l4 => ?_
  have hc := K.2.2.2.1
  simp only [q0.2.1] at g1
  obtain ⟨rfl, gi⟩ := g1
  have xi := gi A i4 K.2.1 e4 l4
  rw [xi] at h2
  have d1 := K.2.1.k hk_1
  have w8 := K.2.1.p (hp_s (k := 8) (by omega) (by omega))
  refine ⟨fun w => absurd (by rw [w]; rfl) h2, fun F e l => ?_⟩
  simp only [q0.2.1, w8] at h7
  rw [xi, e] at g12
  simp only [q0.2.1, d1] at g12
  obtain ⟨rfl, g3⟩ := g12
  have x3 := g3 8 A nf rfl K.2.1 hc.1 hc.2.1 F rfl l
  simp only [q0.2.1, x3, w8] at h13
  obtain ⟨rfl, -, z⟩ := g14
  exact ⟨fun _ => ⟨rfl, rfl⟩, fun q => absurd q.2 (by omega)⟩
theorem sp_133_efffn (a0 : Nat) (σ : zSg) (τ1 : zSg) (r1 : Int32) (τ12 : zSg) (r12 : Int32) (τ18 : zSg) (τ19 : zSg) (τ20 : zSg) (τ21 : zSg) (r21 : Int32) (g1 : p_27 (q_r (σ.1 a0 2)) σ r1 τ1) (h2 : r1.toInt ≠ (-1 : Int)) (h7 : (q_i (τ1.1 (q_r (τ1.1 a0 2)) 11)).toInt > (0 : Int)) (g12 : p_16 (q_r (τ1.1 (q_r (τ1.1 a0 2)) 1)) r1 τ1 r12 τ12) (h13 : r12.toInt ≥ (q_i (τ12.1 (q_r (τ12.1 a0 2)) 11)).toInt) (g18 : p_172 a0 (Int32.ofInt (1)) τ12 (.inl 0) τ18) (g19 : p_62 (q_r (τ18.1 a0 5)) (q_r (τ18.1 a0 2)) τ18 τ19) (g20 : p_17 (q_r (τ19.1 (q_r (τ19.1 a0 2)) 1)) r1 (q_i (τ19.1 (q_r (τ19.1 a0 2)) 11)) τ19 τ20) (g21 : p_16 (q_r ((q_w τ20 (q_r (τ20.1 a0 2)) 11 (.int (Int32.ofInt (0)))).1 (q_r ((q_w τ20 (q_r (τ20.1 a0 2)) 11 (.int (Int32.ofInt (0)))).1 a0 2)) 1)) r1 (q_w τ20 (q_r (τ20.1 a0 2)) 11 (.int (Int32.ofInt (0)))) r21 τ21) :
    p_133 (a0) σ (.inl r21) τ21 := by
  rintro rfl A nf nt nx n Ms K
  have q0 := K.1.q
  refine fun i4 e4 l4 => ?_
  have hc := K.2.2.2.1
  simp only [q0.2.1] at g1
  obtain ⟨rfl, gi⟩ := g1
  have xi := gi A i4 K.2.1 e4 l4
  rw [xi] at h2
  have d1 := K.2.1.k hk_1
  have w8 := K.2.1.p (hp_s (k := 8) (by omega) (by omega))
  refine ⟨fun w => absurd (by rw [w]; rfl) h2, fun F e l => ?_⟩
  simp only [q0.2.1, w8] at h7
  rw [xi, e] at g12
  simp only [q0.2.1, d1] at g12
  obtain ⟨rfl, g3⟩ := g12
  have x3 := g3 8 A nf rfl K.2.1 hc.1 hc.2.1 F rfl l
  simp only [q0.2.1, x3, w8] at h13
  obtain ⟨rfl, z, -⟩ := g18
  refine ⟨fun q => absurd ⟨by omega, by omega⟩ q, fun _ => ?_⟩
  rw [q0.2.1, q0.2.2.2.2] at g19
  have R := K.kp g19
  have qs := (R.sk K.1).q
  have v1 := R.2.1.k hk_1
  have v8 := R.2.1.p (hp_s (k := 8) (by omega) (by omega))
  simp only [qs.2.1, v1, v8, xi, e] at g20
  obtain ⟨t1, t2⟩ := g20 8 A nf rfl R.2.1 hc.1 hc.2.1 F rfl l
  have T1 := R.hs t1 t2
  have qt := (T1.sk K.1).q
  have T2 := T1.hs (hHF.w (hp_s (b := 8) (k := 8) (by omega) (by omega))) (T1.2.1.ww (v := Int32.ofInt 0) (hp_s (k := 8) (by omega) (by omega)))
  have qu := (T2.sk K.1).q
  have d3 := T2.2.1.k hk_1
  simp only [qt.2.1, qu.2.1, d3, xi, e] at g21
  obtain ⟨rfl, g6⟩ := g21
  have l6 : F < 6 := by have := hc.2.1; omega
  have x6 := g6 8 _ nf rfl T2.2.1 (by rw [aU_ne (by omega), aU_ne (by omega)]; exact hc.1) hc.2.1 F rfl l
  rw [x6, aU_ne (by omega), aU_at]
  exact ⟨rfl, T2⟩
theorem sp_133_efffx4_ (a0 : Nat) (σ : zSg) (τ1 : zSg) (r1 : Int32) (τ12 : zSg) (r12 : Int32) (τ18 : zSg) (g1 : p_27 (q_r (σ.1 a0 2)) σ r1 τ1) (h2 : r1.toInt ≠ (-1 : Int)) (h7 : (q_i (τ1.1 (q_r (τ1.1 a0 2)) 11)).toInt > (0 : Int)) (g12 : p_16 (q_r (τ1.1 (q_r (τ1.1 a0 2)) 1)) r1 τ1 r12 τ12) (h13 : r12.toInt ≥ (q_i (τ12.1 (q_r (τ12.1 a0 2)) 11)).toInt) (g18 : p_172 a0 (Int32.ofInt (1)) τ12 (.inr 4) τ18) :
    p_133 (a0) σ (.inr 4) τ18 := by
  rintro rfl A nf nt nx n Ms K
  have q0 := K.1.q
  refine fun i4 e4 l4 => ?_
  have hc := K.2.2.2.1
  simp only [q0.2.1] at g1
  obtain ⟨rfl, gi⟩ := g1
  have xi := gi A i4 K.2.1 e4 l4
  rw [xi] at h2
  have d1 := K.2.1.k hk_1
  have w8 := K.2.1.p (hp_s (k := 8) (by omega) (by omega))
  refine ⟨fun w => absurd (by rw [w]; rfl) h2, fun F e l => ?_⟩
  simp only [q0.2.1, w8] at h7
  rw [xi, e] at g12
  simp only [q0.2.1, d1] at g12
  obtain ⟨rfl, g3⟩ := g12
  have x3 := g3 8 A nf rfl K.2.1 hc.1 hc.2.1 F rfl l
  simp only [q0.2.1, x3, w8] at h13
  obtain ⟨rfl, -, z⟩ := g18
  exact absurd (z rfl) (by decide)
noncomputable def qP_133 : zPp := fun as σ o σ' => match as with
  | [a0] => (∃ r, o = .inl (some (.int r)) ∧ p_133 (q_r a0) σ (.inl r) σ') ∨ (o = .inr 4 ∧ p_133 (q_r a0) σ (.inr 4) σ')
  | _ => True
set_option maxRecDepth 100000 in
theorem sp_133 {sx : zX} (S27 : zEe sx 27 1 qP_27) (S172 : zEe sx 172 2 qP_172) (S62 : zEe sx 62 2 qP_62) (S17 : zEe sx 17 3 qP_17) (S16 : zEe sx 16 2 qP_16) : zEe sx 133 1 qP_133 := by
  refine zfle zJ_133 (sps := [(27, 1, qP_27), (172, 2, qP_172), (62, 2, qP_62), (17, 3, qP_17), (16, 2, qP_16)]) (fun q hq => by
    simp only [List.mem_cons, List.not_mem_nil, or_false] at hq
    rcases hq with rfl | rfl | rfl | rfl | rfl
    · exact S27
    · exact S172
    · exact S62
    · exact S17
    · exact S16) (fun as σ hl => ?_)
  match as, hl with
  | [a0], _ =>
  refine ⟨[], 400, ?_, ?_⟩
  · exact fun q hq => absurd hq List.not_mem_nil
  · refine fun o1 τ1 g1 => ?_
    obtain ⟨r1, rfl, g1⟩ := g1
    refine And.intro (fun h2 => ?_) (fun h2 => ?_)
    · refine fun o3 τ3 g3 => ?_
      rcases g3 with ⟨rfl, g3⟩ | ⟨rfl, g3⟩
      · refine fun o4 τ4 g4 => ?_
        obtain ⟨rfl, g4⟩ := g4
        refine fun o5 τ5 g5 => ?_
        obtain ⟨rfl, g5⟩ := g5
        refine fun o6 τ6 g6 => ?_
        obtain ⟨r6, rfl, g6⟩ := g6
        exact Or.inl ⟨_, rfl, sp_133_etn (q_r a0) σ τ1 r1 τ3 τ4 τ5 τ6 r6 g1 (cm0t h2) g3 g4 g5 g6⟩
      · exact Or.inr (⟨rfl, sp_133_etx4_ (q_r a0) σ τ1 r1 τ3 g1 (cm0t h2) g3⟩)
    · refine And.intro (fun h7 => ?_) (fun h7 => ?_)
      · refine fun o8 τ8 g8 => ?_
        rcases g8 with ⟨rfl, g8⟩ | ⟨rfl, g8⟩
        · refine fun o9 τ9 g9 => ?_
          obtain ⟨rfl, g9⟩ := g9
          refine fun o10 τ10 g10 => ?_
          obtain ⟨rfl, g10⟩ := g10
          refine fun o11 τ11 g11 => ?_
          obtain ⟨r11, rfl, g11⟩ := g11
          exact Or.inl ⟨_, rfl, sp_133_eftn (q_r a0) σ τ1 r1 τ8 τ9 τ10 τ11 r11 g1 (cm0f h2) (cm5t h7) g8 g9 g10 g11⟩
        · exact Or.inr (⟨rfl, sp_133_eftx4_ (q_r a0) σ τ1 r1 τ8 g1 (cm0f h2) (cm5t h7) g8⟩)
      · refine fun o12 τ12 g12 => ?_
        obtain ⟨r12, rfl, g12⟩ := g12
        refine And.intro (fun h13 => ?_) (fun h13 => ?_)
        · refine fun o14 τ14 g14 => ?_
          rcases g14 with ⟨rfl, g14⟩ | ⟨rfl, g14⟩
          · refine fun o15 τ15 g15 => ?_
            obtain ⟨rfl, g15⟩ := g15
            refine fun o16 τ16 g16 => ?_
            obtain ⟨rfl, g16⟩ := g16
            refine fun o17 τ17 g17 => ?_
            obtain ⟨r17, rfl, g17⟩ := g17
            exact Or.inl ⟨_, rfl, sp_133_efftn (q_r a0) σ τ1 r1 τ12 r12 τ14 τ15 τ16 τ17 r17 g1 (cm0f h2) (cm5f h7) g12 (cm2t h13) g14 g15 g16 g17⟩
          · exact Or.inr (⟨rfl, sp_133_efftx4_ (q_r a0) σ τ1 r1 τ12 r12 τ14 g1 (cm0f h2) (cm5f h7) g12 (cm2t h13) g14⟩)
        · refine fun o18 τ18 g18 => ?_
          rcases g18 with ⟨rfl, g18⟩ | ⟨rfl, g18⟩
          · refine fun o19 τ19 g19 => ?_
            obtain ⟨rfl, g19⟩ := g19
            refine fun o20 τ20 g20 => ?_
            obtain ⟨rfl, g20⟩ := g20
            refine fun o21 τ21 g21 => ?_
            obtain ⟨r21, rfl, g21⟩ := g21
            exact Or.inl ⟨_, rfl, sp_133_efffn (q_r a0) σ τ1 r1 τ12 r12 τ18 τ19 τ20 τ21 r21 g1 (cm0f h2) (cm5f h7) g12 (cm2f h13) g18 g19 g20 g21⟩
          · exact Or.inr (⟨rfl, sp_133_efffx4_ (q_r a0) σ τ1 r1 τ12 r12 τ18 g1 (cm0f h2) (cm5f h7) g12 (cm2f h13) g18⟩)
