section
/-! small methods of both sides, exact; printed with wip/gen/gen_dc.py -/
theorem p_9.of {σ τ : zSg} {b nf F : Nat} {f r : Int32} {H : Nat → Int32} (G : p_9 (b + 2) f σ r τ) (K : hH σ b H) (h0 : H 0 = Int32.ofNat nf) (h6 : nf ≤ 6) : τ = σ ∧ (r.toInt ≠ 0 ↔ 0 ≤ f.toInt ∧ f.toInt < (nf : Int)) := by
  obtain ⟨g1, g2⟩ := G
  have p0 : q_i (σ.1 (b + 2) 4) = H 0 := K.p hp_0
  rw [p0, h0, o32 (by omega)] at g2
  exact ⟨g1, g2.trans ⟨fun h => ⟨h.1, h.2.1⟩, fun h => ⟨h.1, h.2, by omega⟩⟩⟩
theorem zJ_14 : zJ3 14 z_m14 z_c14 z_h14 := ⟨rfl, rfl, rfl⟩
noncomputable def p_14 (a : Nat) (f h : Int32) (σ : zSg) (r : Int32) (σ' : zSg) : Prop := σ' = σ ∧ ∀ b H nf, a = b + 2 → hH σ b H → H 0 = Int32.ofNat nf → nf ≤ 6 → ∀ F, f = Int32.ofNat F → F < nf → r = if btb (H (43 + 4 * F)) h = true then Int32.ofInt 1 else Int32.ofInt 0
theorem sp_14_et (a0 : Nat) (a1 : Int32) (a2 : Int32) (σ : zSg) (τ1 : zSg) (r1 : Int32) (g1 : p_9 a0 a1 σ r1 τ1) (h2 : r1.toInt = (0 : Int)) :
    p_14 (a0) (a1) (a2) σ (Int32.ofInt (0)) τ1 := by
  obtain ⟨rfl, g⟩ := g1
  refine ⟨rfl, ?_⟩
  rintro b H nf rfl K h0 h6 F rfl hF
  have p0 : q_i (τ1.1 (b + 2) 4) = H 0 := K.p hp_0
  rw [p0, h0, o32 (by omega), o32 (by omega)] at g
  have nF : (Int32.ofNat F).toNatClampNeg = F := o32n (by omega)
  exact absurd h2 (g.mpr (by omega))
theorem sp_14_eft (a0 : Nat) (a1 : Int32) (a2 : Int32) (σ : zSg) (τ1 : zSg) (r1 : Int32) (g1 : p_9 a0 a1 σ r1 τ1) (h2 : r1.toInt ≠ (0 : Int)) (h3 : 0 ≤ a1.toInt ∧ a1.toInt < (τ1.2.1 (q_r (τ1.1 a0 3)) : Int)) (h4 : (((q_i (τ1.1 (q_r (τ1.1 a0 3)) a1.toNatClampNeg)) >>> (a2 &&& 31)) &&& (Int32.ofInt (1))).toInt ≠ (1 : Int)) :
    p_14 (a0) (a1) (a2) σ (Int32.ofInt (0)) τ1 := by
  obtain ⟨rfl, g⟩ := g1
  refine ⟨rfl, ?_⟩
  rintro b H nf rfl K h0 h6 F rfl hF
  have p0 : q_i (τ1.1 (b + 2) 4) = H 0 := K.p hp_0
  rw [p0, h0, o32 (by omega), o32 (by omega)] at g
  have nF : (Int32.ofNat F).toNatClampNeg = F := o32n (by omega)
  have d3 := K.k hk_f3
  have p3 := K.p (hp_f3 (f := F) (by omega))
  simp only [d3, nF, p3] at h4
  exact (if_neg (fun q => h4 (of_decide_eq_true q))).symm
theorem sp_14_eff (a0 : Nat) (a1 : Int32) (a2 : Int32) (σ : zSg) (τ1 : zSg) (r1 : Int32) (g1 : p_9 a0 a1 σ r1 τ1) (h2 : r1.toInt ≠ (0 : Int)) (h3 : 0 ≤ a1.toInt ∧ a1.toInt < (τ1.2.1 (q_r (τ1.1 a0 3)) : Int)) (h4 : (((q_i (τ1.1 (q_r (τ1.1 a0 3)) a1.toNatClampNeg)) >>> (a2 &&& 31)) &&& (Int32.ofInt (1))).toInt = (1 : Int)) :
    p_14 (a0) (a1) (a2) σ (Int32.ofInt (1)) τ1 := by
  obtain ⟨rfl, g⟩ := g1
  refine ⟨rfl, ?_⟩
  rintro b H nf rfl K h0 h6 F rfl hF
  have p0 : q_i (τ1.1 (b + 2) 4) = H 0 := K.p hp_0
  rw [p0, h0, o32 (by omega), o32 (by omega)] at g
  have nF : (Int32.ofNat F).toNatClampNeg = F := o32n (by omega)
  have d3 := K.k hk_f3
  have p3 := K.p (hp_f3 (f := F) (by omega))
  simp only [d3, nF, p3] at h4
  exact (if_pos (decide_eq_true h4)).symm
noncomputable def qP_14 : zPp := fun as σ o σ' => match as with
  | [a0, a1, a2] => ∃ r, o = .inl (some (.int r)) ∧ p_14 (q_r a0) (q_i a1) (q_i a2) σ r σ'
  | _ => True
set_option maxRecDepth 100000 in
theorem sp_14 {sx : zX} (S9 : zEe sx 9 2 qP_9) : zEe sx 14 3 qP_14 := by
  refine zfle zJ_14 (sps := [(9, 2, qP_9)]) (fun q hq => by
    simp only [List.mem_cons, List.not_mem_nil, or_false] at hq
    rcases hq with rfl
    · exact S9) (fun as σ hl => ?_)
  match as, hl with
  | [a0, a1, a2], _ =>
  refine ⟨[], 400, ?_, ?_⟩
  · exact fun q hq => absurd hq List.not_mem_nil
  · refine fun o1 τ1 g1 => ?_
    obtain ⟨r1, rfl, g1⟩ := g1
    refine And.intro (fun h2 => ?_) (fun h2 => ?_)
    · exact ⟨_, rfl, sp_14_et (q_r a0) (q_i a1) (q_i a2) σ τ1 r1 g1 (cm0t h2)⟩
    · refine fun h3 => ?_
      refine And.intro (fun h4 => ?_) (fun h4 => ?_)
      · exact ⟨_, rfl, sp_14_eft (q_r a0) (q_i a1) (q_i a2) σ τ1 r1 g1 (cm0f h2) (q_inp h3) (cm1t h4)⟩
      · exact ⟨_, rfl, sp_14_eff (q_r a0) (q_i a1) (q_i a2) σ τ1 r1 g1 (cm0f h2) (q_inp h3) (cm1f h4)⟩
theorem zJ_16 : zJ3 16 z_m16 z_c16 z_h16 := ⟨rfl, rfl, rfl⟩
noncomputable def p_16 (a : Nat) (f : Int32) (σ : zSg) (r : Int32) (σ' : zSg) : Prop := σ' = σ ∧ ∀ b H nf, a = b + 2 → hH σ b H → H 0 = Int32.ofNat nf → nf ≤ 6 → ∀ F, f = Int32.ofNat F → F < nf → r = H (40 + 4 * F)
theorem sp_16_et (a0 : Nat) (a1 : Int32) (σ : zSg) (τ1 : zSg) (r1 : Int32) (g1 : p_9 a0 a1 σ r1 τ1) (h2 : r1.toInt = (0 : Int)) :
    p_16 (a0) (a1) σ (Int32.ofInt (0)) τ1 := by
  obtain ⟨rfl, g⟩ := g1
  refine ⟨rfl, ?_⟩
  rintro b H nf rfl K h0 h6 F rfl hF
  have p0 : q_i (τ1.1 (b + 2) 4) = H 0 := K.p hp_0
  rw [p0, h0, o32 (by omega), o32 (by omega)] at g
  have nF : (Int32.ofNat F).toNatClampNeg = F := o32n (by omega)
  exact absurd h2 (g.mpr (by omega))
theorem sp_16_ef (a0 : Nat) (a1 : Int32) (σ : zSg) (τ1 : zSg) (r1 : Int32) (g1 : p_9 a0 a1 σ r1 τ1) (h2 : r1.toInt ≠ (0 : Int)) (h3 : 0 ≤ a1.toInt ∧ a1.toInt < (τ1.2.1 (q_r (τ1.1 a0 0)) : Int)) :
    p_16 (a0) (a1) σ (q_i (τ1.1 (q_r (τ1.1 a0 0)) a1.toNatClampNeg)) τ1 := by
  obtain ⟨rfl, g⟩ := g1
  refine ⟨rfl, ?_⟩
  rintro b H nf rfl K h0 h6 F rfl hF
  have p0 : q_i (τ1.1 (b + 2) 4) = H 0 := K.p hp_0
  rw [p0, h0, o32 (by omega), o32 (by omega)] at g
  have nF : (Int32.ofNat F).toNatClampNeg = F := o32n (by omega)
  have d3 := K.k hk_f0
  have p3 := K.p (hp_f0 (f := F) (by omega))
  simp only [d3, nF, p3]
noncomputable def qP_16 : zPp := fun as σ o σ' => match as with
  | [a0, a1] => ∃ r, o = .inl (some (.int r)) ∧ p_16 (q_r a0) (q_i a1) σ r σ'
  | _ => True
set_option maxRecDepth 100000 in
theorem sp_16 {sx : zX} (S9 : zEe sx 9 2 qP_9) : zEe sx 16 2 qP_16 := by
  refine zfle zJ_16 (sps := [(9, 2, qP_9)]) (fun q hq => by
    simp only [List.mem_cons, List.not_mem_nil, or_false] at hq
    rcases hq with rfl
    · exact S9) (fun as σ hl => ?_)
  match as, hl with
  | [a0, a1], _ =>
  refine ⟨[], 400, ?_, ?_⟩
  · exact fun q hq => absurd hq List.not_mem_nil
  · refine fun o1 τ1 g1 => ?_
    obtain ⟨r1, rfl, g1⟩ := g1
    refine And.intro (fun h2 => ?_) (fun h2 => ?_)
    · exact ⟨_, rfl, sp_16_et (q_r a0) (q_i a1) σ τ1 r1 g1 (cm0t h2)⟩
    · refine fun h3 => ?_
      exact ⟨_, rfl, sp_16_ef (q_r a0) (q_i a1) σ τ1 r1 g1 (cm0f h2) (q_inp h3)⟩
noncomputable def aPy (p s : Int32) : Int32 := if Int32.ofInt 0 < p - s then p - s else Int32.ofInt 0
noncomputable def aEn (p s : Int32) : Int32 := if p + s < Int32.ofInt 9999 then p + s else Int32.ofInt 9999
theorem zJ_17 : zJ3 17 z_m17 z_c17 z_h17 := ⟨rfl, rfl, rfl⟩
noncomputable def p_17 (a : Nat) (f s : Int32) (σ σ' : zSg) : Prop := ∀ b H nf, a = b + 2 → hH σ b H → H 0 = Int32.ofNat nf → nf ≤ 6 → ∀ F, f = Int32.ofNat F → F < nf → hHF b σ σ' ∧ hH σ' b (aU H (40 + 4 * F) (aPy (H (40 + 4 * F)) s))
theorem sp_17_et (a0 : Nat) (a1 : Int32) (a2 : Int32) (σ : zSg) (τ1 : zSg) (r1 : Int32) (g1 : p_9 a0 a1 σ r1 τ1) (h2 : r1.toInt = (0 : Int)) :
    p_17 (a0) (a1) (a2) σ τ1 := by
  obtain ⟨rfl, g⟩ := g1
  rintro b H nf rfl K h0 h6 F rfl hF
  have p0 : q_i (τ1.1 (b + 2) 4) = H 0 := K.p hp_0
  rw [p0, h0, o32 (by omega), o32 (by omega)] at g
  have nF : (Int32.ofNat F).toNatClampNeg = F := o32n (by omega)
  exact absurd h2 (g.mpr (by omega))
theorem sp_17_ef (a0 : Nat) (a1 : Int32) (a2 : Int32) (σ : zSg) (τ1 : zSg) (r1 : Int32) (g1 : p_9 a0 a1 σ r1 τ1) (h2 : r1.toInt ≠ (0 : Int)) (h3 : 0 ≤ a1.toInt ∧ a1.toInt < (τ1.2.1 (q_r (τ1.1 a0 0)) : Int)) (h4 : 0 ≤ a1.toInt ∧ a1.toInt < (τ1.2.1 (q_r (τ1.1 a0 0)) : Int)) :
    p_17 (a0) (a1) (a2) σ (q_w τ1 (q_r (τ1.1 a0 0)) a1.toNatClampNeg (.int (if (Int32.ofInt (0)) < ((q_i (τ1.1 (q_r (τ1.1 a0 0)) a1.toNatClampNeg)) - a2) then ((q_i (τ1.1 (q_r (τ1.1 a0 0)) a1.toNatClampNeg)) - a2) else (Int32.ofInt (0))))) := by
  obtain ⟨rfl, g⟩ := g1
  rintro b H nf rfl K h0 h6 F rfl hF
  have p0 : q_i (τ1.1 (b + 2) 4) = H 0 := K.p hp_0
  rw [p0, h0, o32 (by omega), o32 (by omega)] at g
  have nF : (Int32.ofNat F).toNatClampNeg = F := o32n (by omega)
  have d3 := K.k hk_f0
  have p3 := K.p (hp_f0 (f := F) (by omega))
  simp only [d3, nF, p3]
  exact ⟨hHF.w (hp_f0 (by omega)), K.ww (hp_f0 (by omega))⟩
noncomputable def qP_17 : zPp := fun as σ o σ' => match as with
  | [a0, a1, a2] => o = .inl none ∧ p_17 (q_r a0) (q_i a1) (q_i a2) σ σ'
  | _ => True
set_option maxRecDepth 100000 in
theorem sp_17 {sx : zX} (S9 : zEe sx 9 2 qP_9) : zEe sx 17 3 qP_17 := by
  refine zfle zJ_17 (sps := [(9, 2, qP_9)]) (fun q hq => by
    simp only [List.mem_cons, List.not_mem_nil, or_false] at hq
    rcases hq with rfl
    · exact S9) (fun as σ hl => ?_)
  match as, hl with
  | [a0, a1, a2], _ =>
  refine ⟨[], 400, ?_, ?_⟩
  · exact fun q hq => absurd hq List.not_mem_nil
  · refine fun o1 τ1 g1 => ?_
    obtain ⟨r1, rfl, g1⟩ := g1
    refine And.intro (fun h2 => ?_) (fun h2 => ?_)
    · exact ⟨rfl, sp_17_et (q_r a0) (q_i a1) (q_i a2) σ τ1 r1 g1 (cm0t h2)⟩
    · refine fun h3 => ?_
      refine fun h4 => ?_
      exact ⟨rfl, sp_17_ef (q_r a0) (q_i a1) (q_i a2) σ τ1 r1 g1 (cm0f h2) (q_inp h3) (q_inp h4)⟩
theorem zJ_18 : zJ3 18 z_m18 z_c18 z_h18 := ⟨rfl, rfl, rfl⟩
noncomputable def p_18 (a : Nat) (f s : Int32) (σ σ' : zSg) : Prop := ∀ b H nf, a = b + 2 → hH σ b H → H 0 = Int32.ofNat nf → nf ≤ 6 → ∀ F, f = Int32.ofNat F → F < nf → hHF b σ σ' ∧ hH σ' b (aU H (40 + 4 * F) (aEn (H (40 + 4 * F)) s))
theorem sp_18_et (a0 : Nat) (a1 : Int32) (a2 : Int32) (σ : zSg) (τ1 : zSg) (r1 : Int32) (g1 : p_9 a0 a1 σ r1 τ1) (h2 : r1.toInt = (0 : Int)) :
    p_18 (a0) (a1) (a2) σ τ1 := by
  obtain ⟨rfl, g⟩ := g1
  rintro b H nf rfl K h0 h6 F rfl hF
  have p0 : q_i (τ1.1 (b + 2) 4) = H 0 := K.p hp_0
  rw [p0, h0, o32 (by omega), o32 (by omega)] at g
  have nF : (Int32.ofNat F).toNatClampNeg = F := o32n (by omega)
  exact absurd h2 (g.mpr (by omega))
theorem sp_18_ef (a0 : Nat) (a1 : Int32) (a2 : Int32) (σ : zSg) (τ1 : zSg) (r1 : Int32) (g1 : p_9 a0 a1 σ r1 τ1) (h2 : r1.toInt ≠ (0 : Int)) (h3 : 0 ≤ a1.toInt ∧ a1.toInt < (τ1.2.1 (q_r (τ1.1 a0 0)) : Int)) (h4 : 0 ≤ a1.toInt ∧ a1.toInt < (τ1.2.1 (q_r (τ1.1 a0 0)) : Int)) :
    p_18 (a0) (a1) (a2) σ (q_w τ1 (q_r (τ1.1 a0 0)) a1.toNatClampNeg (.int (if ((q_i (τ1.1 (q_r (τ1.1 a0 0)) a1.toNatClampNeg)) + a2) < (Int32.ofInt (9999)) then ((q_i (τ1.1 (q_r (τ1.1 a0 0)) a1.toNatClampNeg)) + a2) else (Int32.ofInt (9999))))) := by
  obtain ⟨rfl, g⟩ := g1
  rintro b H nf rfl K h0 h6 F rfl hF
  have p0 : q_i (τ1.1 (b + 2) 4) = H 0 := K.p hp_0
  rw [p0, h0, o32 (by omega), o32 (by omega)] at g
  have nF : (Int32.ofNat F).toNatClampNeg = F := o32n (by omega)
  have d3 := K.k hk_f0
  have p3 := K.p (hp_f0 (f := F) (by omega))
  simp only [d3, nF, p3]
  exact ⟨hHF.w (hp_f0 (by omega)), K.ww (hp_f0 (by omega))⟩
noncomputable def qP_18 : zPp := fun as σ o σ' => match as with
  | [a0, a1, a2] => o = .inl none ∧ p_18 (q_r a0) (q_i a1) (q_i a2) σ σ'
  | _ => True
set_option maxRecDepth 100000 in
theorem sp_18 {sx : zX} (S9 : zEe sx 9 2 qP_9) : zEe sx 18 3 qP_18 := by
  refine zfle zJ_18 (sps := [(9, 2, qP_9)]) (fun q hq => by
    simp only [List.mem_cons, List.not_mem_nil, or_false] at hq
    rcases hq with rfl
    · exact S9) (fun as σ hl => ?_)
  match as, hl with
  | [a0, a1, a2], _ =>
  refine ⟨[], 400, ?_, ?_⟩
  · exact fun q hq => absurd hq List.not_mem_nil
  · refine fun o1 τ1 g1 => ?_
    obtain ⟨r1, rfl, g1⟩ := g1
    refine And.intro (fun h2 => ?_) (fun h2 => ?_)
    · exact ⟨rfl, sp_18_et (q_r a0) (q_i a1) (q_i a2) σ τ1 r1 g1 (cm0t h2)⟩
    · refine fun h3 => ?_
      refine fun h4 => ?_
      exact ⟨rfl, sp_18_ef (q_r a0) (q_i a1) (q_i a2) σ τ1 r1 g1 (cm0f h2) (q_inp h3) (q_inp h4)⟩
theorem zJ_26 : zJ3 26 z_m26 z_c26 z_h26 := ⟨rfl, rfl, rfl⟩
noncomputable def p_26 (a : Nat) (t : Int32) (σ : zSg) (r : Int32) (σ' : zSg) : Prop := σ' = σ ∧ ∀ H n, hH σ a H → t = Int32.ofNat n → n < 24 → r = H (16 + n)
theorem sp_26_e (a0 : Nat) (a1 : Int32) (σ : zSg) (τ1 : zSg) (r1 : Int32) (g1 : p_312 a1 (Int32.ofInt (24)) σ r1 τ1) (h2 : 0 ≤ r1.toInt ∧ r1.toInt < (τ1.2.1 (q_r (σ.1 a0 0)) : Int)) :
    p_26 (a0) (a1) σ (q_i (τ1.1 (q_r (σ.1 a0 0)) r1.toNatClampNeg)) τ1 := by
  obtain ⟨rfl, g⟩ := g1
  refine ⟨rfl, ?_⟩
  rintro H n K rfl hn
  have e := g rfl 0 n (by omega) hn (by rw [show Int32.ofNat 0 = 0 from rfl, Int32.sub_zero])
  rw [show (n + 24 - 0) % 24 = n by omega] at e
  rw [e, o32n (by omega), K.k hk_0]
  exact K.p (hp_h hn)
noncomputable def qP_26 : zPp := fun as σ o σ' => match as with
  | [a0, a1] => ∃ r, o = .inl (some (.int r)) ∧ p_26 (q_r a0) (q_i a1) σ r σ'
  | _ => True
set_option maxRecDepth 100000 in
theorem sp_26 {sx : zX} (S312 : zEe sx 312 2 qP_312) : zEe sx 26 2 qP_26 := by
  refine zfle zJ_26 (sps := [(312, 2, qP_312)]) (fun q hq => by
    simp only [List.mem_cons, List.not_mem_nil, or_false] at hq
    rcases hq with rfl
    · exact S312) (fun as σ hl => ?_)
  match as, hl with
  | [a0, a1], _ =>
  refine ⟨[], 400, ?_, ?_⟩
  · exact fun q hq => absurd hq List.not_mem_nil
  · refine fun o1 τ1 g1 => ?_
    obtain ⟨r1, rfl, g1⟩ := g1
    refine fun h2 => ?_
    exact ⟨_, rfl, sp_26_e (q_r a0) (q_i a1) σ τ1 r1 g1 (q_inp h2)⟩
theorem zJ_27 : zJ3 27 z_m27 z_c27 z_h27 := ⟨rfl, rfl, rfl⟩
noncomputable def p_27 (a : Nat) (σ : zSg) (r : Int32) (σ' : zSg) : Prop := σ' = σ ∧ ∀ H n, hH σ a H → H 4 = Int32.ofNat n → n < 24 → r = H (16 + n)
theorem sp_27_e (a0 : Nat) (σ : zSg) (τ1 : zSg) (r1 : Int32) (g1 : p_26 a0 (q_i (σ.1 a0 7)) σ r1 τ1) :
    p_27 (a0) σ r1 τ1 := by
  obtain ⟨rfl, g⟩ := g1
  refine ⟨rfl, fun H n K h4 hn => ?_⟩
  exact g H n K ((K.p (hp_s (k := 4) (by omega) (by omega))).trans h4) hn
noncomputable def qP_27 : zPp := fun as σ o σ' => match as with
  | [a0] => ∃ r, o = .inl (some (.int r)) ∧ p_27 (q_r a0) σ r σ'
  | _ => True
set_option maxRecDepth 100000 in
theorem sp_27 {sx : zX} (S26 : zEe sx 26 2 qP_26) : zEe sx 27 1 qP_27 := by
  refine zfle zJ_27 (sps := [(26, 2, qP_26)]) (fun q hq => by
    simp only [List.mem_cons, List.not_mem_nil, or_false] at hq
    rcases hq with rfl
    · exact S26) (fun as σ hl => ?_)
  match as, hl with
  | [a0], _ =>
  refine ⟨[], 400, ?_, ?_⟩
  · exact fun q hq => absurd hq List.not_mem_nil
  · refine fun o1 τ1 g1 => ?_
    obtain ⟨r1, rfl, g1⟩ := g1
    exact ⟨_, rfl, sp_27_e (q_r a0) σ τ1 r1 g1⟩
theorem zJ_102 : zJ3 102 z_m102 z_c102 z_h102 := ⟨rfl, rfl, rfl⟩
noncomputable def p_102 (a : Nat) (t : Int32) (σ : zSg) (r : Int32) (σ' : zSg) : Prop := σ' = σ ∧ (r.toInt ≠ 0 ↔ 0 ≤ t.toInt ∧ t.toInt < (q_i (σ.1 a 3)).toInt ∧ t.toInt < 8)
theorem sp_102_et (a0 : Nat) (a1 : Int32) (σ : zSg) (h1 : a1.toInt < (0 : Int)) :
    p_102 (a0) (a1) σ (Int32.ofInt (0)) σ := by
  exact ⟨rfl, fun h => absurd rfl h, fun h => by omega⟩
theorem sp_102_eft (a0 : Nat) (a1 : Int32) (σ : zSg) (h1 : a1.toInt ≥ (0 : Int)) (h2 : a1.toInt ≥ (q_i (σ.1 a0 3)).toInt) :
    p_102 (a0) (a1) σ (Int32.ofInt (0)) σ := by
  exact ⟨rfl, fun h => absurd rfl h, fun h => by omega⟩
theorem sp_102_efft (a0 : Nat) (a1 : Int32) (σ : zSg) (h1 : a1.toInt ≥ (0 : Int)) (h2 : a1.toInt < (q_i (σ.1 a0 3)).toInt) (h3 : a1.toInt ≥ (8 : Int)) :
    p_102 (a0) (a1) σ (Int32.ofInt (0)) σ := by
  exact ⟨rfl, fun h => absurd rfl h, fun h => by omega⟩
theorem sp_102_efff (a0 : Nat) (a1 : Int32) (σ : zSg) (h1 : a1.toInt ≥ (0 : Int)) (h2 : a1.toInt < (q_i (σ.1 a0 3)).toInt) (h3 : a1.toInt < (8 : Int)) :
    p_102 (a0) (a1) σ (Int32.ofInt (1)) σ := by
  exact ⟨rfl, fun _ => ⟨by omega, by omega, by omega⟩, fun _ => by decide⟩
noncomputable def qP_102 : zPp := fun as σ o σ' => match as with
  | [a0, a1] => ∃ r, o = .inl (some (.int r)) ∧ p_102 (q_r a0) (q_i a1) σ r σ'
  | _ => True
set_option maxRecDepth 100000 in
theorem sp_102 {sx : zX}  : zEe sx 102 2 qP_102 := by
  refine zfle zJ_102 (sps := []) (fun q hq => absurd hq List.not_mem_nil) (fun as σ hl => ?_)
  match as, hl with
  | [a0, a1], _ =>
  refine ⟨[], 400, ?_, ?_⟩
  · exact fun q hq => absurd hq List.not_mem_nil
  · refine And.intro (fun h1 => ?_) (fun h1 => ?_)
    · exact ⟨_, rfl, sp_102_et (q_r a0) (q_i a1) σ (cm2t h1)⟩
    · refine And.intro (fun h2 => ?_) (fun h2 => ?_)
      · exact ⟨_, rfl, sp_102_eft (q_r a0) (q_i a1) σ (cm2f h1) (cm3t h2)⟩
      · refine And.intro (fun h3 => ?_) (fun h3 => ?_)
        · exact ⟨_, rfl, sp_102_efft (q_r a0) (q_i a1) σ (cm2f h1) (cm3f h2) (cm3t h3)⟩
        · exact ⟨_, rfl, sp_102_efff (q_r a0) (q_i a1) σ (cm2f h1) (cm3f h2) (cm3f h3)⟩
theorem zJ_105 : zJ3 105 z_m105 z_c105 z_h105 := ⟨rfl, rfl, rfl⟩
noncomputable def p_105 (a : Nat) (t : Int32) (σ : zSg) (r : Int32) (σ' : zSg) : Prop := σ' = σ ∧ ∀ b H, a = b + 7 → hH σ b H → ∀ T, t = Int32.ofNat T → T < 8 → r = H (66 + 3 * T)
theorem sp_105_et (a0 : Nat) (a1 : Int32) (σ : zSg) (h1 : (((q_i (σ.1 a0 2)) >>> (a1 &&& 31)) &&& (Int32.ofInt (1))).toInt ≠ (1 : Int)) :
    p_105 (a0) (a1) σ (Int32.ofInt (0)) σ := by
  refine ⟨rfl, ?_⟩
  rintro b H rfl K T rfl hT
  obtain ⟨l, hl, hl'⟩ := K.2.2.1
  rw [hl' T hT]
  simp only [hl, q_ii] at h1
  exact (if_neg (fun q => h1 (of_decide_eq_true q))).symm
theorem sp_105_ef (a0 : Nat) (a1 : Int32) (σ : zSg) (h1 : (((q_i (σ.1 a0 2)) >>> (a1 &&& 31)) &&& (Int32.ofInt (1))).toInt = (1 : Int)) :
    p_105 (a0) (a1) σ (Int32.ofInt (1)) σ := by
  refine ⟨rfl, ?_⟩
  rintro b H rfl K T rfl hT
  obtain ⟨l, hl, hl'⟩ := K.2.2.1
  rw [hl' T hT]
  simp only [hl, q_ii] at h1
  exact (if_pos (decide_eq_true h1)).symm
noncomputable def qP_105 : zPp := fun as σ o σ' => match as with
  | [a0, a1] => ∃ r, o = .inl (some (.int r)) ∧ p_105 (q_r a0) (q_i a1) σ r σ'
  | _ => True
set_option maxRecDepth 100000 in
theorem sp_105 {sx : zX}  : zEe sx 105 2 qP_105 := by
  refine zfle zJ_105 (sps := []) (fun q hq => absurd hq List.not_mem_nil) (fun as σ hl => ?_)
  match as, hl with
  | [a0, a1], _ =>
  refine ⟨[], 400, ?_, ?_⟩
  · exact fun q hq => absurd hq List.not_mem_nil
  · refine And.intro (fun h1 => ?_) (fun h1 => ?_)
    · exact ⟨_, rfl, sp_105_et (q_r a0) (q_i a1) σ (cm1t h1)⟩
    · exact ⟨_, rfl, sp_105_ef (q_r a0) (q_i a1) σ (cm1f h1)⟩
theorem zJ_107 : zJ3 107 z_m107 z_c107 z_h107 := ⟨rfl, rfl, rfl⟩
noncomputable def p_107 (a : Nat) (t : Int32) (σ σ' : zSg) : Prop := σ' = q_w σ a 2 (.int (q_i (σ.1 a 2) &&& ((Int32.ofInt 1 <<< (t &&& 31)) ^^^ Int32.ofInt (-1))))
theorem sp_107_e (a0 : Nat) (a1 : Int32) (σ : zSg)  :
    p_107 (a0) (a1) σ (q_w σ a0 2 (.int ((q_i (σ.1 a0 2)) &&& (((Int32.ofInt (1)) <<< (a1 &&& 31)) ^^^ (Int32.ofInt (-1)))))) := by
  exact rfl
noncomputable def qP_107 : zPp := fun as σ o σ' => match as with
  | [a0, a1] => o = .inl none ∧ p_107 (q_r a0) (q_i a1) σ σ'
  | _ => True
set_option maxRecDepth 100000 in
theorem sp_107 {sx : zX}  : zEe sx 107 2 qP_107 := by
  refine zfle zJ_107 (sps := []) (fun q hq => absurd hq List.not_mem_nil) (fun as σ hl => ?_)
  match as, hl with
  | [a0, a1], _ =>
  refine ⟨[], 400, ?_, ?_⟩
  · exact fun q hq => absurd hq List.not_mem_nil
  · exact ⟨rfl, sp_107_e (q_r a0) (q_i a1) σ ⟩
noncomputable def aSm (f : Nat → Int32) : Nat → Int32
  | 0 => Int32.ofInt 0
  | n + 1 => aSm f n + f n
theorem aSm_cg {f g : Nat → Int32} : ∀ n, (∀ k, k < n → f k = g k) → aSm f n = aSm g n
  | 0, _ => rfl
  | n + 1, h => by
    show aSm f n + f n = aSm g n + g n
    rw [aSm_cg n (fun k hk => h k (by omega)), h n (by omega)]
noncomputable def aB1 (H : Nat → Int32) (g : Int32) (t : Nat) : Int32 := if H (66 + 3 * t) = Int32.ofInt 1 ∧ H (64 + 3 * t) ≠ g then H (65 + 3 * t) else Int32.ofInt 0
noncomputable def aBo (H : Nat → Int32) (g : Int32) (n : Nat) : Int32 := aSm (aB1 H g) n
theorem if1 {c : Bool} : ((if c = true then Int32.ofInt 1 else Int32.ofInt 0) = Int32.ofInt 1) ↔ c = true := by cases c <;> decide
theorem zJ_109 : zJ3 109 z_m109 z_c109 z_h109 := ⟨rfl, rfl, rfl⟩
noncomputable def p_109 (a : Nat) (g : Int32) (σ : zSg) (r : Int32) (σ' : zSg) : Prop := ∀ b H nt, a = b + 7 → hH σ b H → H 1 = Int32.ofNat nt → nt ≤ 8 → σ' = σ ∧ r = aBo H g nt
noncomputable def i_109 (a : Nat) (g : Int32) (σ : zSg) (l0 : Nat) (l1 l2 l3 : Int32) (τ : zSg) : Prop := l0 = a ∧ l1 = g ∧ ∀ b H nt, a = b + 7 → hH σ b H → H 1 = Int32.ofNat nt → nt ≤ 8 → τ = σ ∧ ∃ n, n ≤ nt ∧ l3 = Int32.ofNat n ∧ l2 = aBo H g n
theorem sp_109_e (a0 : Nat) (a1 : Int32) (σ : zSg)  :
    i_109 a0 a1 σ a0 a1 (Int32.ofInt (0)) (Int32.ofInt (0)) σ := by
  exact ⟨rfl, rfl, fun b H nt _ _ _ _ => ⟨rfl, 0, by omega, rfl, rfl⟩⟩
theorem sp_109_c4_t (a0 : Nat) (a1 : Int32) (σ : zSg) (l0 : Nat) (l1 : Int32) (l2 : Int32) (l3 : Int32) (τ : zSg) (hI : i_109 a0 a1 σ l0 l1 l2 l3 τ) (h1 : l3.toInt ≥ (q_i (τ.1 l0 3)).toInt) :
    p_109 (a0) (a1) σ l2 τ := by
  obtain ⟨rfl, rfl, hI⟩ := hI
  rintro b H nt rfl K u1 u8
  obtain ⟨rfl, n, hn, rfl, rfl⟩ := hI b H nt rfl K u1 u8
  have p1 := (K.p hp_1).trans u1
  rw [p1, o32 (by omega), o32 (by omega)] at h1
  exact ⟨rfl, by rw [show n = nt by omega]⟩
theorem sp_109_c4_ft (a0 : Nat) (a1 : Int32) (σ : zSg) (l0 : Nat) (l1 : Int32) (l2 : Int32) (l3 : Int32) (τ : zSg) (hI : i_109 a0 a1 σ l0 l1 l2 l3 τ) (h1 : l3.toInt < (q_i (τ.1 l0 3)).toInt) (h2 : (((q_i (τ.1 l0 2)) >>> (l3 &&& 31)) &&& (Int32.ofInt (1))).toInt ≠ (1 : Int)) :
    i_109 a0 a1 σ l0 l1 l2 (l3 + Int32.ofInt (1)) τ := by
  obtain ⟨rfl, rfl, hI⟩ := hI
  refine ⟨rfl, rfl, ?_⟩
  rintro b H nt rfl K u1 u8
  obtain ⟨rfl, n, hn, rfl, rfl⟩ := hI b H nt rfl K u1 u8
  have p1 := (K.p hp_1).trans u1
  rw [p1, o32 (by omega), o32 (by omega)] at h1
  have nn : (Int32.ofNat n).toNatClampNeg = n := o32n (by omega)
  obtain ⟨l, hl, hl'⟩ := K.2.2.1
  have hb := hl' n (by omega)
  simp only [hl, q_ii] at h2
  refine ⟨rfl, n + 1, by omega, o32i (by omega), ?_⟩
  show _ = aBo H l1 n + aB1 H l1 n
  have : aB1 H l1 n = 0 := by
    unfold aB1
    rw [if_neg]
    · rfl
    rintro ⟨q, -⟩
    rw [hb, if1] at q
    exact h2 (of_decide_eq_true q)
  rw [this, Int32.add_zero]
theorem sp_109_c4_fft (a0 : Nat) (a1 : Int32) (σ : zSg) (l0 : Nat) (l1 : Int32) (l2 : Int32) (l3 : Int32) (τ : zSg) (hI : i_109 a0 a1 σ l0 l1 l2 l3 τ) (h1 : l3.toInt < (q_i (τ.1 l0 3)).toInt) (h2 : (((q_i (τ.1 l0 2)) >>> (l3 &&& 31)) &&& (Int32.ofInt (1))).toInt = (1 : Int)) (h3 : 0 ≤ l3.toInt ∧ l3.toInt < (τ.2.1 (q_r (τ.1 l0 0)) : Int)) (h4 : (q_i (τ.1 (q_r (τ.1 l0 0)) l3.toNatClampNeg)).toInt = l1.toInt) :
    i_109 a0 a1 σ l0 l1 l2 (l3 + Int32.ofInt (1)) τ := by
  obtain ⟨rfl, rfl, hI⟩ := hI
  refine ⟨rfl, rfl, ?_⟩
  rintro b H nt rfl K u1 u8
  obtain ⟨rfl, n, hn, rfl, rfl⟩ := hI b H nt rfl K u1 u8
  have p1 := (K.p hp_1).trans u1
  rw [p1, o32 (by omega), o32 (by omega)] at h1
  have nn : (Int32.ofNat n).toNatClampNeg = n := o32n (by omega)
  obtain ⟨l, hl, hl'⟩ := K.2.2.1
  have hb := hl' n (by omega)
  simp only [hl, q_ii] at h2
  have d0 := K.k hk_t0
  have p2 := K.p (hp_o (t := n) (by omega))
  simp only [d0, nn, p2] at h4
  refine ⟨rfl, n + 1, by omega, o32i (by omega), ?_⟩
  show _ = aBo H l1 n + aB1 H l1 n
  have : aB1 H l1 n = 0 := by
    unfold aB1
    rw [if_neg]
    · rfl
    rintro ⟨-, q⟩
    exact q (Int32.toInt_inj.mp h4)
  rw [this, Int32.add_zero]
theorem sp_109_c4_fff (a0 : Nat) (a1 : Int32) (σ : zSg) (l0 : Nat) (l1 : Int32) (l2 : Int32) (l3 : Int32) (τ : zSg) (hI : i_109 a0 a1 σ l0 l1 l2 l3 τ) (h1 : l3.toInt < (q_i (τ.1 l0 3)).toInt) (h2 : (((q_i (τ.1 l0 2)) >>> (l3 &&& 31)) &&& (Int32.ofInt (1))).toInt = (1 : Int)) (h3 : 0 ≤ l3.toInt ∧ l3.toInt < (τ.2.1 (q_r (τ.1 l0 0)) : Int)) (h4 : (q_i (τ.1 (q_r (τ.1 l0 0)) l3.toNatClampNeg)).toInt ≠ l1.toInt) (h5 : 0 ≤ l3.toInt ∧ l3.toInt < (τ.2.1 (q_r (τ.1 l0 1)) : Int)) :
    i_109 a0 a1 σ l0 l1 (l2 + (q_i (τ.1 (q_r (τ.1 l0 1)) l3.toNatClampNeg))) (l3 + Int32.ofInt (1)) τ := by
  obtain ⟨rfl, rfl, hI⟩ := hI
  refine ⟨rfl, rfl, ?_⟩
  rintro b H nt rfl K u1 u8
  obtain ⟨rfl, n, hn, rfl, rfl⟩ := hI b H nt rfl K u1 u8
  have p1 := (K.p hp_1).trans u1
  rw [p1, o32 (by omega), o32 (by omega)] at h1
  have nn : (Int32.ofNat n).toNatClampNeg = n := o32n (by omega)
  obtain ⟨l, hl, hl'⟩ := K.2.2.1
  have hb := hl' n (by omega)
  simp only [hl, q_ii] at h2
  have d0 := K.k hk_t0
  have d1 := K.k hk_t1
  have p2 := K.p (hp_o (t := n) (by omega))
  have p3 := K.p (hp_b (t := n) (by omega))
  simp only [d0, nn, p2] at h4
  simp only [d1, nn, p3]
  refine ⟨trivial, n + 1, by omega, o32i (by omega), ?_⟩
  show _ = aBo H l1 n + aB1 H l1 n
  have : aB1 H l1 n = H (65 + 3 * n) := by
    unfold aB1
    rw [if_pos]
    refine ⟨?_, fun q => h4 (by rw [q])⟩
    rw [hb, if1]
    exact decide_eq_true h2
  rw [this]
noncomputable def qP_109 : zPp := fun as σ o σ' => match as with
  | [a0, a1] => ∃ r, o = .inl (some (.int r)) ∧ p_109 (q_r a0) (q_i a1) σ r σ'
  | _ => True
set_option maxRecDepth 100000 in
theorem sp_109 {sx : zX}  : zEe sx 109 2 qP_109 := by
  refine zfle zJ_109 (sps := []) (fun q hq => absurd hq List.not_mem_nil) (fun as σ hl => ?_)
  match as, hl with
  | [a0, a1], _ =>
  refine ⟨[(4, fun lo st τ => st = [] ∧ i_109 (q_r a0) (q_i a1) σ (q_r (lo 0)) (q_i (lo 1)) (q_i (lo 2)) (q_i (lo 3)) τ)], 400, ?_, ?_⟩
  · intro q hq
    simp only [List.mem_cons, List.not_mem_nil, or_false] at hq
    rcases hq with rfl
    · rintro lo st τ ⟨rfl, hI⟩
      refine ⟨400, ?_⟩
      refine And.intro (fun h1 => ?_) (fun h1 => ?_)
      · exact ⟨_, rfl, sp_109_c4_t (q_r a0) (q_i a1) σ (q_r (lo 0)) (q_i (lo 1)) (q_i (lo 2)) (q_i (lo 3)) τ hI (cm3t h1)⟩
      · refine And.intro (fun h2 => ?_) (fun h2 => ?_)
        · exact ⟨rfl, sp_109_c4_ft (q_r a0) (q_i a1) σ (q_r (lo 0)) (q_i (lo 1)) (q_i (lo 2)) (q_i (lo 3)) τ hI (cm3f h1) (cm1t h2)⟩
        · refine fun h3 => ?_
          refine And.intro (fun h4 => ?_) (fun h4 => ?_)
          · exact ⟨rfl, sp_109_c4_fft (q_r a0) (q_i a1) σ (q_r (lo 0)) (q_i (lo 1)) (q_i (lo 2)) (q_i (lo 3)) τ hI (cm3f h1) (cm1f h2) (q_inp h3) (cm0t h4)⟩
          · refine fun h5 => ?_
            exact ⟨rfl, sp_109_c4_fff (q_r a0) (q_i a1) σ (q_r (lo 0)) (q_i (lo 1)) (q_i (lo 2)) (q_i (lo 3)) τ hI (cm3f h1) (cm1f h2) (q_inp h3) (cm0f h4) (q_inp h5)⟩
  · exact ⟨rfl, sp_109_e (q_r a0) (q_i a1) σ ⟩
theorem zJ_108 : zJ3 108 z_m108 z_c108 z_h108 := ⟨rfl, rfl, rfl⟩
noncomputable def p_108 (a : Nat) (σ : zSg) (r : Int32) (σ' : zSg) : Prop := ∀ b H nt, a = b + 7 → hH σ b H → H 1 = Int32.ofNat nt → nt ≤ 8 → σ' = σ ∧ r = aBo H (Int32.ofInt (-1)) nt
theorem sp_108_e (a0 : Nat) (σ : zSg) (τ1 : zSg) (r1 : Int32) (g1 : p_109 a0 (Int32.ofInt (-1)) σ r1 τ1) :
    p_108 (a0) σ r1 τ1 := by
  exact g1
noncomputable def qP_108 : zPp := fun as σ o σ' => match as with
  | [a0] => ∃ r, o = .inl (some (.int r)) ∧ p_108 (q_r a0) σ r σ'
  | _ => True
set_option maxRecDepth 100000 in
theorem sp_108 {sx : zX} (S109 : zEe sx 109 2 qP_109) : zEe sx 108 1 qP_108 := by
  refine zfle zJ_108 (sps := [(109, 2, qP_109)]) (fun q hq => by
    simp only [List.mem_cons, List.not_mem_nil, or_false] at hq
    rcases hq with rfl
    · exact S109) (fun as σ hl => ?_)
  match as, hl with
  | [a0], _ =>
  refine ⟨[], 400, ?_, ?_⟩
  · exact fun q hq => absurd hq List.not_mem_nil
  · refine fun o1 τ1 g1 => ?_
    obtain ⟨r1, rfl, g1⟩ := g1
    exact ⟨_, rfl, sp_108_e (q_r a0) σ τ1 r1 g1⟩
theorem zJ_177 : zJ3 177 z_m177 z_c177 z_h177 := ⟨rfl, rfl, rfl⟩
noncomputable def p_177 (v l t : Int32) (σ : zSg) (r : Int32) (σ' : zSg) : Prop := σ' = σ ∧ (r.toInt ≠ 0 ↔ l.toInt ≤ v.toInt ∧ v.toInt ≤ t.toInt)
theorem sp_177_et (a0 : Int32) (a1 : Int32) (a2 : Int32) (σ : zSg) (h1 : a0.toInt < a1.toInt) :
    p_177 (a0) (a1) (a2) σ (Int32.ofInt (0)) σ := by
  exact ⟨rfl, fun h => absurd rfl h, fun h => by omega⟩
theorem sp_177_eft (a0 : Int32) (a1 : Int32) (a2 : Int32) (σ : zSg) (h1 : a0.toInt ≥ a1.toInt) (h2 : a0.toInt > a2.toInt) :
    p_177 (a0) (a1) (a2) σ (Int32.ofInt (0)) σ := by
  exact ⟨rfl, fun h => absurd rfl h, fun h => by omega⟩
theorem sp_177_eff (a0 : Int32) (a1 : Int32) (a2 : Int32) (σ : zSg) (h1 : a0.toInt ≥ a1.toInt) (h2 : a0.toInt ≤ a2.toInt) :
    p_177 (a0) (a1) (a2) σ (Int32.ofInt (1)) σ := by
  exact ⟨rfl, fun _ => ⟨by omega, by omega⟩, fun _ => by decide⟩
noncomputable def qP_177 : zPp := fun as σ o σ' => match as with
  | [a0, a1, a2] => ∃ r, o = .inl (some (.int r)) ∧ p_177 (q_i a0) (q_i a1) (q_i a2) σ r σ'
  | _ => True
set_option maxRecDepth 100000 in
theorem sp_177 {sx : zX}  : zEe sx 177 3 qP_177 := by
  refine zfle zJ_177 (sps := []) (fun q hq => absurd hq List.not_mem_nil) (fun as σ hl => ?_)
  match as, hl with
  | [a0, a1, a2], _ =>
  refine ⟨[], 400, ?_, ?_⟩
  · exact fun q hq => absurd hq List.not_mem_nil
  · refine And.intro (fun h1 => ?_) (fun h1 => ?_)
    · exact ⟨_, rfl, sp_177_et (q_i a0) (q_i a1) (q_i a2) σ (cm2t h1)⟩
    · refine And.intro (fun h2 => ?_) (fun h2 => ?_)
      · exact ⟨_, rfl, sp_177_eft (q_i a0) (q_i a1) (q_i a2) σ (cm2f h1) (cm4t h2)⟩
      · exact ⟨_, rfl, sp_177_eff (q_i a0) (q_i a1) (q_i a2) σ (cm2f h1) (cm4f h2)⟩
theorem zJ_188 : zJ3 188 z_m188 z_c188 z_h188 := ⟨rfl, rfl, rfl⟩
noncomputable def p_188 (a : Nat) (σ : zSg) (r : Int32) (σ' : zSg) : Prop := σ' = σ ∧ (a = 205 → ∀ A, rW σ A → ∀ n, A 4 = Int32.ofNat n → n < 24 → r = A (16 + n))
theorem sp_188_e (a0 : Nat) (σ : zSg) (τ2 : zSg) (r2 : Int32) (h1 : 0 ≤ (Int32.ofInt (4)).toInt ∧ (Int32.ofInt (4)).toInt < (σ.2.1 (q_r (σ.1 a0 1)) : Int)) (g2 : p_186 a0 (q_i (σ.1 (q_r (σ.1 a0 1)) (Int32.ofInt (4)).toNatClampNeg)) σ r2 τ2) :
    p_188 (a0) σ r2 τ2 := by
  obtain ⟨rfl, g⟩ := g2
  refine ⟨rfl, ?_⟩
  rintro rfl A K n u4 un
  exact g rfl A n K (by rw [K.q]; exact (K.i (k := 4) (by omega)).trans u4) un
noncomputable def qP_188 : zPp := fun as σ o σ' => match as with
  | [a0] => ∃ r, o = .inl (some (.int r)) ∧ p_188 (q_r a0) σ r σ'
  | _ => True
set_option maxRecDepth 100000 in
theorem sp_188 {sx : zX} (S186 : zEe sx 186 2 qP_186) : zEe sx 188 1 qP_188 := by
  refine zfle zJ_188 (sps := [(186, 2, qP_186)]) (fun q hq => by
    simp only [List.mem_cons, List.not_mem_nil, or_false] at hq
    rcases hq with rfl
    · exact S186) (fun as σ hl => ?_)
  match as, hl with
  | [a0], _ =>
  refine ⟨[], 400, ?_, ?_⟩
  · exact fun q hq => absurd hq List.not_mem_nil
  · refine fun h1 => ?_
    refine fun o2 τ2 g2 => ?_
    obtain ⟨r2, rfl, g2⟩ := g2
    exact ⟨_, rfl, sp_188_e (q_r a0) σ τ2 r2 (q_inp h1) g2⟩
theorem zJ_190 : zJ3 190 z_m190 z_c190 z_h190 := ⟨rfl, rfl, rfl⟩
noncomputable def p_190 (a : Nat) (f w : Int32) (σ : zSg) (r : Int32) (σ' : zSg) : Prop := σ' = σ ∧ (a = 205 → ∀ A, rW σ A → ∀ F k, f = Int32.ofNat F → F < 6 → w = Int32.ofNat k → k < 4 → r = A (40 + k + 4 * F))
theorem sp_190_e (a0 : Nat) (a1 : Int32) (a2 : Int32) (σ : zSg) (τ1 : zSg) (r1 : Int32) (g1 : p_189 a1 a2 σ r1 τ1) (h2 : 0 ≤ r1.toInt ∧ r1.toInt < (τ1.2.1 (q_r (σ.1 a0 1)) : Int)) :
    p_190 (a0) (a1) (a2) σ (q_i (τ1.1 (q_r (σ.1 a0 1)) r1.toNatClampNeg)) τ1 := by
  obtain ⟨rfl, rfl⟩ := g1
  refine ⟨rfl, ?_⟩
  rintro rfl A K F k rfl uF rfl uk
  rw [K.q]
  have hk : k = 0 ∨ k = 1 ∨ k = 2 ∨ k = 3 := by omega
  rcases hk with rfl | rfl | rfl | rfl
  · exact (congrArg (fun i => q_i (τ1.1 206 i)) (at4_0 uF)).trans (K.i (by omega))
  · exact (congrArg (fun i => q_i (τ1.1 206 i)) (at4_1 uF)).trans (K.i (by omega))
  · exact (congrArg (fun i => q_i (τ1.1 206 i)) (at4_2 uF)).trans (K.i (by omega))
  · exact (congrArg (fun i => q_i (τ1.1 206 i)) (at4_3 uF)).trans (K.i (by omega))
noncomputable def qP_190 : zPp := fun as σ o σ' => match as with
  | [a0, a1, a2] => ∃ r, o = .inl (some (.int r)) ∧ p_190 (q_r a0) (q_i a1) (q_i a2) σ r σ'
  | _ => True
set_option maxRecDepth 100000 in
theorem sp_190 {sx : zX} (S189 : zEe sx 189 2 qP_189) : zEe sx 190 3 qP_190 := by
  refine zfle zJ_190 (sps := [(189, 2, qP_189)]) (fun q hq => by
    simp only [List.mem_cons, List.not_mem_nil, or_false] at hq
    rcases hq with rfl
    · exact S189) (fun as σ hl => ?_)
  match as, hl with
  | [a0, a1, a2], _ =>
  refine ⟨[], 400, ?_, ?_⟩
  · exact fun q hq => absurd hq List.not_mem_nil
  · refine fun o1 τ1 g1 => ?_
    obtain ⟨r1, rfl, g1⟩ := g1
    refine fun h2 => ?_
    exact ⟨_, rfl, sp_190_e (q_r a0) (q_i a1) (q_i a2) σ τ1 r1 g1 (q_inp h2)⟩
theorem zJ_193 : zJ3 193 z_m193 z_c193 z_h193 := ⟨rfl, rfl, rfl⟩
noncomputable def p_193 (a : Nat) (f w : Int32) (σ : zSg) (r : Int32) (σ' : zSg) : Prop := σ' = σ ∧ (a = 205 → ∀ A, rW σ A → ∀ F k, f = Int32.ofNat F → F < 8 → w = Int32.ofNat k → k < 3 → r = A (64 + k + 3 * F))
theorem sp_193_e (a0 : Nat) (a1 : Int32) (a2 : Int32) (σ : zSg) (τ1 : zSg) (r1 : Int32) (g1 : p_192 a1 a2 σ r1 τ1) (h2 : 0 ≤ r1.toInt ∧ r1.toInt < (τ1.2.1 (q_r (σ.1 a0 1)) : Int)) :
    p_193 (a0) (a1) (a2) σ (q_i (τ1.1 (q_r (σ.1 a0 1)) r1.toNatClampNeg)) τ1 := by
  obtain ⟨rfl, rfl⟩ := g1
  refine ⟨rfl, ?_⟩
  rintro rfl A K F k rfl uF rfl uk
  rw [K.q]
  have hk : k = 0 ∨ k = 1 ∨ k = 2 := by omega
  rcases hk with rfl | rfl | rfl
  · exact (congrArg (fun i => q_i (τ1.1 206 i)) (at3_0 uF)).trans (K.i (by omega))
  · exact (congrArg (fun i => q_i (τ1.1 206 i)) (at3_1 uF)).trans (K.i (by omega))
  · exact (congrArg (fun i => q_i (τ1.1 206 i)) (at3_2 uF)).trans (K.i (by omega))
noncomputable def qP_193 : zPp := fun as σ o σ' => match as with
  | [a0, a1, a2] => ∃ r, o = .inl (some (.int r)) ∧ p_193 (q_r a0) (q_i a1) (q_i a2) σ r σ'
  | _ => True
set_option maxRecDepth 100000 in
theorem sp_193 {sx : zX} (S192 : zEe sx 192 2 qP_192) : zEe sx 193 3 qP_193 := by
  refine zfle zJ_193 (sps := [(192, 2, qP_192)]) (fun q hq => by
    simp only [List.mem_cons, List.not_mem_nil, or_false] at hq
    rcases hq with rfl
    · exact S192) (fun as σ hl => ?_)
  match as, hl with
  | [a0, a1, a2], _ =>
  refine ⟨[], 400, ?_, ?_⟩
  · exact fun q hq => absurd hq List.not_mem_nil
  · refine fun o1 τ1 g1 => ?_
    obtain ⟨r1, rfl, g1⟩ := g1
    refine fun h2 => ?_
    exact ⟨_, rfl, sp_193_e (q_r a0) (q_i a1) (q_i a2) σ τ1 r1 g1 (q_inp h2)⟩
theorem zJ_191 : zJ3 191 z_m191 z_c191 z_h191 := ⟨rfl, rfl, rfl⟩
noncomputable def p_191 (a : Nat) (f h : Int32) (σ : zSg) (r : Int32) (σ' : zSg) : Prop := σ' = σ ∧ (a = 205 → ∀ A, rW σ A → ∀ F, f = Int32.ofNat F → F < 6 → r = if btb (A (43 + 4 * F)) h = true then Int32.ofInt 1 else Int32.ofInt 0)
theorem sp_191_e (a0 : Nat) (a1 : Int32) (a2 : Int32) (σ : zSg) (τ1 : zSg) (r1 : Int32) (τ2 : zSg) (r2 : Int32) (g1 : p_190 a0 a1 (Int32.ofInt (3)) σ r1 τ1) (g2 : p_178 r1 a2 τ1 r2 τ2) :
    p_191 (a0) (a1) (a2) σ r2 τ2 := by
  obtain ⟨rfl, g⟩ := g1
  obtain ⟨rfl, e⟩ := g2
  refine ⟨rfl, ?_⟩
  rintro rfl A K F rfl uF
  rw [e, g rfl A K F 3 rfl uF rfl (by omega)]
noncomputable def qP_191 : zPp := fun as σ o σ' => match as with
  | [a0, a1, a2] => ∃ r, o = .inl (some (.int r)) ∧ p_191 (q_r a0) (q_i a1) (q_i a2) σ r σ'
  | _ => True
set_option maxRecDepth 100000 in
theorem sp_191 {sx : zX} (S190 : zEe sx 190 3 qP_190) (S178 : zEe sx 178 2 qP_178) : zEe sx 191 3 qP_191 := by
  refine zfle zJ_191 (sps := [(190, 3, qP_190), (178, 2, qP_178)]) (fun q hq => by
    simp only [List.mem_cons, List.not_mem_nil, or_false] at hq
    rcases hq with rfl | rfl
    · exact S190
    · exact S178) (fun as σ hl => ?_)
  match as, hl with
  | [a0, a1, a2], _ =>
  refine ⟨[], 400, ?_, ?_⟩
  · exact fun q hq => absurd hq List.not_mem_nil
  · refine fun o1 τ1 g1 => ?_
    obtain ⟨r1, rfl, g1⟩ := g1
    refine fun o2 τ2 g2 => ?_
    obtain ⟨r2, rfl, g2⟩ := g2
    exact ⟨_, rfl, sp_191_e (q_r a0) (q_i a1) (q_i a2) σ τ1 r1 τ2 r2 g1 g2⟩
theorem zJ_194 : zJ3 194 z_m194 z_c194 z_h194 := ⟨rfl, rfl, rfl⟩
noncomputable def p_194 (a : Nat) (t : Int32) (σ : zSg) (r : Int32) (σ' : zSg) : Prop := σ' = σ ∧ (a = 205 → ∀ A, rW σ A → ∀ F, t = Int32.ofNat F → F < 8 → r = if A (66 + 3 * F) = Int32.ofInt 1 then Int32.ofInt 1 else Int32.ofInt 0)
theorem sp_194_et (a0 : Nat) (a1 : Int32) (σ : zSg) (τ1 : zSg) (r1 : Int32) (g1 : p_193 a0 a1 (Int32.ofInt (2)) σ r1 τ1) (h2 : r1.toInt ≠ (1 : Int)) :
    p_194 (a0) (a1) σ (Int32.ofInt (0)) τ1 := by
  obtain ⟨rfl, g⟩ := g1
  refine ⟨rfl, ?_⟩
  rintro rfl A K F rfl uF
  have e := g rfl A K F 2 rfl uF rfl (by omega)
  rw [e] at h2
  exact (if_neg (fun q => h2 (by rw [q]; rfl))).symm
theorem sp_194_ef (a0 : Nat) (a1 : Int32) (σ : zSg) (τ1 : zSg) (r1 : Int32) (g1 : p_193 a0 a1 (Int32.ofInt (2)) σ r1 τ1) (h2 : r1.toInt = (1 : Int)) :
    p_194 (a0) (a1) σ (Int32.ofInt (1)) τ1 := by
  obtain ⟨rfl, g⟩ := g1
  refine ⟨rfl, ?_⟩
  rintro rfl A K F rfl uF
  have e := g rfl A K F 2 rfl uF rfl (by omega)
  rw [e] at h2
  exact (if_pos (Int32.toInt_inj.mp h2)).symm
noncomputable def qP_194 : zPp := fun as σ o σ' => match as with
  | [a0, a1] => ∃ r, o = .inl (some (.int r)) ∧ p_194 (q_r a0) (q_i a1) σ r σ'
  | _ => True
set_option maxRecDepth 100000 in
theorem sp_194 {sx : zX} (S193 : zEe sx 193 3 qP_193) : zEe sx 194 2 qP_194 := by
  refine zfle zJ_194 (sps := [(193, 3, qP_193)]) (fun q hq => by
    simp only [List.mem_cons, List.not_mem_nil, or_false] at hq
    rcases hq with rfl
    · exact S193) (fun as σ hl => ?_)
  match as, hl with
  | [a0, a1], _ =>
  refine ⟨[], 400, ?_, ?_⟩
  · exact fun q hq => absurd hq List.not_mem_nil
  · refine fun o1 τ1 g1 => ?_
    obtain ⟨r1, rfl, g1⟩ := g1
    refine And.intro (fun h2 => ?_) (fun h2 => ?_)
    · exact ⟨_, rfl, sp_194_et (q_r a0) (q_i a1) σ τ1 r1 g1 (cm1t h2)⟩
    · exact ⟨_, rfl, sp_194_ef (q_r a0) (q_i a1) σ τ1 r1 g1 (cm1f h2)⟩
theorem zJ_195 : zJ3 195 z_m195 z_c195 z_h195 := ⟨rfl, rfl, rfl⟩
noncomputable def p_195 (a : Nat) (f : Int32) (σ : zSg) (r : Int32) (σ' : zSg) : Prop := σ' = σ ∧ (a = 205 → ∀ A, rW σ A → ∀ nf, A 0 = Int32.ofNat nf → nf ≤ 6 → (r.toInt ≠ 0 ↔ ¬ (0 ≤ f.toInt ∧ f.toInt < (nf : Int))))
theorem sp_195_et (a0 : Nat) (a1 : Int32) (σ : zSg) (τ1 : zSg) (r1 : Int32) (τ2 : zSg) (r2 : Int32) (g1 : p_184 a0 σ r1 τ1) (g2 : p_177 a1 (Int32.ofInt (0)) (r1 - (Int32.ofInt (1))) τ1 r2 τ2) (h3 : r2.toInt ≠ (0 : Int)) :
    p_195 (a0) (a1) σ (Int32.ofInt (0)) τ2 := by
  obtain ⟨rfl, g⟩ := g1
  obtain ⟨rfl, e⟩ := g2
  refine ⟨rfl, ?_⟩
  rintro rfl A K nf u0 u6
  have e1 : (r1 - Int32.ofInt 1).toInt = (nf : Int) - 1 := by
    rw [g rfl A K, u0]
    exact zI_sub (o32 (by omega)) (zI_c (by omega) (by omega)) (by omega) (by omega)
  rw [e1, show (Int32.ofInt 0).toInt = 0 from rfl] at e
  exact ⟨fun h => absurd rfl h, fun h => absurd (e.mp h3) (by omega)⟩
theorem sp_195_ef (a0 : Nat) (a1 : Int32) (σ : zSg) (τ1 : zSg) (r1 : Int32) (τ2 : zSg) (r2 : Int32) (g1 : p_184 a0 σ r1 τ1) (g2 : p_177 a1 (Int32.ofInt (0)) (r1 - (Int32.ofInt (1))) τ1 r2 τ2) (h3 : r2.toInt = (0 : Int)) :
    p_195 (a0) (a1) σ (Int32.ofInt (1)) τ2 := by
  obtain ⟨rfl, g⟩ := g1
  obtain ⟨rfl, e⟩ := g2
  refine ⟨rfl, ?_⟩
  rintro rfl A K nf u0 u6
  have e1 : (r1 - Int32.ofInt 1).toInt = (nf : Int) - 1 := by
    rw [g rfl A K, u0]
    exact zI_sub (o32 (by omega)) (zI_c (by omega) (by omega)) (by omega) (by omega)
  rw [e1, show (Int32.ofInt 0).toInt = 0 from rfl] at e
  exact ⟨fun _ => fun q => absurd h3 (e.mpr (by omega)), fun _ => by decide⟩
noncomputable def qP_195 : zPp := fun as σ o σ' => match as with
  | [a0, a1] => ∃ r, o = .inl (some (.int r)) ∧ p_195 (q_r a0) (q_i a1) σ r σ'
  | _ => True
set_option maxRecDepth 100000 in
theorem sp_195 {sx : zX} (S184 : zEe sx 184 1 qP_184) (S177 : zEe sx 177 3 qP_177) : zEe sx 195 2 qP_195 := by
  refine zfle zJ_195 (sps := [(184, 1, qP_184), (177, 3, qP_177)]) (fun q hq => by
    simp only [List.mem_cons, List.not_mem_nil, or_false] at hq
    rcases hq with rfl | rfl
    · exact S184
    · exact S177) (fun as σ hl => ?_)
  match as, hl with
  | [a0, a1], _ =>
  refine ⟨[], 400, ?_, ?_⟩
  · exact fun q hq => absurd hq List.not_mem_nil
  · refine fun o1 τ1 g1 => ?_
    obtain ⟨r1, rfl, g1⟩ := g1
    refine fun o2 τ2 g2 => ?_
    obtain ⟨r2, rfl, g2⟩ := g2
    refine And.intro (fun h3 => ?_) (fun h3 => ?_)
    · exact ⟨_, rfl, sp_195_et (q_r a0) (q_i a1) σ τ1 r1 τ2 r2 g1 g2 (cm1t h3)⟩
    · exact ⟨_, rfl, sp_195_ef (q_r a0) (q_i a1) σ τ1 r1 τ2 r2 g1 g2 (cm1f h3)⟩
theorem zJ_196 : zJ3 196 z_m196 z_c196 z_h196 := ⟨rfl, rfl, rfl⟩
noncomputable def p_196 (a : Nat) (f : Int32) (σ : zSg) (r : Int32) (σ' : zSg) : Prop := σ' = σ ∧ (a = 205 → ∀ A, rW σ A → ∀ nf, A 1 = Int32.ofNat nf → nf ≤ 8 → (r.toInt ≠ 0 ↔ ¬ (0 ≤ f.toInt ∧ f.toInt < (nf : Int))))
theorem sp_196_et (a0 : Nat) (a1 : Int32) (σ : zSg) (τ1 : zSg) (r1 : Int32) (τ2 : zSg) (r2 : Int32) (g1 : p_185 a0 σ r1 τ1) (g2 : p_177 a1 (Int32.ofInt (0)) (r1 - (Int32.ofInt (1))) τ1 r2 τ2) (h3 : r2.toInt ≠ (0 : Int)) :
    p_196 (a0) (a1) σ (Int32.ofInt (0)) τ2 := by
  obtain ⟨rfl, g⟩ := g1
  obtain ⟨rfl, e⟩ := g2
  refine ⟨rfl, ?_⟩
  rintro rfl A K nf u0 u6
  have e1 : (r1 - Int32.ofInt 1).toInt = (nf : Int) - 1 := by
    rw [g rfl A K, u0]
    exact zI_sub (o32 (by omega)) (zI_c (by omega) (by omega)) (by omega) (by omega)
  rw [e1, show (Int32.ofInt 0).toInt = 0 from rfl] at e
  exact ⟨fun h => absurd rfl h, fun h => absurd (e.mp h3) (by omega)⟩
theorem sp_196_ef (a0 : Nat) (a1 : Int32) (σ : zSg) (τ1 : zSg) (r1 : Int32) (τ2 : zSg) (r2 : Int32) (g1 : p_185 a0 σ r1 τ1) (g2 : p_177 a1 (Int32.ofInt (0)) (r1 - (Int32.ofInt (1))) τ1 r2 τ2) (h3 : r2.toInt = (0 : Int)) :
    p_196 (a0) (a1) σ (Int32.ofInt (1)) τ2 := by
  obtain ⟨rfl, g⟩ := g1
  obtain ⟨rfl, e⟩ := g2
  refine ⟨rfl, ?_⟩
  rintro rfl A K nf u0 u6
  have e1 : (r1 - Int32.ofInt 1).toInt = (nf : Int) - 1 := by
    rw [g rfl A K, u0]
    exact zI_sub (o32 (by omega)) (zI_c (by omega) (by omega)) (by omega) (by omega)
  rw [e1, show (Int32.ofInt 0).toInt = 0 from rfl] at e
  exact ⟨fun _ => fun q => absurd h3 (e.mpr (by omega)), fun _ => by decide⟩
noncomputable def qP_196 : zPp := fun as σ o σ' => match as with
  | [a0, a1] => ∃ r, o = .inl (some (.int r)) ∧ p_196 (q_r a0) (q_i a1) σ r σ'
  | _ => True
set_option maxRecDepth 100000 in
theorem sp_196 {sx : zX} (S185 : zEe sx 185 1 qP_185) (S177 : zEe sx 177 3 qP_177) : zEe sx 196 2 qP_196 := by
  refine zfle zJ_196 (sps := [(185, 1, qP_185), (177, 3, qP_177)]) (fun q hq => by
    simp only [List.mem_cons, List.not_mem_nil, or_false] at hq
    rcases hq with rfl | rfl
    · exact S185
    · exact S177) (fun as σ hl => ?_)
  match as, hl with
  | [a0, a1], _ =>
  refine ⟨[], 400, ?_, ?_⟩
  · exact fun q hq => absurd hq List.not_mem_nil
  · refine fun o1 τ1 g1 => ?_
    obtain ⟨r1, rfl, g1⟩ := g1
    refine fun o2 τ2 g2 => ?_
    obtain ⟨r2, rfl, g2⟩ := g2
    refine And.intro (fun h3 => ?_) (fun h3 => ?_)
    · exact ⟨_, rfl, sp_196_et (q_r a0) (q_i a1) σ τ1 r1 τ2 r2 g1 g2 (cm1t h3)⟩
    · exact ⟨_, rfl, sp_196_ef (q_r a0) (q_i a1) σ τ1 r1 τ2 r2 g1 g2 (cm1f h3)⟩
theorem zJ_197 : zJ3 197 z_m197 z_c197 z_h197 := ⟨rfl, rfl, rfl⟩
noncomputable def p_197 (h : Int32) (σ : zSg) (r : Int32) (σ' : zSg) : Prop := σ' = σ ∧ (r.toInt ≠ 0 ↔ ¬ (0 ≤ h.toInt ∧ h.toInt < 24))
theorem sp_197_et (a0 : Int32) (σ : zSg) (τ1 : zSg) (r1 : Int32) (g1 : p_177 a0 (Int32.ofInt (0)) (Int32.ofInt (23)) σ r1 τ1) (h2 : r1.toInt ≠ (0 : Int)) :
    p_197 (a0) σ (Int32.ofInt (0)) τ1 := by
  obtain ⟨rfl, e⟩ := g1
  rw [show (Int32.ofInt 0).toInt = 0 from rfl, show (Int32.ofInt 23).toInt = 23 from rfl] at e
  exact ⟨rfl, fun h => absurd rfl h, fun h => absurd (e.mp h2) (by omega)⟩
theorem sp_197_ef (a0 : Int32) (σ : zSg) (τ1 : zSg) (r1 : Int32) (g1 : p_177 a0 (Int32.ofInt (0)) (Int32.ofInt (23)) σ r1 τ1) (h2 : r1.toInt = (0 : Int)) :
    p_197 (a0) σ (Int32.ofInt (1)) τ1 := by
  obtain ⟨rfl, e⟩ := g1
  rw [show (Int32.ofInt 0).toInt = 0 from rfl, show (Int32.ofInt 23).toInt = 23 from rfl] at e
  exact ⟨rfl, fun _ => fun q => absurd h2 (e.mpr (by omega)), fun _ => by decide⟩
noncomputable def qP_197 : zPp := fun as σ o σ' => match as with
  | [a0] => ∃ r, o = .inl (some (.int r)) ∧ p_197 (q_i a0) σ r σ'
  | _ => True
set_option maxRecDepth 100000 in
theorem sp_197 {sx : zX} (S177 : zEe sx 177 3 qP_177) : zEe sx 197 1 qP_197 := by
  refine zfle zJ_197 (sps := [(177, 3, qP_177)]) (fun q hq => by
    simp only [List.mem_cons, List.not_mem_nil, or_false] at hq
    rcases hq with rfl
    · exact S177) (fun as σ hl => ?_)
  match as, hl with
  | [a0], _ =>
  refine ⟨[], 400, ?_, ?_⟩
  · exact fun q hq => absurd hq List.not_mem_nil
  · refine fun o1 τ1 g1 => ?_
    obtain ⟨r1, rfl, g1⟩ := g1
    refine And.intro (fun h2 => ?_) (fun h2 => ?_)
    · exact ⟨_, rfl, sp_197_et (q_i a0) σ τ1 r1 g1 (cm1t h2)⟩
    · exact ⟨_, rfl, sp_197_ef (q_i a0) σ τ1 r1 g1 (cm1f h2)⟩
end
section
/-! the class's acts, exact; printed with wip/gen/gen_dd.py -/
/-- what holds of every house that is in use -/
noncomputable def aI (nf nt : Nat) (A : Nat → Int32) : Prop := dC nf nt A ∧ (∀ h, h < 24 → A (16 + h) = Int32.ofInt (-1) ∨ ∃ F, F < nf ∧ A (16 + h) = Int32.ofNat F) ∧ (∀ t, t < nt → ∃ F, F < nf ∧ A (64 + 3 * t) = Int32.ofNat F) ∧ (0 ≤ (A 12).toInt ∧ (A 12).toInt ≤ 99) ∧ (0 ≤ (A 8).toInt ∧ (A 8).toInt ≤ 9) ∧ (∃ n, n < 24 ∧ A 4 = Int32.ofNat n) ∧ (∃ g, g ≤ 60 ∧ A 14 = Int32.ofNat g) ∧ ∃ tx, tx ≤ 12 ∧ A 2 = Int32.ofNat tx
noncomputable def xA (σ : zSg) (A : Nat → Int32) (nf nt nx n : Nat) (Ms : Nat → Nat → Int32) : Prop := xSk σ ∧ hH σ 8 A ∧ mM σ nx n Ms ∧ aI nf nt A
/-- an act was remembered, and the house that is now holds B -/
noncomputable def xR (σ σ' : zSg) (A B : Nat → Int32) (nx n : Nat) (Ms : Nat → Nat → Int32) : Prop := (σ'.2 = σ.2 ∧ ∀ c k, ¬ (8 ≤ c ∧ c ≤ 20 ∧ ¬ (c = 8 ∧ k = 5)) → ¬ (c = 47 ∧ (k = 1 ∨ k = 2)) → ¬ (49 + 13 * nx ≤ c ∧ c ≤ 61 + 13 * nx) → σ'.1 c k = σ.1 c k) ∧ hH σ' 8 B ∧ mM σ' ((nx + 1) % 12) (min (n + 1) 12) (fun i => if i = nx then A else Ms i) ∧ σ'.1 (49 + 13 * nx) 5 = σ.1 8 5
section XRS
variable {σ τ υ : zSg} {A B B' : Nat → Int32} {nf nt nx n : Nat} {Ms : Nat → Nat → Int32}
theorem xA.kp (K : xA σ A nf nt nx n Ms) (G : p_62 47 8 σ τ) : xR σ τ A A nx n Ms := by
  obtain ⟨g1, g2, g3⟩ := G rfl rfl nx n Ms A K.2.2.1 K.2.1
  exact ⟨⟨g1.1, fun c k q1 q2 q3 => g1.2 c k q2 q3⟩, K.2.1.fr g1.1 (fun c j q1 q2 => g1.2 c j (by omega) (by omega)), g2, g3⟩
theorem mM.fr {Ns : Nat → Nat → Int32} {ny m : Nat} (K : mM σ ny m Ns) (h2' : τ.2 = σ.2) (h : ∀ c j, 47 ≤ c → τ.1 c j = σ.1 c j) : mM τ ny m Ns := by
  obtain ⟨m1, m2, m3, m4, m5, m6, m7⟩ := K
  exact ⟨by rw [h _ _ (by omega)]; exact m1, fun i hi => by rw [h _ _ (by omega)]; exact m2 i hi, by rw [h _ _ (by omega)]; exact m3, m4, by rw [h _ _ (by omega)]; exact m5, m6, fun i hi => (m7 i hi).fr h2' (fun c j q1 q2 => h c j (by omega))⟩
theorem xR.hs (R : xR σ τ A B nx n Ms) (f : hHF 8 τ υ) (h : hH υ 8 B') : xR σ υ A B' nx n Ms := by
  obtain ⟨g1, g2, g3, g4⟩ := R
  refine ⟨⟨f.1.trans g1.1, fun c k q1 q2 q3 => (f.2 c k (by omega)).trans (g1.2 c k q1 q2 q3)⟩, h, g3.fr f.1 (fun c j q => f.2 c j (by omega)), ?_⟩
  rw [f.2 _ _ (by omega)]
  exact g4
theorem xR.sk (R : xR σ τ A B nx n Ms) (K : xSk σ) : xSk τ := K.of (fun k _ => R.1.2 0 k (by omega) (by omega) (by omega))
end XRS
theorem zJ_130 : zJ3 130 z_m130 z_c130 z_h130 := ⟨rfl, rfl, rfl⟩
noncomputable def p_130 (a : Nat) (h : Int32) (σ : zSg) (e : Int32 ⊕ Nat) (σ' : zSg) : Prop := a = 0 → ∀ A nf nt nx n Ms, xA σ A nf nt nx n Ms → (¬ (0 ≤ h.toInt ∧ h.toInt < 24) → e = .inr 2 ∧ σ' = σ) ∧ (∀ hh, h = Int32.ofNat hh → hh < 24 → (A (16 + hh) = Int32.ofInt (-1) → e = .inr 4 ∧ σ' = σ) ∧ (A (16 + hh) ≠ Int32.ofInt (-1) → e = .inl (A (16 + hh)) ∧ xR σ σ' A (aU A (16 + hh) (Int32.ofInt (-1))) nx n Ms))
theorem sp_130_entn (a0 : Nat) (a1 : Int32) (σ : zSg) (τ1 : zSg) (τ4 : zSg) (τ5 : zSg) (g1 : p_166 a0 a1 σ (.inl 0) τ1) (h2 : 0 ≤ a1.toInt ∧ a1.toInt < (τ1.2.1 (q_r (τ1.1 (q_r (τ1.1 a0 2)) 0)) : Int)) (h3 : (q_i (τ1.1 (q_r (τ1.1 (q_r (τ1.1 a0 2)) 0)) a1.toNatClampNeg)).toInt = (-1 : Int)) (g4 : p_172 a0 (Int32.ofInt (0)) τ1 (.inl 0) τ4) (g5 : p_62 (q_r (τ4.1 a0 5)) (q_r (τ4.1 a0 2)) τ4 τ5) (h6 : 0 ≤ a1.toInt ∧ a1.toInt < (τ5.2.1 (q_r (τ5.1 (q_r (τ5.1 a0 2)) 0)) : Int)) :
    p_130 (a0) (a1) σ (.inl (q_i (τ1.1 (q_r (τ1.1 (q_r (τ1.1 a0 2)) 0)) a1.toNatClampNeg))) (q_w τ5 (q_r (τ5.1 (q_r (τ5.1 a0 2)) 0)) a1.toNatClampNeg (.int (Int32.ofInt (-1)))) := by
  rintro rfl A nf nt nx n Ms K
  have q0 := K.1.q
  obtain ⟨rfl, u, -⟩ := g1
  have u := u rfl
  obtain ⟨rfl, v, -⟩ := g4
  have v := v rfl
  refine ⟨fun w => absurd u w, fun hh e hl => ?_⟩
  subst e
  have w0 := K.2.1.p (hp_h hl)
  have d0 := K.2.1.k hk_0
  have nh : (Int32.ofNat hh).toNatClampNeg = hh := o32n (by omega)
  simp only [q0.2.1, d0, nh, w0] at h3
  first
  | exact absurd rfl v
  | (rw [q0.2.1, q0.2.2.2.2] at g5
     have R := K.kp g5
     have qs := (R.sk K.1).q
     have d1 := R.2.1.k hk_0
     simp only [q0.2.1, d0, nh, w0, qs.2.1, d1]
     refine ⟨fun w => absurd (by rw [w]; rfl) h3, fun _ => ⟨trivial, R.hs (hHF.w (hp_h hl)) (R.2.1.ww (hp_h hl))⟩⟩)
theorem sp_130_entx4_ (a0 : Nat) (a1 : Int32) (σ : zSg) (τ1 : zSg) (τ4 : zSg) (g1 : p_166 a0 a1 σ (.inl 0) τ1) (h2 : 0 ≤ a1.toInt ∧ a1.toInt < (τ1.2.1 (q_r (τ1.1 (q_r (τ1.1 a0 2)) 0)) : Int)) (h3 : (q_i (τ1.1 (q_r (τ1.1 (q_r (τ1.1 a0 2)) 0)) a1.toNatClampNeg)).toInt = (-1 : Int)) (g4 : p_172 a0 (Int32.ofInt (0)) τ1 (.inr 4) τ4) :
    p_130 (a0) (a1) σ (.inr 4) τ4 := by
  rintro rfl A nf nt nx n Ms K
  have q0 := K.1.q
  obtain ⟨rfl, u, -⟩ := g1
  have u := u rfl
  obtain ⟨rfl, -, v⟩ := g4
  have v := v rfl
  refine ⟨fun w => absurd u w, fun hh e hl => ?_⟩
  subst e
  have w0 := K.2.1.p (hp_h hl)
  have d0 := K.2.1.k hk_0
  simp only [q0.2.1, d0, o32n (show hh ≤ 1000 by omega), w0] at h3
  refine ⟨fun _ => ⟨rfl, rfl⟩, fun w => ?_⟩
  first
  | exact absurd v (by decide)
  | exact absurd (Int32.toInt_inj.mp h3) w
theorem sp_130_enfn (a0 : Nat) (a1 : Int32) (σ : zSg) (τ1 : zSg) (τ7 : zSg) (τ8 : zSg) (g1 : p_166 a0 a1 σ (.inl 0) τ1) (h2 : 0 ≤ a1.toInt ∧ a1.toInt < (τ1.2.1 (q_r (τ1.1 (q_r (τ1.1 a0 2)) 0)) : Int)) (h3 : (q_i (τ1.1 (q_r (τ1.1 (q_r (τ1.1 a0 2)) 0)) a1.toNatClampNeg)).toInt ≠ (-1 : Int)) (g7 : p_172 a0 (Int32.ofInt (1)) τ1 (.inl 0) τ7) (g8 : p_62 (q_r (τ7.1 a0 5)) (q_r (τ7.1 a0 2)) τ7 τ8) (h9 : 0 ≤ a1.toInt ∧ a1.toInt < (τ8.2.1 (q_r (τ8.1 (q_r (τ8.1 a0 2)) 0)) : Int)) :
    p_130 (a0) (a1) σ (.inl (q_i (τ1.1 (q_r (τ1.1 (q_r (τ1.1 a0 2)) 0)) a1.toNatClampNeg))) (q_w τ8 (q_r (τ8.1 (q_r (τ8.1 a0 2)) 0)) a1.toNatClampNeg (.int (Int32.ofInt (-1)))) := by
  rintro rfl A nf nt nx n Ms K
  have q0 := K.1.q
  obtain ⟨rfl, u, -⟩ := g1
  have u := u rfl
  obtain ⟨rfl, v, -⟩ := g7
  have v := v rfl
  refine ⟨fun w => absurd u w, fun hh e hl => ?_⟩
  subst e
  have w0 := K.2.1.p (hp_h hl)
  have d0 := K.2.1.k hk_0
  have nh : (Int32.ofNat hh).toNatClampNeg = hh := o32n (by omega)
  simp only [q0.2.1, d0, nh, w0] at h3
  first
  | exact absurd rfl v
  | (rw [q0.2.1, q0.2.2.2.2] at g8
     have R := K.kp g8
     have qs := (R.sk K.1).q
     have d1 := R.2.1.k hk_0
     simp only [q0.2.1, d0, nh, w0, qs.2.1, d1]
     refine ⟨fun w => absurd (by rw [w]; rfl) h3, fun _ => ⟨trivial, R.hs (hHF.w (hp_h hl)) (R.2.1.ww (hp_h hl))⟩⟩)
theorem sp_130_enfx4_ (a0 : Nat) (a1 : Int32) (σ : zSg) (τ1 : zSg) (τ7 : zSg) (g1 : p_166 a0 a1 σ (.inl 0) τ1) (h2 : 0 ≤ a1.toInt ∧ a1.toInt < (τ1.2.1 (q_r (τ1.1 (q_r (τ1.1 a0 2)) 0)) : Int)) (h3 : (q_i (τ1.1 (q_r (τ1.1 (q_r (τ1.1 a0 2)) 0)) a1.toNatClampNeg)).toInt ≠ (-1 : Int)) (g7 : p_172 a0 (Int32.ofInt (1)) τ1 (.inr 4) τ7) :
    p_130 (a0) (a1) σ (.inr 4) τ7 := by
  rintro rfl A nf nt nx n Ms K
  have q0 := K.1.q
  obtain ⟨rfl, u, -⟩ := g1
  have u := u rfl
  obtain ⟨rfl, -, v⟩ := g7
  have v := v rfl
  refine ⟨fun w => absurd u w, fun hh e hl => ?_⟩
  subst e
  have w0 := K.2.1.p (hp_h hl)
  have d0 := K.2.1.k hk_0
  simp only [q0.2.1, d0, o32n (show hh ≤ 1000 by omega), w0] at h3
  refine ⟨fun _ => ⟨rfl, rfl⟩, fun w => ?_⟩
  first
  | exact absurd v (by decide)
  | exact absurd (Int32.toInt_inj.mp h3) w
theorem sp_130_ex2_ (a0 : Nat) (a1 : Int32) (σ : zSg) (τ1 : zSg) (g1 : p_166 a0 a1 σ (.inr 2) τ1) :
    p_130 (a0) (a1) σ (.inr 2) τ1 := by
  rintro rfl A nf nt nx n Ms K
  have q0 := K.1.q
  obtain ⟨rfl, -, u⟩ := g1
  have u := u rfl
  exact ⟨fun _ => ⟨rfl, rfl⟩, fun hh e hl => absurd (by rw [e, o32 (by omega)]; omega) u⟩
noncomputable def qP_130 : zPp := fun as σ o σ' => match as with
  | [a0, a1] => (∃ r, o = .inl (some (.int r)) ∧ p_130 (q_r a0) (q_i a1) σ (.inl r) σ') ∨ (o = .inr 2 ∧ p_130 (q_r a0) (q_i a1) σ (.inr 2) σ') ∨ (o = .inr 4 ∧ p_130 (q_r a0) (q_i a1) σ (.inr 4) σ')
  | _ => True
set_option maxRecDepth 100000 in
theorem sp_130 {sx : zX} (S166 : zEe sx 166 2 qP_166) (S172 : zEe sx 172 2 qP_172) (S62 : zEe sx 62 2 qP_62) : zEe sx 130 2 qP_130 := by
  refine zfle zJ_130 (sps := [(166, 2, qP_166), (172, 2, qP_172), (62, 2, qP_62)]) (fun q hq => by
    simp only [List.mem_cons, List.not_mem_nil, or_false] at hq
    rcases hq with rfl | rfl | rfl
    · exact S166
    · exact S172
    · exact S62) (fun as σ hl => ?_)
  match as, hl with
  | [a0, a1], _ =>
  refine ⟨[], 400, ?_, ?_⟩
  · exact fun q hq => absurd hq List.not_mem_nil
  · refine fun o1 τ1 g1 => ?_
    rcases g1 with ⟨rfl, g1⟩ | ⟨rfl, g1⟩
    · refine fun h2 => ?_
      refine And.intro (fun h3 => ?_) (fun h3 => ?_)
      · refine fun o4 τ4 g4 => ?_
        rcases g4 with ⟨rfl, g4⟩ | ⟨rfl, g4⟩
        · refine fun o5 τ5 g5 => ?_
          obtain ⟨rfl, g5⟩ := g5
          refine fun h6 => ?_
          exact Or.inl ⟨_, rfl, sp_130_entn (q_r a0) (q_i a1) σ τ1 τ4 τ5 g1 (q_inp h2) (cm0t h3) g4 g5 (q_inp h6)⟩
        · exact Or.inr (Or.inr (⟨rfl, sp_130_entx4_ (q_r a0) (q_i a1) σ τ1 τ4 g1 (q_inp h2) (cm0t h3) g4⟩))
      · refine fun o7 τ7 g7 => ?_
        rcases g7 with ⟨rfl, g7⟩ | ⟨rfl, g7⟩
        · refine fun o8 τ8 g8 => ?_
          obtain ⟨rfl, g8⟩ := g8
          refine fun h9 => ?_
          exact Or.inl ⟨_, rfl, sp_130_enfn (q_r a0) (q_i a1) σ τ1 τ7 τ8 g1 (q_inp h2) (cm0f h3) g7 g8 (q_inp h9)⟩
        · exact Or.inr (Or.inr (⟨rfl, sp_130_enfx4_ (q_r a0) (q_i a1) σ τ1 τ7 g1 (q_inp h2) (cm0f h3) g7⟩))
    · exact Or.inr (Or.inl (⟨rfl, sp_130_ex2_ (q_r a0) (q_i a1) σ τ1 g1⟩))
theorem zJ_134 : zJ3 134 z_m134 z_c134 z_h134 := ⟨rfl, rfl, rfl⟩
noncomputable def p_134 (a : Nat) (σ : zSg) (r : Int32) (σ' : zSg) : Prop := a = 0 → ∀ A nf nt nx n Ms, xA σ A nf nt nx n Ms → r = A 7 ∧ xR σ σ' A (aU A 7 (Int32.ofInt 0)) nx n Ms
theorem sp_134_e (a0 : Nat) (σ : zSg) (τ1 : zSg) (g1 : p_62 (q_r (σ.1 a0 5)) (q_r (σ.1 a0 2)) σ τ1) :
    p_134 (a0) σ (q_i (σ.1 (q_r (σ.1 a0 2)) 10)) (q_w τ1 (q_r (τ1.1 a0 2)) 10 (.int (Int32.ofInt (0)))) := by
  rintro rfl A nf nt nx n Ms K
  have q0 := K.1.q
  have w0 := K.2.1.p (hp_s (k := 7) (by omega) (by omega))
  rw [q0.2.1, q0.2.2.2.2] at g1
  have R := K.kp g1
  have qs := (R.sk K.1).q
  simp only [q0.2.1, qs.2.1]
  exact ⟨w0, R.hs (hHF.w (hp_s (k := 7) (by omega) (by omega))) (R.2.1.ww (hp_s (k := 7) (by omega) (by omega)))⟩
noncomputable def qP_134 : zPp := fun as σ o σ' => match as with
  | [a0] => ∃ r, o = .inl (some (.int r)) ∧ p_134 (q_r a0) σ r σ'
  | _ => True
set_option maxRecDepth 100000 in
theorem sp_134 {sx : zX} (S62 : zEe sx 62 2 qP_62) : zEe sx 134 1 qP_134 := by
  refine zfle zJ_134 (sps := [(62, 2, qP_62)]) (fun q hq => by
    simp only [List.mem_cons, List.not_mem_nil, or_false] at hq
    rcases hq with rfl
    · exact S62) (fun as σ hl => ?_)
  match as, hl with
  | [a0], _ =>
  refine ⟨[], 400, ?_, ?_⟩
  · exact fun q hq => absurd hq List.not_mem_nil
  · refine fun o1 τ1 g1 => ?_
    obtain ⟨rfl, g1⟩ := g1
    exact ⟨_, rfl, sp_134_e (q_r a0) σ τ1 g1⟩
theorem zJ_167 : zJ3 167 z_m167 z_c167 z_h167 := ⟨rfl, rfl, rfl⟩
noncomputable def p_167 (a : Nat) (f : Int32) (σ : zSg) (e : Int32 ⊕ Nat) (σ' : zSg) : Prop := σ' = σ ∧ (a = 0 → xSk σ → ∀ H nf, hH σ 8 H → H 0 = Int32.ofNat nf → nf ≤ 6 → (e = .inl 0 → 0 ≤ f.toInt ∧ f.toInt < (nf : Int)) ∧ (e = .inr 2 → ¬ (0 ≤ f.toInt ∧ f.toInt < (nf : Int))))
theorem sp_167_et (a0 : Nat) (a1 : Int32) (σ : zSg) (τ1 : zSg) (r1 : Int32) (g1 : p_9 (q_r (σ.1 (q_r (σ.1 a0 2)) 1)) a1 σ r1 τ1) (h2 : r1.toInt ≠ (0 : Int)) :
    p_167 (a0) (a1) σ (.inl 0) τ1 := by
  obtain ⟨rfl, g⟩ := g1
  refine ⟨rfl, ?_⟩
  rintro rfl K H nf L u0 u6
  have pp : q_i (τ1.1 (q_r (τ1.1 (q_r (τ1.1 0 2)) 1)) 4) = Int32.ofNat nf := by
    rw [K.q.2.1, L.k hk_1]
    exact (L.p hp_0).trans u0
  rw [pp, o32 (by omega)] at g
  exact ⟨fun _ => ⟨(g.mp h2).1, (g.mp h2).2.1⟩, fun h => (by cases h)⟩
theorem sp_167_ef (a0 : Nat) (a1 : Int32) (σ : zSg) (τ1 : zSg) (r1 : Int32) (g1 : p_9 (q_r (σ.1 (q_r (σ.1 a0 2)) 1)) a1 σ r1 τ1) (h2 : r1.toInt = (0 : Int)) :
    p_167 (a0) (a1) σ (.inr 2) τ1 := by
  obtain ⟨rfl, g⟩ := g1
  refine ⟨rfl, ?_⟩
  rintro rfl K H nf L u0 u6
  have pp : q_i (τ1.1 (q_r (τ1.1 (q_r (τ1.1 0 2)) 1)) 4) = Int32.ofNat nf := by
    rw [K.q.2.1, L.k hk_1]
    exact (L.p hp_0).trans u0
  rw [pp, o32 (by omega)] at g
  exact ⟨fun h => (by cases h), fun _ => fun q => absurd h2 (g.mpr ⟨q.1, q.2, by omega⟩)⟩
noncomputable def qP_167 : zPp := fun as σ o σ' => match as with
  | [a0, a1] => (o = .inl none ∧ p_167 (q_r a0) (q_i a1) σ (.inl 0) σ') ∨ (o = .inr 2 ∧ p_167 (q_r a0) (q_i a1) σ (.inr 2) σ')
  | _ => True
set_option maxRecDepth 100000 in
theorem sp_167 {sx : zX} (S9 : zEe sx 9 2 qP_9) : zEe sx 167 2 qP_167 := by
  refine zfle zJ_167 (sps := [(9, 2, qP_9)]) (fun q hq => by
    simp only [List.mem_cons, List.not_mem_nil, or_false] at hq
    rcases hq with rfl
    · exact S9) (fun as σ hl => ?_)
  match as, hl with
  | [a0, a1], _ =>
  refine ⟨[], 400, ?_, ?_⟩
  · exact fun q hq => absurd hq List.not_mem_nil
  · refine fun o1 τ1 g1 => ?_
    obtain ⟨r1, rfl, g1⟩ := g1
    refine And.intro (fun h2 => ?_) (fun h2 => ?_)
    · exact Or.inl ⟨rfl, sp_167_et (q_r a0) (q_i a1) σ τ1 r1 g1 (cm1t h2)⟩
    · exact Or.inr (⟨rfl, sp_167_ef (q_r a0) (q_i a1) σ τ1 r1 g1 (cm1f h2)⟩)
theorem zJ_168 : zJ3 168 z_m168 z_c168 z_h168 := ⟨rfl, rfl, rfl⟩
noncomputable def p_168 (a : Nat) (f : Int32) (σ : zSg) (e : Int32 ⊕ Nat) (σ' : zSg) : Prop := σ' = σ ∧ (a = 0 → xSk σ → ∀ H nf, hH σ 8 H → H 1 = Int32.ofNat nf → nf ≤ 8 → (e = .inl 0 → 0 ≤ f.toInt ∧ f.toInt < (nf : Int)) ∧ (e = .inr 2 → ¬ (0 ≤ f.toInt ∧ f.toInt < (nf : Int))))
theorem sp_168_et (a0 : Nat) (a1 : Int32) (σ : zSg) (τ1 : zSg) (r1 : Int32) (g1 : p_102 (q_r (σ.1 (q_r (σ.1 a0 2)) 2)) a1 σ r1 τ1) (h2 : r1.toInt ≠ (0 : Int)) :
    p_168 (a0) (a1) σ (.inl 0) τ1 := by
  obtain ⟨rfl, g⟩ := g1
  refine ⟨rfl, ?_⟩
  rintro rfl K H nf L u0 u6
  have pp : q_i (τ1.1 (q_r (τ1.1 (q_r (τ1.1 0 2)) 2)) 3) = Int32.ofNat nf := by
    rw [K.q.2.1, L.k hk_2]
    exact (L.p hp_1).trans u0
  rw [pp, o32 (by omega)] at g
  exact ⟨fun _ => ⟨(g.mp h2).1, (g.mp h2).2.1⟩, fun h => (by cases h)⟩
theorem sp_168_ef (a0 : Nat) (a1 : Int32) (σ : zSg) (τ1 : zSg) (r1 : Int32) (g1 : p_102 (q_r (σ.1 (q_r (σ.1 a0 2)) 2)) a1 σ r1 τ1) (h2 : r1.toInt = (0 : Int)) :
    p_168 (a0) (a1) σ (.inr 2) τ1 := by
  obtain ⟨rfl, g⟩ := g1
  refine ⟨rfl, ?_⟩
  rintro rfl K H nf L u0 u6
  have pp : q_i (τ1.1 (q_r (τ1.1 (q_r (τ1.1 0 2)) 2)) 3) = Int32.ofNat nf := by
    rw [K.q.2.1, L.k hk_2]
    exact (L.p hp_1).trans u0
  rw [pp, o32 (by omega)] at g
  exact ⟨fun h => (by cases h), fun _ => fun q => absurd h2 (g.mpr ⟨q.1, q.2, by omega⟩)⟩
noncomputable def qP_168 : zPp := fun as σ o σ' => match as with
  | [a0, a1] => (o = .inl none ∧ p_168 (q_r a0) (q_i a1) σ (.inl 0) σ') ∨ (o = .inr 2 ∧ p_168 (q_r a0) (q_i a1) σ (.inr 2) σ')
  | _ => True
set_option maxRecDepth 100000 in
theorem sp_168 {sx : zX} (S102 : zEe sx 102 2 qP_102) : zEe sx 168 2 qP_168 := by
  refine zfle zJ_168 (sps := [(102, 2, qP_102)]) (fun q hq => by
    simp only [List.mem_cons, List.not_mem_nil, or_false] at hq
    rcases hq with rfl
    · exact S102) (fun as σ hl => ?_)
  match as, hl with
  | [a0, a1], _ =>
  refine ⟨[], 400, ?_, ?_⟩
  · exact fun q hq => absurd hq List.not_mem_nil
  · refine fun o1 τ1 g1 => ?_
    obtain ⟨r1, rfl, g1⟩ := g1
    refine And.intro (fun h2 => ?_) (fun h2 => ?_)
    · exact Or.inl ⟨rfl, sp_168_et (q_r a0) (q_i a1) σ τ1 r1 g1 (cm1t h2)⟩
    · exact Or.inr (⟨rfl, sp_168_ef (q_r a0) (q_i a1) σ τ1 r1 g1 (cm1f h2)⟩)
theorem zJ_129 : zJ3 129 z_m129 z_c129 z_h129 := ⟨rfl, rfl, rfl⟩
noncomputable def p_129 (a : Nat) (h o : Int32) (σ : zSg) (e : Int32 ⊕ Nat) (σ' : zSg) : Prop := a = 0 → ∀ A nf nt nx n Ms, xA σ A nf nt nx n Ms → (¬ ((0 ≤ h.toInt ∧ h.toInt < 24) ∧ (0 ≤ o.toInt ∧ o.toInt < 24)) → e = .inr 2 ∧ σ' = σ) ∧ (∀ x y, h = Int32.ofNat x → x < 24 → o = Int32.ofNat y → y < 24 → (x = y → e = .inr 0 ∧ σ' = σ) ∧ (x ≠ y → (¬ (A (16 + x) ≠ Int32.ofInt (-1) ∧ A (16 + y) ≠ Int32.ofInt (-1) ∧ A (16 + x) ≠ A (16 + y)) → e = .inr 4 ∧ σ' = σ) ∧ ((A (16 + x) ≠ Int32.ofInt (-1) ∧ A (16 + y) ≠ Int32.ofInt (-1) ∧ A (16 + x) ≠ A (16 + y)) → e = .inl (A (16 + y)) ∧ xR σ σ' A (aU (aU A (16 + x) (A (16 + y))) (16 + y) (A (16 + x))) nx n Ms)))
theorem sp_129_ennntn (a0 : Nat) (a1 : Int32) (a2 : Int32) (σ : zSg) (τ1 : zSg) (τ2 : zSg) (τ3 : zSg) (τ7 : zSg) (τ8 : zSg) (g1 : p_166 a0 a1 σ (.inl 0) τ1) (g2 : p_166 a0 a2 τ1 (.inl 0) τ2) (g3 : p_171 a0 a1 a2 τ2 (.inl 0) τ3) (h4 : 0 ≤ a1.toInt ∧ a1.toInt < (τ3.2.1 (q_r (τ3.1 (q_r (τ3.1 a0 2)) 0)) : Int)) (h5 : 0 ≤ a2.toInt ∧ a2.toInt < (τ3.2.1 (q_r (τ3.1 (q_r (τ3.1 a0 2)) 0)) : Int)) (h6 : (q_i (τ3.1 (q_r (τ3.1 (q_r (τ3.1 a0 2)) 0)) a1.toNatClampNeg)).toInt = (-1 : Int)) (g7 : p_172 a0 (Int32.ofInt (0)) τ3 (.inl 0) τ7) (g8 : p_62 (q_r (τ7.1 a0 5)) (q_r (τ7.1 a0 2)) τ7 τ8) (h9 : 0 ≤ a1.toInt ∧ a1.toInt < (τ8.2.1 (q_r (τ8.1 (q_r (τ8.1 a0 2)) 0)) : Int)) (h10 : 0 ≤ a2.toInt ∧ a2.toInt < ((q_w τ8 (q_r (τ8.1 (q_r (τ8.1 a0 2)) 0)) a1.toNatClampNeg (.int (q_i (τ3.1 (q_r (τ3.1 (q_r (τ3.1 a0 2)) 0)) a2.toNatClampNeg)))).2.1 (q_r ((q_w τ8 (q_r (τ8.1 (q_r (τ8.1 a0 2)) 0)) a1.toNatClampNeg (.int (q_i (τ3.1 (q_r (τ3.1 (q_r (τ3.1 a0 2)) 0)) a2.toNatClampNeg)))).1 (q_r ((q_w τ8 (q_r (τ8.1 (q_r (τ8.1 a0 2)) 0)) a1.toNatClampNeg (.int (q_i (τ3.1 (q_r (τ3.1 (q_r (τ3.1 a0 2)) 0)) a2.toNatClampNeg)))).1 a0 2)) 0)) : Int)) :
    p_129 (a0) (a1) (a2) σ (.inl (q_i (τ3.1 (q_r (τ3.1 (q_r (τ3.1 a0 2)) 0)) a2.toNatClampNeg))) (q_w (q_w τ8 (q_r (τ8.1 (q_r (τ8.1 a0 2)) 0)) a1.toNatClampNeg (.int (q_i (τ3.1 (q_r (τ3.1 (q_r (τ3.1 a0 2)) 0)) a2.toNatClampNeg)))) (q_r ((q_w τ8 (q_r (τ8.1 (q_r (τ8.1 a0 2)) 0)) a1.toNatClampNeg (.int (q_i (τ3.1 (q_r (τ3.1 (q_r (τ3.1 a0 2)) 0)) a2.toNatClampNeg)))).1 (q_r ((q_w τ8 (q_r (τ8.1 (q_r (τ8.1 a0 2)) 0)) a1.toNatClampNeg (.int (q_i (τ3.1 (q_r (τ3.1 (q_r (τ3.1 a0 2)) 0)) a2.toNatClampNeg)))).1 a0 2)) 0)) a2.toNatClampNeg (.int (q_i (τ3.1 (q_r (τ3.1 (q_r (τ3.1 a0 2)) 0)) a1.toNatClampNeg)))) := by
  rintro rfl A nf nt nx n Ms K
  have q0 := K.1.q
  obtain ⟨rfl, u, -⟩ := g1
  have u := u rfl
  obtain ⟨rfl, u', -⟩ := g2
  have u' := u' rfl
  obtain ⟨rfl, v, -⟩ := g3
  have v := v rfl
  refine ⟨fun w => absurd ⟨u, u'⟩ w, fun x y e1 l1 e2 l2 => ?_⟩
  subst e1
  subst e2
  rw [o32 (by omega), o32 (by omega)] at v
  refine ⟨fun w => absurd (by rw [w]) v, fun _ => ?_⟩
  have wx := K.2.1.p (hp_h l1)
  have wy := K.2.1.p (hp_h l2)
  have d0 := K.2.1.k hk_0
  have nh : (Int32.ofNat x).toNatClampNeg = x := o32n (by omega)
  have no : (Int32.ofNat y).toNatClampNeg = y := o32n (by omega)
  simp only [q0.2.1, d0, nh, no, wx, wy] at h6
  obtain ⟨rfl, z, -⟩ := g7
  have z := z rfl
  exact absurd rfl z
theorem sp_129_ennntx4_ (a0 : Nat) (a1 : Int32) (a2 : Int32) (σ : zSg) (τ1 : zSg) (τ2 : zSg) (τ3 : zSg) (τ7 : zSg) (g1 : p_166 a0 a1 σ (.inl 0) τ1) (g2 : p_166 a0 a2 τ1 (.inl 0) τ2) (g3 : p_171 a0 a1 a2 τ2 (.inl 0) τ3) (h4 : 0 ≤ a1.toInt ∧ a1.toInt < (τ3.2.1 (q_r (τ3.1 (q_r (τ3.1 a0 2)) 0)) : Int)) (h5 : 0 ≤ a2.toInt ∧ a2.toInt < (τ3.2.1 (q_r (τ3.1 (q_r (τ3.1 a0 2)) 0)) : Int)) (h6 : (q_i (τ3.1 (q_r (τ3.1 (q_r (τ3.1 a0 2)) 0)) a1.toNatClampNeg)).toInt = (-1 : Int)) (g7 : p_172 a0 (Int32.ofInt (0)) τ3 (.inr 4) τ7) :
    p_129 (a0) (a1) (a2) σ (.inr 4) τ7 := by
  rintro rfl A nf nt nx n Ms K
  have q0 := K.1.q
  obtain ⟨rfl, u, -⟩ := g1
  have u := u rfl
  obtain ⟨rfl, u', -⟩ := g2
  have u' := u' rfl
  obtain ⟨rfl, v, -⟩ := g3
  have v := v rfl
  refine ⟨fun w => absurd ⟨u, u'⟩ w, fun x y e1 l1 e2 l2 => ?_⟩
  subst e1
  subst e2
  rw [o32 (by omega), o32 (by omega)] at v
  refine ⟨fun w => absurd (by rw [w]) v, fun _ => ?_⟩
  have wx := K.2.1.p (hp_h l1)
  have wy := K.2.1.p (hp_h l2)
  have d0 := K.2.1.k hk_0
  have nh : (Int32.ofNat x).toNatClampNeg = x := o32n (by omega)
  have no : (Int32.ofNat y).toNatClampNeg = y := o32n (by omega)
  simp only [q0.2.1, d0, nh, no, wx, wy] at h6
  obtain ⟨rfl, -, z⟩ := g7
  have z := z rfl
  exact ⟨fun _ => ⟨rfl, rfl⟩, fun q => absurd (Int32.toInt_inj.mp h6) q.1⟩
theorem sp_129_ennnftn (a0 : Nat) (a1 : Int32) (a2 : Int32) (σ : zSg) (τ1 : zSg) (τ2 : zSg) (τ3 : zSg) (τ12 : zSg) (τ13 : zSg) (g1 : p_166 a0 a1 σ (.inl 0) τ1) (g2 : p_166 a0 a2 τ1 (.inl 0) τ2) (g3 : p_171 a0 a1 a2 τ2 (.inl 0) τ3) (h4 : 0 ≤ a1.toInt ∧ a1.toInt < (τ3.2.1 (q_r (τ3.1 (q_r (τ3.1 a0 2)) 0)) : Int)) (h5 : 0 ≤ a2.toInt ∧ a2.toInt < (τ3.2.1 (q_r (τ3.1 (q_r (τ3.1 a0 2)) 0)) : Int)) (h6 : (q_i (τ3.1 (q_r (τ3.1 (q_r (τ3.1 a0 2)) 0)) a1.toNatClampNeg)).toInt ≠ (-1 : Int)) (h11 : (q_i (τ3.1 (q_r (τ3.1 (q_r (τ3.1 a0 2)) 0)) a2.toNatClampNeg)).toInt = (-1 : Int)) (g12 : p_172 a0 (Int32.ofInt (0)) τ3 (.inl 0) τ12) (g13 : p_62 (q_r (τ12.1 a0 5)) (q_r (τ12.1 a0 2)) τ12 τ13) (h14 : 0 ≤ a1.toInt ∧ a1.toInt < (τ13.2.1 (q_r (τ13.1 (q_r (τ13.1 a0 2)) 0)) : Int)) (h15 : 0 ≤ a2.toInt ∧ a2.toInt < ((q_w τ13 (q_r (τ13.1 (q_r (τ13.1 a0 2)) 0)) a1.toNatClampNeg (.int (q_i (τ3.1 (q_r (τ3.1 (q_r (τ3.1 a0 2)) 0)) a2.toNatClampNeg)))).2.1 (q_r ((q_w τ13 (q_r (τ13.1 (q_r (τ13.1 a0 2)) 0)) a1.toNatClampNeg (.int (q_i (τ3.1 (q_r (τ3.1 (q_r (τ3.1 a0 2)) 0)) a2.toNatClampNeg)))).1 (q_r ((q_w τ13 (q_r (τ13.1 (q_r (τ13.1 a0 2)) 0)) a1.toNatClampNeg (.int (q_i (τ3.1 (q_r (τ3.1 (q_r (τ3.1 a0 2)) 0)) a2.toNatClampNeg)))).1 a0 2)) 0)) : Int)) :
    p_129 (a0) (a1) (a2) σ (.inl (q_i (τ3.1 (q_r (τ3.1 (q_r (τ3.1 a0 2)) 0)) a2.toNatClampNeg))) (q_w (q_w τ13 (q_r (τ13.1 (q_r (τ13.1 a0 2)) 0)) a1.toNatClampNeg (.int (q_i (τ3.1 (q_r (τ3.1 (q_r (τ3.1 a0 2)) 0)) a2.toNatClampNeg)))) (q_r ((q_w τ13 (q_r (τ13.1 (q_r (τ13.1 a0 2)) 0)) a1.toNatClampNeg (.int (q_i (τ3.1 (q_r (τ3.1 (q_r (τ3.1 a0 2)) 0)) a2.toNatClampNeg)))).1 (q_r ((q_w τ13 (q_r (τ13.1 (q_r (τ13.1 a0 2)) 0)) a1.toNatClampNeg (.int (q_i (τ3.1 (q_r (τ3.1 (q_r (τ3.1 a0 2)) 0)) a2.toNatClampNeg)))).1 a0 2)) 0)) a2.toNatClampNeg (.int (q_i (τ3.1 (q_r (τ3.1 (q_r (τ3.1 a0 2)) 0)) a1.toNatClampNeg)))) := by
  rintro rfl A nf nt nx n Ms K
  have q0 := K.1.q
  obtain ⟨rfl, u, -⟩ := g1
  have u := u rfl
  obtain ⟨rfl, u', -⟩ := g2
  have u' := u' rfl
  obtain ⟨rfl, v, -⟩ := g3
  have v := v rfl
  refine ⟨fun w => absurd ⟨u, u'⟩ w, fun x y e1 l1 e2 l2 => ?_⟩
  subst e1
  subst e2
  rw [o32 (by omega), o32 (by omega)] at v
  refine ⟨fun w => absurd (by rw [w]) v, fun _ => ?_⟩
  have wx := K.2.1.p (hp_h l1)
  have wy := K.2.1.p (hp_h l2)
  have d0 := K.2.1.k hk_0
  have nh : (Int32.ofNat x).toNatClampNeg = x := o32n (by omega)
  have no : (Int32.ofNat y).toNatClampNeg = y := o32n (by omega)
  simp only [q0.2.1, d0, nh, no, wx, wy] at h6 h11
  obtain ⟨rfl, z, -⟩ := g12
  have z := z rfl
  exact absurd rfl z
theorem sp_129_ennnftx4_ (a0 : Nat) (a1 : Int32) (a2 : Int32) (σ : zSg) (τ1 : zSg) (τ2 : zSg) (τ3 : zSg) (τ12 : zSg) (g1 : p_166 a0 a1 σ (.inl 0) τ1) (g2 : p_166 a0 a2 τ1 (.inl 0) τ2) (g3 : p_171 a0 a1 a2 τ2 (.inl 0) τ3) (h4 : 0 ≤ a1.toInt ∧ a1.toInt < (τ3.2.1 (q_r (τ3.1 (q_r (τ3.1 a0 2)) 0)) : Int)) (h5 : 0 ≤ a2.toInt ∧ a2.toInt < (τ3.2.1 (q_r (τ3.1 (q_r (τ3.1 a0 2)) 0)) : Int)) (h6 : (q_i (τ3.1 (q_r (τ3.1 (q_r (τ3.1 a0 2)) 0)) a1.toNatClampNeg)).toInt ≠ (-1 : Int)) (h11 : (q_i (τ3.1 (q_r (τ3.1 (q_r (τ3.1 a0 2)) 0)) a2.toNatClampNeg)).toInt = (-1 : Int)) (g12 : p_172 a0 (Int32.ofInt (0)) τ3 (.inr 4) τ12) :
    p_129 (a0) (a1) (a2) σ (.inr 4) τ12 := by
  rintro rfl A nf nt nx n Ms K
  have q0 := K.1.q
  obtain ⟨rfl, u, -⟩ := g1
  have u := u rfl
  obtain ⟨rfl, u', -⟩ := g2
  have u' := u' rfl
  obtain ⟨rfl, v, -⟩ := g3
  have v := v rfl
  refine ⟨fun w => absurd ⟨u, u'⟩ w, fun x y e1 l1 e2 l2 => ?_⟩
  subst e1
  subst e2
  rw [o32 (by omega), o32 (by omega)] at v
  refine ⟨fun w => absurd (by rw [w]) v, fun _ => ?_⟩
  have wx := K.2.1.p (hp_h l1)
  have wy := K.2.1.p (hp_h l2)
  have d0 := K.2.1.k hk_0
  have nh : (Int32.ofNat x).toNatClampNeg = x := o32n (by omega)
  have no : (Int32.ofNat y).toNatClampNeg = y := o32n (by omega)
  simp only [q0.2.1, d0, nh, no, wx, wy] at h6 h11
  obtain ⟨rfl, -, z⟩ := g12
  have z := z rfl
  exact ⟨fun _ => ⟨rfl, rfl⟩, fun q => absurd (Int32.toInt_inj.mp h11) q.2.1⟩
theorem sp_129_ennnfftn (a0 : Nat) (a1 : Int32) (a2 : Int32) (σ : zSg) (τ1 : zSg) (τ2 : zSg) (τ3 : zSg) (τ17 : zSg) (τ18 : zSg) (g1 : p_166 a0 a1 σ (.inl 0) τ1) (g2 : p_166 a0 a2 τ1 (.inl 0) τ2) (g3 : p_171 a0 a1 a2 τ2 (.inl 0) τ3) (h4 : 0 ≤ a1.toInt ∧ a1.toInt < (τ3.2.1 (q_r (τ3.1 (q_r (τ3.1 a0 2)) 0)) : Int)) (h5 : 0 ≤ a2.toInt ∧ a2.toInt < (τ3.2.1 (q_r (τ3.1 (q_r (τ3.1 a0 2)) 0)) : Int)) (h6 : (q_i (τ3.1 (q_r (τ3.1 (q_r (τ3.1 a0 2)) 0)) a1.toNatClampNeg)).toInt ≠ (-1 : Int)) (h11 : (q_i (τ3.1 (q_r (τ3.1 (q_r (τ3.1 a0 2)) 0)) a2.toNatClampNeg)).toInt ≠ (-1 : Int)) (h16 : (q_i (τ3.1 (q_r (τ3.1 (q_r (τ3.1 a0 2)) 0)) a1.toNatClampNeg)).toInt = (q_i (τ3.1 (q_r (τ3.1 (q_r (τ3.1 a0 2)) 0)) a2.toNatClampNeg)).toInt) (g17 : p_172 a0 (Int32.ofInt (0)) τ3 (.inl 0) τ17) (g18 : p_62 (q_r (τ17.1 a0 5)) (q_r (τ17.1 a0 2)) τ17 τ18) (h19 : 0 ≤ a1.toInt ∧ a1.toInt < (τ18.2.1 (q_r (τ18.1 (q_r (τ18.1 a0 2)) 0)) : Int)) (h20 : 0 ≤ a2.toInt ∧ a2.toInt < ((q_w τ18 (q_r (τ18.1 (q_r (τ18.1 a0 2)) 0)) a1.toNatClampNeg (.int (q_i (τ3.1 (q_r (τ3.1 (q_r (τ3.1 a0 2)) 0)) a2.toNatClampNeg)))).2.1 (q_r ((q_w τ18 (q_r (τ18.1 (q_r (τ18.1 a0 2)) 0)) a1.toNatClampNeg (.int (q_i (τ3.1 (q_r (τ3.1 (q_r (τ3.1 a0 2)) 0)) a2.toNatClampNeg)))).1 (q_r ((q_w τ18 (q_r (τ18.1 (q_r (τ18.1 a0 2)) 0)) a1.toNatClampNeg (.int (q_i (τ3.1 (q_r (τ3.1 (q_r (τ3.1 a0 2)) 0)) a2.toNatClampNeg)))).1 a0 2)) 0)) : Int)) :
    p_129 (a0) (a1) (a2) σ (.inl (q_i (τ3.1 (q_r (τ3.1 (q_r (τ3.1 a0 2)) 0)) a2.toNatClampNeg))) (q_w (q_w τ18 (q_r (τ18.1 (q_r (τ18.1 a0 2)) 0)) a1.toNatClampNeg (.int (q_i (τ3.1 (q_r (τ3.1 (q_r (τ3.1 a0 2)) 0)) a2.toNatClampNeg)))) (q_r ((q_w τ18 (q_r (τ18.1 (q_r (τ18.1 a0 2)) 0)) a1.toNatClampNeg (.int (q_i (τ3.1 (q_r (τ3.1 (q_r (τ3.1 a0 2)) 0)) a2.toNatClampNeg)))).1 (q_r ((q_w τ18 (q_r (τ18.1 (q_r (τ18.1 a0 2)) 0)) a1.toNatClampNeg (.int (q_i (τ3.1 (q_r (τ3.1 (q_r (τ3.1 a0 2)) 0)) a2.toNatClampNeg)))).1 a0 2)) 0)) a2.toNatClampNeg (.int (q_i (τ3.1 (q_r (τ3.1 (q_r (τ3.1 a0 2)) 0)) a1.toNatClampNeg)))) := by
  rintro rfl A nf nt nx n Ms K
  have q0 := K.1.q
  obtain ⟨rfl, u, -⟩ := g1
  have u := u rfl
  obtain ⟨rfl, u', -⟩ := g2
  have u' := u' rfl
  obtain ⟨rfl, v, -⟩ := g3
  have v := v rfl
  refine ⟨fun w => absurd ⟨u, u'⟩ w, fun x y e1 l1 e2 l2 => ?_⟩
  subst e1
  subst e2
  rw [o32 (by omega), o32 (by omega)] at v
  refine ⟨fun w => absurd (by rw [w]) v, fun _ => ?_⟩
  have wx := K.2.1.p (hp_h l1)
  have wy := K.2.1.p (hp_h l2)
  have d0 := K.2.1.k hk_0
  have nh : (Int32.ofNat x).toNatClampNeg = x := o32n (by omega)
  have no : (Int32.ofNat y).toNatClampNeg = y := o32n (by omega)
  simp only [q0.2.1, d0, nh, no, wx, wy] at h6 h11 h16
  obtain ⟨rfl, z, -⟩ := g17
  have z := z rfl
  exact absurd rfl z
theorem sp_129_ennnfftx4_ (a0 : Nat) (a1 : Int32) (a2 : Int32) (σ : zSg) (τ1 : zSg) (τ2 : zSg) (τ3 : zSg) (τ17 : zSg) (g1 : p_166 a0 a1 σ (.inl 0) τ1) (g2 : p_166 a0 a2 τ1 (.inl 0) τ2) (g3 : p_171 a0 a1 a2 τ2 (.inl 0) τ3) (h4 : 0 ≤ a1.toInt ∧ a1.toInt < (τ3.2.1 (q_r (τ3.1 (q_r (τ3.1 a0 2)) 0)) : Int)) (h5 : 0 ≤ a2.toInt ∧ a2.toInt < (τ3.2.1 (q_r (τ3.1 (q_r (τ3.1 a0 2)) 0)) : Int)) (h6 : (q_i (τ3.1 (q_r (τ3.1 (q_r (τ3.1 a0 2)) 0)) a1.toNatClampNeg)).toInt ≠ (-1 : Int)) (h11 : (q_i (τ3.1 (q_r (τ3.1 (q_r (τ3.1 a0 2)) 0)) a2.toNatClampNeg)).toInt ≠ (-1 : Int)) (h16 : (q_i (τ3.1 (q_r (τ3.1 (q_r (τ3.1 a0 2)) 0)) a1.toNatClampNeg)).toInt = (q_i (τ3.1 (q_r (τ3.1 (q_r (τ3.1 a0 2)) 0)) a2.toNatClampNeg)).toInt) (g17 : p_172 a0 (Int32.ofInt (0)) τ3 (.inr 4) τ17) :
    p_129 (a0) (a1) (a2) σ (.inr 4) τ17 := by
  rintro rfl A nf nt nx n Ms K
  have q0 := K.1.q
  obtain ⟨rfl, u, -⟩ := g1
  have u := u rfl
  obtain ⟨rfl, u', -⟩ := g2
  have u' := u' rfl
  obtain ⟨rfl, v, -⟩ := g3
  have v := v rfl
  refine ⟨fun w => absurd ⟨u, u'⟩ w, fun x y e1 l1 e2 l2 => ?_⟩
  subst e1
  subst e2
  rw [o32 (by omega), o32 (by omega)] at v
  refine ⟨fun w => absurd (by rw [w]) v, fun _ => ?_⟩
  have wx := K.2.1.p (hp_h l1)
  have wy := K.2.1.p (hp_h l2)
  have d0 := K.2.1.k hk_0
  have nh : (Int32.ofNat x).toNatClampNeg = x := o32n (by omega)
  have no : (Int32.ofNat y).toNatClampNeg = y := o32n (by omega)
  simp only [q0.2.1, d0, nh, no, wx, wy] at h6 h11 h16
  obtain ⟨rfl, -, z⟩ := g17
  have z := z rfl
  exact ⟨fun _ => ⟨rfl, rfl⟩, fun q => absurd (Int32.toInt_inj.mp h16) q.2.2⟩
theorem sp_129_ennnfffn (a0 : Nat) (a1 : Int32) (a2 : Int32) (σ : zSg) (τ1 : zSg) (τ2 : zSg) (τ3 : zSg) (τ21 : zSg) (τ22 : zSg) (g1 : p_166 a0 a1 σ (.inl 0) τ1) (g2 : p_166 a0 a2 τ1 (.inl 0) τ2) (g3 : p_171 a0 a1 a2 τ2 (.inl 0) τ3) (h4 : 0 ≤ a1.toInt ∧ a1.toInt < (τ3.2.1 (q_r (τ3.1 (q_r (τ3.1 a0 2)) 0)) : Int)) (h5 : 0 ≤ a2.toInt ∧ a2.toInt < (τ3.2.1 (q_r (τ3.1 (q_r (τ3.1 a0 2)) 0)) : Int)) (h6 : (q_i (τ3.1 (q_r (τ3.1 (q_r (τ3.1 a0 2)) 0)) a1.toNatClampNeg)).toInt ≠ (-1 : Int)) (h11 : (q_i (τ3.1 (q_r (τ3.1 (q_r (τ3.1 a0 2)) 0)) a2.toNatClampNeg)).toInt ≠ (-1 : Int)) (h16 : (q_i (τ3.1 (q_r (τ3.1 (q_r (τ3.1 a0 2)) 0)) a1.toNatClampNeg)).toInt ≠ (q_i (τ3.1 (q_r (τ3.1 (q_r (τ3.1 a0 2)) 0)) a2.toNatClampNeg)).toInt) (g21 : p_172 a0 (Int32.ofInt (1)) τ3 (.inl 0) τ21) (g22 : p_62 (q_r (τ21.1 a0 5)) (q_r (τ21.1 a0 2)) τ21 τ22) (h23 : 0 ≤ a1.toInt ∧ a1.toInt < (τ22.2.1 (q_r (τ22.1 (q_r (τ22.1 a0 2)) 0)) : Int)) (h24 : 0 ≤ a2.toInt ∧ a2.toInt < ((q_w τ22 (q_r (τ22.1 (q_r (τ22.1 a0 2)) 0)) a1.toNatClampNeg (.int (q_i (τ3.1 (q_r (τ3.1 (q_r (τ3.1 a0 2)) 0)) a2.toNatClampNeg)))).2.1 (q_r ((q_w τ22 (q_r (τ22.1 (q_r (τ22.1 a0 2)) 0)) a1.toNatClampNeg (.int (q_i (τ3.1 (q_r (τ3.1 (q_r (τ3.1 a0 2)) 0)) a2.toNatClampNeg)))).1 (q_r ((q_w τ22 (q_r (τ22.1 (q_r (τ22.1 a0 2)) 0)) a1.toNatClampNeg (.int (q_i (τ3.1 (q_r (τ3.1 (q_r (τ3.1 a0 2)) 0)) a2.toNatClampNeg)))).1 a0 2)) 0)) : Int)) :
    p_129 (a0) (a1) (a2) σ (.inl (q_i (τ3.1 (q_r (τ3.1 (q_r (τ3.1 a0 2)) 0)) a2.toNatClampNeg))) (q_w (q_w τ22 (q_r (τ22.1 (q_r (τ22.1 a0 2)) 0)) a1.toNatClampNeg (.int (q_i (τ3.1 (q_r (τ3.1 (q_r (τ3.1 a0 2)) 0)) a2.toNatClampNeg)))) (q_r ((q_w τ22 (q_r (τ22.1 (q_r (τ22.1 a0 2)) 0)) a1.toNatClampNeg (.int (q_i (τ3.1 (q_r (τ3.1 (q_r (τ3.1 a0 2)) 0)) a2.toNatClampNeg)))).1 (q_r ((q_w τ22 (q_r (τ22.1 (q_r (τ22.1 a0 2)) 0)) a1.toNatClampNeg (.int (q_i (τ3.1 (q_r (τ3.1 (q_r (τ3.1 a0 2)) 0)) a2.toNatClampNeg)))).1 a0 2)) 0)) a2.toNatClampNeg (.int (q_i (τ3.1 (q_r (τ3.1 (q_r (τ3.1 a0 2)) 0)) a1.toNatClampNeg)))) := by
  rintro rfl A nf nt nx n Ms K
  have q0 := K.1.q
  obtain ⟨rfl, u, -⟩ := g1
  have u := u rfl
  obtain ⟨rfl, u', -⟩ := g2
  have u' := u' rfl
  obtain ⟨rfl, v, -⟩ := g3
  have v := v rfl
  refine ⟨fun w => absurd ⟨u, u'⟩ w, fun x y e1 l1 e2 l2 => ?_⟩
  subst e1
  subst e2
  rw [o32 (by omega), o32 (by omega)] at v
  refine ⟨fun w => absurd (by rw [w]) v, fun _ => ?_⟩
  have wx := K.2.1.p (hp_h l1)
  have wy := K.2.1.p (hp_h l2)
  have d0 := K.2.1.k hk_0
  have nh : (Int32.ofNat x).toNatClampNeg = x := o32n (by omega)
  have no : (Int32.ofNat y).toNatClampNeg = y := o32n (by omega)
  simp only [q0.2.1, d0, nh, no, wx, wy] at h6 h11 h16
  obtain ⟨rfl, z, -⟩ := g21
  have z := z rfl
  have hok : A (16 + x) ≠ Int32.ofInt (-1) ∧ A (16 + y) ≠ Int32.ofInt (-1) ∧ A (16 + x) ≠ A (16 + y) := ⟨fun q => h6 (by rw [q]; rfl), fun q => h11 (by rw [q]; rfl), fun q => h16 (by rw [q])⟩
  refine ⟨fun q => absurd hok q, fun _ => ?_⟩
  rw [q0.2.1, q0.2.2.2.2] at g22
  have R := K.kp g22
  have qs := (R.sk K.1).q
  have d1 := R.2.1.k hk_0
  have T1 := R.hs (hHF.w (hp_h (b := 8) l1)) (R.2.1.ww (v := A (16 + y)) (hp_h l1))
  have qt := (T1.sk K.1).q
  have d2 := T1.2.1.k hk_0
  simp only [q0.2.1, d0, nh, no, wx, wy, qs.2.1, d1, qt.2.1, d2]
  exact ⟨trivial, T1.hs (hHF.w (hp_h l2)) (T1.2.1.ww (hp_h l2))⟩
theorem sp_129_ennnfffx4_ (a0 : Nat) (a1 : Int32) (a2 : Int32) (σ : zSg) (τ1 : zSg) (τ2 : zSg) (τ3 : zSg) (τ21 : zSg) (g1 : p_166 a0 a1 σ (.inl 0) τ1) (g2 : p_166 a0 a2 τ1 (.inl 0) τ2) (g3 : p_171 a0 a1 a2 τ2 (.inl 0) τ3) (h4 : 0 ≤ a1.toInt ∧ a1.toInt < (τ3.2.1 (q_r (τ3.1 (q_r (τ3.1 a0 2)) 0)) : Int)) (h5 : 0 ≤ a2.toInt ∧ a2.toInt < (τ3.2.1 (q_r (τ3.1 (q_r (τ3.1 a0 2)) 0)) : Int)) (h6 : (q_i (τ3.1 (q_r (τ3.1 (q_r (τ3.1 a0 2)) 0)) a1.toNatClampNeg)).toInt ≠ (-1 : Int)) (h11 : (q_i (τ3.1 (q_r (τ3.1 (q_r (τ3.1 a0 2)) 0)) a2.toNatClampNeg)).toInt ≠ (-1 : Int)) (h16 : (q_i (τ3.1 (q_r (τ3.1 (q_r (τ3.1 a0 2)) 0)) a1.toNatClampNeg)).toInt ≠ (q_i (τ3.1 (q_r (τ3.1 (q_r (τ3.1 a0 2)) 0)) a2.toNatClampNeg)).toInt) (g21 : p_172 a0 (Int32.ofInt (1)) τ3 (.inr 4) τ21) :
    p_129 (a0) (a1) (a2) σ (.inr 4) τ21 := by
  rintro rfl A nf nt nx n Ms K
  have q0 := K.1.q
  obtain ⟨rfl, u, -⟩ := g1
  have u := u rfl
  obtain ⟨rfl, u', -⟩ := g2
  have u' := u' rfl
  obtain ⟨rfl, v, -⟩ := g3
  have v := v rfl
  refine ⟨fun w => absurd ⟨u, u'⟩ w, fun x y e1 l1 e2 l2 => ?_⟩
  subst e1
  subst e2
  rw [o32 (by omega), o32 (by omega)] at v
  refine ⟨fun w => absurd (by rw [w]) v, fun _ => ?_⟩
  have wx := K.2.1.p (hp_h l1)
  have wy := K.2.1.p (hp_h l2)
  have d0 := K.2.1.k hk_0
  have nh : (Int32.ofNat x).toNatClampNeg = x := o32n (by omega)
  have no : (Int32.ofNat y).toNatClampNeg = y := o32n (by omega)
  simp only [q0.2.1, d0, nh, no, wx, wy] at h6 h11 h16
  obtain ⟨rfl, -, z⟩ := g21
  have z := z rfl
  exact absurd z (by decide)
theorem sp_129_ennx0_ (a0 : Nat) (a1 : Int32) (a2 : Int32) (σ : zSg) (τ1 : zSg) (τ2 : zSg) (τ3 : zSg) (g1 : p_166 a0 a1 σ (.inl 0) τ1) (g2 : p_166 a0 a2 τ1 (.inl 0) τ2) (g3 : p_171 a0 a1 a2 τ2 (.inr 0) τ3) :
    p_129 (a0) (a1) (a2) σ (.inr 0) τ3 := by
  rintro rfl A nf nt nx n Ms K
  have q0 := K.1.q
  obtain ⟨rfl, u, -⟩ := g1
  have u := u rfl
  obtain ⟨rfl, u', -⟩ := g2
  have u' := u' rfl
  obtain ⟨rfl, -, v⟩ := g3
  have v := v rfl
  refine ⟨fun w => absurd ⟨u, u'⟩ w, fun x y e1 l1 e2 l2 => ?_⟩
  subst e1
  subst e2
  rw [o32 (by omega), o32 (by omega)] at v
  exact ⟨fun _ => ⟨rfl, rfl⟩, fun w => absurd (by omega) w⟩
theorem sp_129_enx2_ (a0 : Nat) (a1 : Int32) (a2 : Int32) (σ : zSg) (τ1 : zSg) (τ2 : zSg) (g1 : p_166 a0 a1 σ (.inl 0) τ1) (g2 : p_166 a0 a2 τ1 (.inr 2) τ2) :
    p_129 (a0) (a1) (a2) σ (.inr 2) τ2 := by
  rintro rfl A nf nt nx n Ms K
  have q0 := K.1.q
  obtain ⟨rfl, -, -⟩ := g1
  obtain ⟨rfl, -, u⟩ := g2
  have u := u rfl
  exact ⟨fun _ => ⟨rfl, rfl⟩, fun x y e1 l1 e2 l2 => absurd (by rw [e2, o32 (by omega)]; omega) u⟩
theorem sp_129_ex2_ (a0 : Nat) (a1 : Int32) (a2 : Int32) (σ : zSg) (τ1 : zSg) (g1 : p_166 a0 a1 σ (.inr 2) τ1) :
    p_129 (a0) (a1) (a2) σ (.inr 2) τ1 := by
  rintro rfl A nf nt nx n Ms K
  have q0 := K.1.q
  obtain ⟨rfl, -, u⟩ := g1
  have u := u rfl
  exact ⟨fun _ => ⟨rfl, rfl⟩, fun x y e1 l1 e2 l2 => absurd (by rw [e1, o32 (by omega)]; omega) u⟩
noncomputable def qP_129 : zPp := fun as σ o σ' => match as with
  | [a0, a1, a2] => (∃ r, o = .inl (some (.int r)) ∧ p_129 (q_r a0) (q_i a1) (q_i a2) σ (.inl r) σ') ∨ (o = .inr 2 ∧ p_129 (q_r a0) (q_i a1) (q_i a2) σ (.inr 2) σ') ∨ (o = .inr 0 ∧ p_129 (q_r a0) (q_i a1) (q_i a2) σ (.inr 0) σ') ∨ (o = .inr 4 ∧ p_129 (q_r a0) (q_i a1) (q_i a2) σ (.inr 4) σ')
  | _ => True
set_option maxRecDepth 100000 in
theorem sp_129 {sx : zX} (S166 : zEe sx 166 2 qP_166) (S171 : zEe sx 171 3 qP_171) (S172 : zEe sx 172 2 qP_172) (S62 : zEe sx 62 2 qP_62) : zEe sx 129 3 qP_129 := by
  refine zfle zJ_129 (sps := [(166, 2, qP_166), (171, 3, qP_171), (172, 2, qP_172), (62, 2, qP_62)]) (fun q hq => by
    simp only [List.mem_cons, List.not_mem_nil, or_false] at hq
    rcases hq with rfl | rfl | rfl | rfl
    · exact S166
    · exact S171
    · exact S172
    · exact S62) (fun as σ hl => ?_)
  match as, hl with
  | [a0, a1, a2], _ =>
  refine ⟨[], 400, ?_, ?_⟩
  · exact fun q hq => absurd hq List.not_mem_nil
  · refine fun o1 τ1 g1 => ?_
    rcases g1 with ⟨rfl, g1⟩ | ⟨rfl, g1⟩
    · refine fun o2 τ2 g2 => ?_
      rcases g2 with ⟨rfl, g2⟩ | ⟨rfl, g2⟩
      · refine fun o3 τ3 g3 => ?_
        rcases g3 with ⟨rfl, g3⟩ | ⟨rfl, g3⟩
        · refine fun h4 => ?_
          refine fun h5 => ?_
          refine And.intro (fun h6 => ?_) (fun h6 => ?_)
          · refine fun o7 τ7 g7 => ?_
            rcases g7 with ⟨rfl, g7⟩ | ⟨rfl, g7⟩
            · refine fun o8 τ8 g8 => ?_
              obtain ⟨rfl, g8⟩ := g8
              refine fun h9 => ?_
              refine fun h10 => ?_
              exact Or.inl ⟨_, rfl, sp_129_ennntn (q_r a0) (q_i a1) (q_i a2) σ τ1 τ2 τ3 τ7 τ8 g1 g2 g3 (q_inp h4) (q_inp h5) (cm0t h6) g7 g8 (q_inp h9) (q_inp h10)⟩
            · exact Or.inr (Or.inr (Or.inr (⟨rfl, sp_129_ennntx4_ (q_r a0) (q_i a1) (q_i a2) σ τ1 τ2 τ3 τ7 g1 g2 g3 (q_inp h4) (q_inp h5) (cm0t h6) g7⟩)))
          · refine And.intro (fun h11 => ?_) (fun h11 => ?_)
            · refine fun o12 τ12 g12 => ?_
              rcases g12 with ⟨rfl, g12⟩ | ⟨rfl, g12⟩
              · refine fun o13 τ13 g13 => ?_
                obtain ⟨rfl, g13⟩ := g13
                refine fun h14 => ?_
                refine fun h15 => ?_
                exact Or.inl ⟨_, rfl, sp_129_ennnftn (q_r a0) (q_i a1) (q_i a2) σ τ1 τ2 τ3 τ12 τ13 g1 g2 g3 (q_inp h4) (q_inp h5) (cm0f h6) (cm0t h11) g12 g13 (q_inp h14) (q_inp h15)⟩
              · exact Or.inr (Or.inr (Or.inr (⟨rfl, sp_129_ennnftx4_ (q_r a0) (q_i a1) (q_i a2) σ τ1 τ2 τ3 τ12 g1 g2 g3 (q_inp h4) (q_inp h5) (cm0f h6) (cm0t h11) g12⟩)))
            · refine And.intro (fun h16 => ?_) (fun h16 => ?_)
              · refine fun o17 τ17 g17 => ?_
                rcases g17 with ⟨rfl, g17⟩ | ⟨rfl, g17⟩
                · refine fun o18 τ18 g18 => ?_
                  obtain ⟨rfl, g18⟩ := g18
                  refine fun h19 => ?_
                  refine fun h20 => ?_
                  exact Or.inl ⟨_, rfl, sp_129_ennnfftn (q_r a0) (q_i a1) (q_i a2) σ τ1 τ2 τ3 τ17 τ18 g1 g2 g3 (q_inp h4) (q_inp h5) (cm0f h6) (cm0f h11) (cm0t h16) g17 g18 (q_inp h19) (q_inp h20)⟩
                · exact Or.inr (Or.inr (Or.inr (⟨rfl, sp_129_ennnfftx4_ (q_r a0) (q_i a1) (q_i a2) σ τ1 τ2 τ3 τ17 g1 g2 g3 (q_inp h4) (q_inp h5) (cm0f h6) (cm0f h11) (cm0t h16) g17⟩)))
              · refine fun o21 τ21 g21 => ?_
                rcases g21 with ⟨rfl, g21⟩ | ⟨rfl, g21⟩
                · refine fun o22 τ22 g22 => ?_
                  obtain ⟨rfl, g22⟩ := g22
                  refine fun h23 => ?_
                  refine fun h24 => ?_
                  exact Or.inl ⟨_, rfl, sp_129_ennnfffn (q_r a0) (q_i a1) (q_i a2) σ τ1 τ2 τ3 τ21 τ22 g1 g2 g3 (q_inp h4) (q_inp h5) (cm0f h6) (cm0f h11) (cm0f h16) g21 g22 (q_inp h23) (q_inp h24)⟩
                · exact Or.inr (Or.inr (Or.inr (⟨rfl, sp_129_ennnfffx4_ (q_r a0) (q_i a1) (q_i a2) σ τ1 τ2 τ3 τ21 g1 g2 g3 (q_inp h4) (q_inp h5) (cm0f h6) (cm0f h11) (cm0f h16) g21⟩)))
        · exact Or.inr (Or.inr (Or.inl (⟨rfl, sp_129_ennx0_ (q_r a0) (q_i a1) (q_i a2) σ τ1 τ2 τ3 g1 g2 g3⟩)))
      · exact Or.inr (Or.inl (⟨rfl, sp_129_enx2_ (q_r a0) (q_i a1) (q_i a2) σ τ1 τ2 g1 g2⟩))
    · exact Or.inr (Or.inl (⟨rfl, sp_129_ex2_ (q_r a0) (q_i a1) (q_i a2) σ τ1 g1⟩))
theorem zJ_128 : zJ3 128 z_m128 z_c128 z_h128 := ⟨rfl, rfl, rfl⟩
noncomputable def p_128 (a : Nat) (h f : Int32) (σ : zSg) (e : Int32 ⊕ Nat) (σ' : zSg) : Prop := a = 0 → ∀ A nf nt nx n Ms, xA σ A nf nt nx n Ms → (¬ ((0 ≤ h.toInt ∧ h.toInt < 24) ∧ (0 ≤ f.toInt ∧ f.toInt < (nf : Int))) → e = .inr 2 ∧ σ' = σ) ∧ (∀ x F, h = Int32.ofNat x → x < 24 → f = Int32.ofNat F → F < nf → (¬ (A (16 + x) = Int32.ofInt (-1) ∧ (A 12).toInt ≤ (A (40 + 4 * F)).toInt) → e = .inr 4 ∧ σ' = σ) ∧ ((A (16 + x) = Int32.ofInt (-1) ∧ (A 12).toInt ≤ (A (40 + 4 * F)).toInt) → e = .inl (aPy (A (40 + 4 * F)) (A 12)) ∧ xR σ σ' A (aU (aU A (40 + 4 * F) (aPy (A (40 + 4 * F)) (A 12))) (16 + x) (Int32.ofNat F)) nx n Ms))
theorem sp_128_enntn (a0 : Nat) (a1 : Int32) (a2 : Int32) (σ : zSg) (τ1 : zSg) (τ2 : zSg) (τ5 : zSg) (τ6 : zSg) (τ7 : zSg) (τ9 : zSg) (r9 : Int32) (g1 : p_166 a0 a1 σ (.inl 0) τ1) (g2 : p_167 a0 a2 τ1 (.inl 0) τ2) (h3 : 0 ≤ a1.toInt ∧ a1.toInt < (τ2.2.1 (q_r (τ2.1 (q_r (τ2.1 a0 2)) 0)) : Int)) (h4 : (q_i (τ2.1 (q_r (τ2.1 (q_r (τ2.1 a0 2)) 0)) a1.toNatClampNeg)).toInt ≠ (-1 : Int)) (g5 : p_172 a0 (Int32.ofInt (0)) τ2 (.inl 0) τ5) (g6 : p_62 (q_r (τ5.1 a0 5)) (q_r (τ5.1 a0 2)) τ5 τ6) (g7 : p_17 (q_r (τ6.1 (q_r (τ6.1 a0 2)) 1)) a2 (q_i (τ6.1 (q_r (τ6.1 a0 2)) 15)) τ6 τ7) (h8 : 0 ≤ a1.toInt ∧ a1.toInt < (τ7.2.1 (q_r (τ7.1 (q_r (τ7.1 a0 2)) 0)) : Int)) (g9 : p_16 (q_r ((q_w τ7 (q_r (τ7.1 (q_r (τ7.1 a0 2)) 0)) a1.toNatClampNeg (.int a2)).1 (q_r ((q_w τ7 (q_r (τ7.1 (q_r (τ7.1 a0 2)) 0)) a1.toNatClampNeg (.int a2)).1 a0 2)) 1)) a2 (q_w τ7 (q_r (τ7.1 (q_r (τ7.1 a0 2)) 0)) a1.toNatClampNeg (.int a2)) r9 τ9) :
    p_128 (a0) (a1) (a2) σ (.inl r9) τ9 := by
  rintro rfl A nf nt nx n Ms K
  have q0 := K.1.q
  obtain ⟨rfl, u, -⟩ := g1
  have u := u rfl
  have hc := K.2.2.2.1
  obtain ⟨rfl, g⟩ := g2
  have u' := (g rfl K.1 A nf K.2.1 hc.1 hc.2.1).1 rfl
  refine ⟨fun w => absurd ⟨u, u'⟩ w, fun x F e1 l1 e2 l2 => ?_⟩
  subst e1
  subst e2
  have l6 : F < 6 := by have := hc.2.1; omega
  have wx := K.2.1.p (hp_h l1)
  have d0 := K.2.1.k hk_0
  have d1 := K.2.1.k hk_1
  have w12 := K.2.1.p (hp_s (k := 12) (by omega) (by omega))
  have nh : (Int32.ofNat x).toNatClampNeg = x := o32n (by omega)
  simp only [q0.2.1, d0, nh, wx] at h4
  obtain ⟨rfl, z, -⟩ := g5
  exact absurd rfl (z rfl)
theorem sp_128_enntx4_ (a0 : Nat) (a1 : Int32) (a2 : Int32) (σ : zSg) (τ1 : zSg) (τ2 : zSg) (τ5 : zSg) (g1 : p_166 a0 a1 σ (.inl 0) τ1) (g2 : p_167 a0 a2 τ1 (.inl 0) τ2) (h3 : 0 ≤ a1.toInt ∧ a1.toInt < (τ2.2.1 (q_r (τ2.1 (q_r (τ2.1 a0 2)) 0)) : Int)) (h4 : (q_i (τ2.1 (q_r (τ2.1 (q_r (τ2.1 a0 2)) 0)) a1.toNatClampNeg)).toInt ≠ (-1 : Int)) (g5 : p_172 a0 (Int32.ofInt (0)) τ2 (.inr 4) τ5) :
    p_128 (a0) (a1) (a2) σ (.inr 4) τ5 := by
  rintro rfl A nf nt nx n Ms K
  have q0 := K.1.q
  obtain ⟨rfl, u, -⟩ := g1
  have u := u rfl
  have hc := K.2.2.2.1
  obtain ⟨rfl, g⟩ := g2
  have u' := (g rfl K.1 A nf K.2.1 hc.1 hc.2.1).1 rfl
  refine ⟨fun w => absurd ⟨u, u'⟩ w, fun x F e1 l1 e2 l2 => ?_⟩
  subst e1
  subst e2
  have l6 : F < 6 := by have := hc.2.1; omega
  have wx := K.2.1.p (hp_h l1)
  have d0 := K.2.1.k hk_0
  have d1 := K.2.1.k hk_1
  have w12 := K.2.1.p (hp_s (k := 12) (by omega) (by omega))
  have nh : (Int32.ofNat x).toNatClampNeg = x := o32n (by omega)
  simp only [q0.2.1, d0, nh, wx] at h4
  obtain ⟨rfl, -, z⟩ := g5
  exact ⟨fun _ => ⟨rfl, rfl⟩, fun q => absurd (by rw [q.1]; rfl) h4⟩
theorem sp_128_ennftn (a0 : Nat) (a1 : Int32) (a2 : Int32) (σ : zSg) (τ1 : zSg) (τ2 : zSg) (τ10 : zSg) (r10 : Int32) (τ12 : zSg) (τ13 : zSg) (τ14 : zSg) (τ16 : zSg) (r16 : Int32) (g1 : p_166 a0 a1 σ (.inl 0) τ1) (g2 : p_167 a0 a2 τ1 (.inl 0) τ2) (h3 : 0 ≤ a1.toInt ∧ a1.toInt < (τ2.2.1 (q_r (τ2.1 (q_r (τ2.1 a0 2)) 0)) : Int)) (h4 : (q_i (τ2.1 (q_r (τ2.1 (q_r (τ2.1 a0 2)) 0)) a1.toNatClampNeg)).toInt = (-1 : Int)) (g10 : p_16 (q_r (τ2.1 (q_r (τ2.1 a0 2)) 1)) a2 τ2 r10 τ10) (h11 : r10.toInt < (q_i (τ10.1 (q_r (τ10.1 a0 2)) 15)).toInt) (g12 : p_172 a0 (Int32.ofInt (0)) τ10 (.inl 0) τ12) (g13 : p_62 (q_r (τ12.1 a0 5)) (q_r (τ12.1 a0 2)) τ12 τ13) (g14 : p_17 (q_r (τ13.1 (q_r (τ13.1 a0 2)) 1)) a2 (q_i (τ13.1 (q_r (τ13.1 a0 2)) 15)) τ13 τ14) (h15 : 0 ≤ a1.toInt ∧ a1.toInt < (τ14.2.1 (q_r (τ14.1 (q_r (τ14.1 a0 2)) 0)) : Int)) (g16 : p_16 (q_r ((q_w τ14 (q_r (τ14.1 (q_r (τ14.1 a0 2)) 0)) a1.toNatClampNeg (.int a2)).1 (q_r ((q_w τ14 (q_r (τ14.1 (q_r (τ14.1 a0 2)) 0)) a1.toNatClampNeg (.int a2)).1 a0 2)) 1)) a2 (q_w τ14 (q_r (τ14.1 (q_r (τ14.1 a0 2)) 0)) a1.toNatClampNeg (.int a2)) r16 τ16) :
    p_128 (a0) (a1) (a2) σ (.inl r16) τ16 := by
  rintro rfl A nf nt nx n Ms K
  have q0 := K.1.q
  obtain ⟨rfl, u, -⟩ := g1
  have u := u rfl
  have hc := K.2.2.2.1
  obtain ⟨rfl, g⟩ := g2
  have u' := (g rfl K.1 A nf K.2.1 hc.1 hc.2.1).1 rfl
  refine ⟨fun w => absurd ⟨u, u'⟩ w, fun x F e1 l1 e2 l2 => ?_⟩
  subst e1
  subst e2
  have l6 : F < 6 := by have := hc.2.1; omega
  have wx := K.2.1.p (hp_h l1)
  have d0 := K.2.1.k hk_0
  have d1 := K.2.1.k hk_1
  have w12 := K.2.1.p (hp_s (k := 12) (by omega) (by omega))
  have nh : (Int32.ofNat x).toNatClampNeg = x := o32n (by omega)
  simp only [q0.2.1, d0, nh, wx] at h4
  simp only [q0.2.1, d1] at g10
  obtain ⟨rfl, g3⟩ := g10
  have x3 := g3 8 A nf rfl K.2.1 hc.1 hc.2.1 F rfl l2
  simp only [q0.2.1, x3, w12] at h11
  obtain ⟨rfl, z, -⟩ := g12
  exact absurd rfl (z rfl)
theorem sp_128_ennftx4_ (a0 : Nat) (a1 : Int32) (a2 : Int32) (σ : zSg) (τ1 : zSg) (τ2 : zSg) (τ10 : zSg) (r10 : Int32) (τ12 : zSg) (g1 : p_166 a0 a1 σ (.inl 0) τ1) (g2 : p_167 a0 a2 τ1 (.inl 0) τ2) (h3 : 0 ≤ a1.toInt ∧ a1.toInt < (τ2.2.1 (q_r (τ2.1 (q_r (τ2.1 a0 2)) 0)) : Int)) (h4 : (q_i (τ2.1 (q_r (τ2.1 (q_r (τ2.1 a0 2)) 0)) a1.toNatClampNeg)).toInt = (-1 : Int)) (g10 : p_16 (q_r (τ2.1 (q_r (τ2.1 a0 2)) 1)) a2 τ2 r10 τ10) (h11 : r10.toInt < (q_i (τ10.1 (q_r (τ10.1 a0 2)) 15)).toInt) (g12 : p_172 a0 (Int32.ofInt (0)) τ10 (.inr 4) τ12) :
    p_128 (a0) (a1) (a2) σ (.inr 4) τ12 := by
  rintro rfl A nf nt nx n Ms K
  have q0 := K.1.q
  obtain ⟨rfl, u, -⟩ := g1
  have u := u rfl
  have hc := K.2.2.2.1
  obtain ⟨rfl, g⟩ := g2
  have u' := (g rfl K.1 A nf K.2.1 hc.1 hc.2.1).1 rfl
  refine ⟨fun w => absurd ⟨u, u'⟩ w, fun x F e1 l1 e2 l2 => ?_⟩
  subst e1
  subst e2
  have l6 : F < 6 := by have := hc.2.1; omega
  have wx := K.2.1.p (hp_h l1)
  have d0 := K.2.1.k hk_0
  have d1 := K.2.1.k hk_1
  have w12 := K.2.1.p (hp_s (k := 12) (by omega) (by omega))
  have nh : (Int32.ofNat x).toNatClampNeg = x := o32n (by omega)
  simp only [q0.2.1, d0, nh, wx] at h4
  simp only [q0.2.1, d1] at g10
  obtain ⟨rfl, g3⟩ := g10
  have x3 := g3 8 A nf rfl K.2.1 hc.1 hc.2.1 F rfl l2
  simp only [q0.2.1, x3, w12] at h11
  obtain ⟨rfl, -, z⟩ := g12
  exact ⟨fun _ => ⟨rfl, rfl⟩, fun q => absurd q.2 (by omega)⟩
theorem sp_128_ennffn (a0 : Nat) (a1 : Int32) (a2 : Int32) (σ : zSg) (τ1 : zSg) (τ2 : zSg) (τ10 : zSg) (r10 : Int32) (τ17 : zSg) (τ18 : zSg) (τ19 : zSg) (τ21 : zSg) (r21 : Int32) (g1 : p_166 a0 a1 σ (.inl 0) τ1) (g2 : p_167 a0 a2 τ1 (.inl 0) τ2) (h3 : 0 ≤ a1.toInt ∧ a1.toInt < (τ2.2.1 (q_r (τ2.1 (q_r (τ2.1 a0 2)) 0)) : Int)) (h4 : (q_i (τ2.1 (q_r (τ2.1 (q_r (τ2.1 a0 2)) 0)) a1.toNatClampNeg)).toInt = (-1 : Int)) (g10 : p_16 (q_r (τ2.1 (q_r (τ2.1 a0 2)) 1)) a2 τ2 r10 τ10) (h11 : r10.toInt ≥ (q_i (τ10.1 (q_r (τ10.1 a0 2)) 15)).toInt) (g17 : p_172 a0 (Int32.ofInt (1)) τ10 (.inl 0) τ17) (g18 : p_62 (q_r (τ17.1 a0 5)) (q_r (τ17.1 a0 2)) τ17 τ18) (g19 : p_17 (q_r (τ18.1 (q_r (τ18.1 a0 2)) 1)) a2 (q_i (τ18.1 (q_r (τ18.1 a0 2)) 15)) τ18 τ19) (h20 : 0 ≤ a1.toInt ∧ a1.toInt < (τ19.2.1 (q_r (τ19.1 (q_r (τ19.1 a0 2)) 0)) : Int)) (g21 : p_16 (q_r ((q_w τ19 (q_r (τ19.1 (q_r (τ19.1 a0 2)) 0)) a1.toNatClampNeg (.int a2)).1 (q_r ((q_w τ19 (q_r (τ19.1 (q_r (τ19.1 a0 2)) 0)) a1.toNatClampNeg (.int a2)).1 a0 2)) 1)) a2 (q_w τ19 (q_r (τ19.1 (q_r (τ19.1 a0 2)) 0)) a1.toNatClampNeg (.int a2)) r21 τ21) :
    p_128 (a0) (a1) (a2) σ (.inl r21) τ21 := by
  rintro rfl A nf nt nx n Ms K
  have q0 := K.1.q
  obtain ⟨rfl, u, -⟩ := g1
  have u := u rfl
  have hc := K.2.2.2.1
  obtain ⟨rfl, g⟩ := g2
  have u' := (g rfl K.1 A nf K.2.1 hc.1 hc.2.1).1 rfl
  refine ⟨fun w => absurd ⟨u, u'⟩ w, fun x F e1 l1 e2 l2 => ?_⟩
  subst e1
  subst e2
  have l6 : F < 6 := by have := hc.2.1; omega
  have wx := K.2.1.p (hp_h l1)
  have d0 := K.2.1.k hk_0
  have d1 := K.2.1.k hk_1
  have w12 := K.2.1.p (hp_s (k := 12) (by omega) (by omega))
  have nh : (Int32.ofNat x).toNatClampNeg = x := o32n (by omega)
  simp only [q0.2.1, d0, nh, wx] at h4
  simp only [q0.2.1, d1] at g10
  obtain ⟨rfl, g3⟩ := g10
  have x3 := g3 8 A nf rfl K.2.1 hc.1 hc.2.1 F rfl l2
  simp only [q0.2.1, x3, w12] at h11
  obtain ⟨rfl, z, -⟩ := g17
  refine ⟨fun q => absurd ⟨Int32.toInt_inj.mp h4, by omega⟩ q, fun _ => ?_⟩
  rw [q0.2.1, q0.2.2.2.2] at g18
  have R := K.kp g18
  have qs := (R.sk K.1).q
  have v1 := R.2.1.k hk_1
  have v12 := R.2.1.p (hp_s (k := 12) (by omega) (by omega))
  simp only [qs.2.1, v1, v12] at g19
  obtain ⟨t1, t2⟩ := g19 8 A nf rfl R.2.1 hc.1 hc.2.1 F rfl l2
  have T1 := R.hs t1 t2
  have qt := (T1.sk K.1).q
  have d2 := T1.2.1.k hk_0
  have T2 := T1.hs (hHF.w (hp_h (b := 8) l1)) (T1.2.1.ww (v := Int32.ofNat F) (hp_h l1))
  have qu := (T2.sk K.1).q
  have d3 := T2.2.1.k hk_1
  simp only [qt.2.1, d2, nh, qu.2.1, d3] at g21
  obtain ⟨rfl, g7⟩ := g21
  have x7 := g7 8 _ nf rfl T2.2.1 (by rw [aU_ne (by omega), aU_ne (by omega)]; exact hc.1) hc.2.1 F rfl l2
  rw [x7, aU_ne (by omega), aU_at]
  exact ⟨rfl, T2⟩
theorem sp_128_ennffx4_ (a0 : Nat) (a1 : Int32) (a2 : Int32) (σ : zSg) (τ1 : zSg) (τ2 : zSg) (τ10 : zSg) (r10 : Int32) (τ17 : zSg) (g1 : p_166 a0 a1 σ (.inl 0) τ1) (g2 : p_167 a0 a2 τ1 (.inl 0) τ2) (h3 : 0 ≤ a1.toInt ∧ a1.toInt < (τ2.2.1 (q_r (τ2.1 (q_r (τ2.1 a0 2)) 0)) : Int)) (h4 : (q_i (τ2.1 (q_r (τ2.1 (q_r (τ2.1 a0 2)) 0)) a1.toNatClampNeg)).toInt = (-1 : Int)) (g10 : p_16 (q_r (τ2.1 (q_r (τ2.1 a0 2)) 1)) a2 τ2 r10 τ10) (h11 : r10.toInt ≥ (q_i (τ10.1 (q_r (τ10.1 a0 2)) 15)).toInt) (g17 : p_172 a0 (Int32.ofInt (1)) τ10 (.inr 4) τ17) :
    p_128 (a0) (a1) (a2) σ (.inr 4) τ17 := by
  rintro rfl A nf nt nx n Ms K
  have q0 := K.1.q
  obtain ⟨rfl, u, -⟩ := g1
  have u := u rfl
  have hc := K.2.2.2.1
  obtain ⟨rfl, g⟩ := g2
  have u' := (g rfl K.1 A nf K.2.1 hc.1 hc.2.1).1 rfl
  refine ⟨fun w => absurd ⟨u, u'⟩ w, fun x F e1 l1 e2 l2 => ?_⟩
  subst e1
  subst e2
  have l6 : F < 6 := by have := hc.2.1; omega
  have wx := K.2.1.p (hp_h l1)
  have d0 := K.2.1.k hk_0
  have d1 := K.2.1.k hk_1
  have w12 := K.2.1.p (hp_s (k := 12) (by omega) (by omega))
  have nh : (Int32.ofNat x).toNatClampNeg = x := o32n (by omega)
  simp only [q0.2.1, d0, nh, wx] at h4
  simp only [q0.2.1, d1] at g10
  obtain ⟨rfl, g3⟩ := g10
  have x3 := g3 8 A nf rfl K.2.1 hc.1 hc.2.1 F rfl l2
  simp only [q0.2.1, x3, w12] at h11
  obtain ⟨rfl, -, z⟩ := g17
  exact absurd (z rfl) (by decide)
theorem sp_128_enx2_ (a0 : Nat) (a1 : Int32) (a2 : Int32) (σ : zSg) (τ1 : zSg) (τ2 : zSg) (g1 : p_166 a0 a1 σ (.inl 0) τ1) (g2 : p_167 a0 a2 τ1 (.inr 2) τ2) :
    p_128 (a0) (a1) (a2) σ (.inr 2) τ2 := by
  rintro rfl A nf nt nx n Ms K
  have q0 := K.1.q
  obtain ⟨rfl, -, -⟩ := g1
  obtain ⟨rfl, g⟩ := g2
  have hc := K.2.2.2.1
  have hs := hc.2.1
  have u := (g rfl K.1 A nf K.2.1 hc.1 hc.2.1).2 rfl
  exact ⟨fun _ => ⟨rfl, rfl⟩, fun x F e1 l1 e2 l2 => absurd (by rw [e2, o32 (by omega)]; omega) u⟩
theorem sp_128_ex2_ (a0 : Nat) (a1 : Int32) (a2 : Int32) (σ : zSg) (τ1 : zSg) (g1 : p_166 a0 a1 σ (.inr 2) τ1) :
    p_128 (a0) (a1) (a2) σ (.inr 2) τ1 := by
  rintro rfl A nf nt nx n Ms K
  have q0 := K.1.q
  obtain ⟨rfl, -, u⟩ := g1
  have u := u rfl
  exact ⟨fun _ => ⟨rfl, rfl⟩, fun x F e1 l1 e2 l2 => absurd (by rw [e1, o32 (by omega)]; omega) u⟩
noncomputable def qP_128 : zPp := fun as σ o σ' => match as with
  | [a0, a1, a2] => (∃ r, o = .inl (some (.int r)) ∧ p_128 (q_r a0) (q_i a1) (q_i a2) σ (.inl r) σ') ∨ (o = .inr 2 ∧ p_128 (q_r a0) (q_i a1) (q_i a2) σ (.inr 2) σ') ∨ (o = .inr 4 ∧ p_128 (q_r a0) (q_i a1) (q_i a2) σ (.inr 4) σ')
  | _ => True
set_option maxRecDepth 100000 in
theorem sp_128 {sx : zX} (S166 : zEe sx 166 2 qP_166) (S167 : zEe sx 167 2 qP_167) (S172 : zEe sx 172 2 qP_172) (S62 : zEe sx 62 2 qP_62) (S17 : zEe sx 17 3 qP_17) (S16 : zEe sx 16 2 qP_16) : zEe sx 128 3 qP_128 := by
  refine zfle zJ_128 (sps := [(166, 2, qP_166), (167, 2, qP_167), (172, 2, qP_172), (62, 2, qP_62), (17, 3, qP_17), (16, 2, qP_16)]) (fun q hq => by
    simp only [List.mem_cons, List.not_mem_nil, or_false] at hq
    rcases hq with rfl | rfl | rfl | rfl | rfl | rfl
    · exact S166
    · exact S167
    · exact S172
    · exact S62
    · exact S17
    · exact S16) (fun as σ hl => ?_)
  match as, hl with
  | [a0, a1, a2], _ =>
  refine ⟨[], 400, ?_, ?_⟩
  · exact fun q hq => absurd hq List.not_mem_nil
  · refine fun o1 τ1 g1 => ?_
    rcases g1 with ⟨rfl, g1⟩ | ⟨rfl, g1⟩
    · refine fun o2 τ2 g2 => ?_
      rcases g2 with ⟨rfl, g2⟩ | ⟨rfl, g2⟩
      · refine fun h3 => ?_
        refine And.intro (fun h4 => ?_) (fun h4 => ?_)
        · refine fun o5 τ5 g5 => ?_
          rcases g5 with ⟨rfl, g5⟩ | ⟨rfl, g5⟩
          · refine fun o6 τ6 g6 => ?_
            obtain ⟨rfl, g6⟩ := g6
            refine fun o7 τ7 g7 => ?_
            obtain ⟨rfl, g7⟩ := g7
            refine fun h8 => ?_
            refine fun o9 τ9 g9 => ?_
            obtain ⟨r9, rfl, g9⟩ := g9
            exact Or.inl ⟨_, rfl, sp_128_enntn (q_r a0) (q_i a1) (q_i a2) σ τ1 τ2 τ5 τ6 τ7 τ9 r9 g1 g2 (q_inp h3) (cm1t h4) g5 g6 g7 (q_inp h8) g9⟩
          · exact Or.inr (Or.inr (⟨rfl, sp_128_enntx4_ (q_r a0) (q_i a1) (q_i a2) σ τ1 τ2 τ5 g1 g2 (q_inp h3) (cm1t h4) g5⟩))
        · refine fun o10 τ10 g10 => ?_
          obtain ⟨r10, rfl, g10⟩ := g10
          refine And.intro (fun h11 => ?_) (fun h11 => ?_)
          · refine fun o12 τ12 g12 => ?_
            rcases g12 with ⟨rfl, g12⟩ | ⟨rfl, g12⟩
            · refine fun o13 τ13 g13 => ?_
              obtain ⟨rfl, g13⟩ := g13
              refine fun o14 τ14 g14 => ?_
              obtain ⟨rfl, g14⟩ := g14
              refine fun h15 => ?_
              refine fun o16 τ16 g16 => ?_
              obtain ⟨r16, rfl, g16⟩ := g16
              exact Or.inl ⟨_, rfl, sp_128_ennftn (q_r a0) (q_i a1) (q_i a2) σ τ1 τ2 τ10 r10 τ12 τ13 τ14 τ16 r16 g1 g2 (q_inp h3) (cm1f h4) g10 (cm2t h11) g12 g13 g14 (q_inp h15) g16⟩
            · exact Or.inr (Or.inr (⟨rfl, sp_128_ennftx4_ (q_r a0) (q_i a1) (q_i a2) σ τ1 τ2 τ10 r10 τ12 g1 g2 (q_inp h3) (cm1f h4) g10 (cm2t h11) g12⟩))
          · refine fun o17 τ17 g17 => ?_
            rcases g17 with ⟨rfl, g17⟩ | ⟨rfl, g17⟩
            · refine fun o18 τ18 g18 => ?_
              obtain ⟨rfl, g18⟩ := g18
              refine fun o19 τ19 g19 => ?_
              obtain ⟨rfl, g19⟩ := g19
              refine fun h20 => ?_
              refine fun o21 τ21 g21 => ?_
              obtain ⟨r21, rfl, g21⟩ := g21
              exact Or.inl ⟨_, rfl, sp_128_ennffn (q_r a0) (q_i a1) (q_i a2) σ τ1 τ2 τ10 r10 τ17 τ18 τ19 τ21 r21 g1 g2 (q_inp h3) (cm1f h4) g10 (cm2f h11) g17 g18 g19 (q_inp h20) g21⟩
            · exact Or.inr (Or.inr (⟨rfl, sp_128_ennffx4_ (q_r a0) (q_i a1) (q_i a2) σ τ1 τ2 τ10 r10 τ17 g1 g2 (q_inp h3) (cm1f h4) g10 (cm2f h11) g17⟩))
      · exact Or.inr (Or.inl (⟨rfl, sp_128_enx2_ (q_r a0) (q_i a1) (q_i a2) σ τ1 τ2 g1 g2⟩))
    · exact Or.inr (Or.inl (⟨rfl, sp_128_ex2_ (q_r a0) (q_i a1) (q_i a2) σ τ1 g1⟩))
theorem zJ_127 : zJ3 127 z_m127 z_c127 z_h127 := ⟨rfl, rfl, rfl⟩
noncomputable def p_127 (a : Nat) (h f : Int32) (σ : zSg) (e : Int32 ⊕ Nat) (σ' : zSg) : Prop := a = 0 → ∀ A nf nt nx n Ms, xA σ A nf nt nx n Ms → (¬ ((0 ≤ h.toInt ∧ h.toInt < 24) ∧ (0 ≤ f.toInt ∧ f.toInt < (nf : Int))) → e = .inr 2 ∧ σ' = σ) ∧ (∀ x F, h = Int32.ofNat x → x < 24 → f = Int32.ofNat F → F < nf → (A (16 + x) = Int32.ofNat F → e = .inr 0 ∧ σ' = σ) ∧ (A (16 + x) ≠ Int32.ofNat F → (¬ (A (16 + x) ≠ Int32.ofInt (-1) ∧ (A 12).toInt ≤ (A (40 + 4 * F)).toInt) → e = .inr 4 ∧ σ' = σ) ∧ ((A (16 + x) ≠ Int32.ofInt (-1) ∧ (A 12).toInt ≤ (A (40 + 4 * F)).toInt) → ∀ G, A (16 + x) = Int32.ofNat G → G < nf → e = .inl (aEn (A (40 + 4 * G)) (A 12)) ∧ xR σ σ' A (aU (aU (aU A (40 + 4 * F) (aPy (A (40 + 4 * F)) (A 12))) (40 + 4 * G) (aEn (A (40 + 4 * G)) (A 12))) (16 + x) (Int32.ofNat F)) nx n Ms)))
theorem sp_127_ennntn (a0 : Nat) (a1 : Int32) (a2 : Int32) (σ : zSg) (τ1 : zSg) (τ2 : zSg) (τ4 : zSg) (τ6 : zSg) (τ7 : zSg) (τ8 : zSg) (τ9 : zSg) (τ11 : zSg) (r11 : Int32) (g1 : p_166 a0 a1 σ (.inl 0) τ1) (g2 : p_167 a0 a2 τ1 (.inl 0) τ2) (h3 : 0 ≤ a1.toInt ∧ a1.toInt < (τ2.2.1 (q_r (τ2.1 (q_r (τ2.1 a0 2)) 0)) : Int)) (g4 : p_171 a0 (q_i (τ2.1 (q_r (τ2.1 (q_r (τ2.1 a0 2)) 0)) a1.toNatClampNeg)) a2 τ2 (.inl 0) τ4) (h5 : (q_i (τ2.1 (q_r (τ2.1 (q_r (τ2.1 a0 2)) 0)) a1.toNatClampNeg)).toInt = (-1 : Int)) (g6 : p_172 a0 (Int32.ofInt (0)) τ4 (.inl 0) τ6) (g7 : p_62 (q_r (τ6.1 a0 5)) (q_r (τ6.1 a0 2)) τ6 τ7) (g8 : p_17 (q_r (τ7.1 (q_r (τ7.1 a0 2)) 1)) a2 (q_i (τ7.1 (q_r (τ7.1 a0 2)) 15)) τ7 τ8) (g9 : p_18 (q_r (τ8.1 (q_r (τ8.1 a0 2)) 1)) (q_i (τ2.1 (q_r (τ2.1 (q_r (τ2.1 a0 2)) 0)) a1.toNatClampNeg)) (q_i (τ8.1 (q_r (τ8.1 a0 2)) 15)) τ8 τ9) (h10 : 0 ≤ a1.toInt ∧ a1.toInt < (τ9.2.1 (q_r (τ9.1 (q_r (τ9.1 a0 2)) 0)) : Int)) (g11 : p_16 (q_r ((q_w τ9 (q_r (τ9.1 (q_r (τ9.1 a0 2)) 0)) a1.toNatClampNeg (.int a2)).1 (q_r ((q_w τ9 (q_r (τ9.1 (q_r (τ9.1 a0 2)) 0)) a1.toNatClampNeg (.int a2)).1 a0 2)) 1)) (q_i (τ2.1 (q_r (τ2.1 (q_r (τ2.1 a0 2)) 0)) a1.toNatClampNeg)) (q_w τ9 (q_r (τ9.1 (q_r (τ9.1 a0 2)) 0)) a1.toNatClampNeg (.int a2)) r11 τ11) :
    p_127 (a0) (a1) (a2) σ (.inl r11) τ11 := by
  rintro rfl A nf nt nx n Ms K
  have q0 := K.1.q
  obtain ⟨rfl, u, -⟩ := g1
  have u := u rfl
  have hc := K.2.2.2.1
  obtain ⟨rfl, g⟩ := g2
  have u' := (g rfl K.1 A nf K.2.1 hc.1 hc.2.1).1 rfl
  obtain ⟨rfl, v, -⟩ := g4
  have v := v rfl
  refine ⟨fun w => absurd ⟨u, u'⟩ w, fun x F e1 l1 e2 l2 => ?_⟩
  subst e1
  subst e2
  have l6 : F < 6 := by have := hc.2.1; omega
  have wx := K.2.1.p (hp_h l1)
  have d0 := K.2.1.k hk_0
  have d1 := K.2.1.k hk_1
  have w12 := K.2.1.p (hp_s (k := 12) (by omega) (by omega))
  have nh : (Int32.ofNat x).toNatClampNeg = x := o32n (by omega)
  simp only [q0.2.1, d0, nh, wx] at v
  refine ⟨fun w => absurd (by rw [w]) v, fun vn => ?_⟩
  simp only [q0.2.1, d0, nh, wx] at h5
  obtain ⟨rfl, z, -⟩ := g6
  exact absurd rfl (z rfl)
theorem sp_127_ennntx4_ (a0 : Nat) (a1 : Int32) (a2 : Int32) (σ : zSg) (τ1 : zSg) (τ2 : zSg) (τ4 : zSg) (τ6 : zSg) (g1 : p_166 a0 a1 σ (.inl 0) τ1) (g2 : p_167 a0 a2 τ1 (.inl 0) τ2) (h3 : 0 ≤ a1.toInt ∧ a1.toInt < (τ2.2.1 (q_r (τ2.1 (q_r (τ2.1 a0 2)) 0)) : Int)) (g4 : p_171 a0 (q_i (τ2.1 (q_r (τ2.1 (q_r (τ2.1 a0 2)) 0)) a1.toNatClampNeg)) a2 τ2 (.inl 0) τ4) (h5 : (q_i (τ2.1 (q_r (τ2.1 (q_r (τ2.1 a0 2)) 0)) a1.toNatClampNeg)).toInt = (-1 : Int)) (g6 : p_172 a0 (Int32.ofInt (0)) τ4 (.inr 4) τ6) :
    p_127 (a0) (a1) (a2) σ (.inr 4) τ6 := by
  rintro rfl A nf nt nx n Ms K
  have q0 := K.1.q
  obtain ⟨rfl, u, -⟩ := g1
  have u := u rfl
  have hc := K.2.2.2.1
  obtain ⟨rfl, g⟩ := g2
  have u' := (g rfl K.1 A nf K.2.1 hc.1 hc.2.1).1 rfl
  obtain ⟨rfl, v, -⟩ := g4
  have v := v rfl
  refine ⟨fun w => absurd ⟨u, u'⟩ w, fun x F e1 l1 e2 l2 => ?_⟩
  subst e1
  subst e2
  have l6 : F < 6 := by have := hc.2.1; omega
  have wx := K.2.1.p (hp_h l1)
  have d0 := K.2.1.k hk_0
  have d1 := K.2.1.k hk_1
  have w12 := K.2.1.p (hp_s (k := 12) (by omega) (by omega))
  have nh : (Int32.ofNat x).toNatClampNeg = x := o32n (by omega)
  simp only [q0.2.1, d0, nh, wx] at v
  refine ⟨fun w => absurd (by rw [w]) v, fun vn => ?_⟩
  simp only [q0.2.1, d0, nh, wx] at h5
  obtain ⟨rfl, -, z⟩ := g6
  exact ⟨fun _ => ⟨rfl, rfl⟩, fun q => absurd (Int32.toInt_inj.mp h5) q.1⟩
theorem sp_127_ennnftn (a0 : Nat) (a1 : Int32) (a2 : Int32) (σ : zSg) (τ1 : zSg) (τ2 : zSg) (τ4 : zSg) (τ12 : zSg) (r12 : Int32) (τ14 : zSg) (τ15 : zSg) (τ16 : zSg) (τ17 : zSg) (τ19 : zSg) (r19 : Int32) (g1 : p_166 a0 a1 σ (.inl 0) τ1) (g2 : p_167 a0 a2 τ1 (.inl 0) τ2) (h3 : 0 ≤ a1.toInt ∧ a1.toInt < (τ2.2.1 (q_r (τ2.1 (q_r (τ2.1 a0 2)) 0)) : Int)) (g4 : p_171 a0 (q_i (τ2.1 (q_r (τ2.1 (q_r (τ2.1 a0 2)) 0)) a1.toNatClampNeg)) a2 τ2 (.inl 0) τ4) (h5 : (q_i (τ2.1 (q_r (τ2.1 (q_r (τ2.1 a0 2)) 0)) a1.toNatClampNeg)).toInt ≠ (-1 : Int)) (g12 : p_16 (q_r (τ4.1 (q_r (τ4.1 a0 2)) 1)) a2 τ4 r12 τ12) (h13 : r12.toInt < (q_i (τ12.1 (q_r (τ12.1 a0 2)) 15)).toInt) (g14 : p_172 a0 (Int32.ofInt (0)) τ12 (.inl 0) τ14) (g15 : p_62 (q_r (τ14.1 a0 5)) (q_r (τ14.1 a0 2)) τ14 τ15) (g16 : p_17 (q_r (τ15.1 (q_r (τ15.1 a0 2)) 1)) a2 (q_i (τ15.1 (q_r (τ15.1 a0 2)) 15)) τ15 τ16) (g17 : p_18 (q_r (τ16.1 (q_r (τ16.1 a0 2)) 1)) (q_i (τ2.1 (q_r (τ2.1 (q_r (τ2.1 a0 2)) 0)) a1.toNatClampNeg)) (q_i (τ16.1 (q_r (τ16.1 a0 2)) 15)) τ16 τ17) (h18 : 0 ≤ a1.toInt ∧ a1.toInt < (τ17.2.1 (q_r (τ17.1 (q_r (τ17.1 a0 2)) 0)) : Int)) (g19 : p_16 (q_r ((q_w τ17 (q_r (τ17.1 (q_r (τ17.1 a0 2)) 0)) a1.toNatClampNeg (.int a2)).1 (q_r ((q_w τ17 (q_r (τ17.1 (q_r (τ17.1 a0 2)) 0)) a1.toNatClampNeg (.int a2)).1 a0 2)) 1)) (q_i (τ2.1 (q_r (τ2.1 (q_r (τ2.1 a0 2)) 0)) a1.toNatClampNeg)) (q_w τ17 (q_r (τ17.1 (q_r (τ17.1 a0 2)) 0)) a1.toNatClampNeg (.int a2)) r19 τ19) :
    p_127 (a0) (a1) (a2) σ (.inl r19) τ19 := by
  rintro rfl A nf nt nx n Ms K
  have q0 := K.1.q
  obtain ⟨rfl, u, -⟩ := g1
  have u := u rfl
  have hc := K.2.2.2.1
  obtain ⟨rfl, g⟩ := g2
  have u' := (g rfl K.1 A nf K.2.1 hc.1 hc.2.1).1 rfl
  obtain ⟨rfl, v, -⟩ := g4
  have v := v rfl
  refine ⟨fun w => absurd ⟨u, u'⟩ w, fun x F e1 l1 e2 l2 => ?_⟩
  subst e1
  subst e2
  have l6 : F < 6 := by have := hc.2.1; omega
  have wx := K.2.1.p (hp_h l1)
  have d0 := K.2.1.k hk_0
  have d1 := K.2.1.k hk_1
  have w12 := K.2.1.p (hp_s (k := 12) (by omega) (by omega))
  have nh : (Int32.ofNat x).toNatClampNeg = x := o32n (by omega)
  simp only [q0.2.1, d0, nh, wx] at v
  refine ⟨fun w => absurd (by rw [w]) v, fun vn => ?_⟩
  simp only [q0.2.1, d0, nh, wx] at h5
  simp only [q0.2.1, d1] at g12
  obtain ⟨rfl, g3⟩ := g12
  have x3 := g3 8 A nf rfl K.2.1 hc.1 hc.2.1 F rfl l2
  simp only [q0.2.1, x3, w12] at h13
  obtain ⟨rfl, z, -⟩ := g14
  exact absurd rfl (z rfl)
theorem sp_127_ennnftx4_ (a0 : Nat) (a1 : Int32) (a2 : Int32) (σ : zSg) (τ1 : zSg) (τ2 : zSg) (τ4 : zSg) (τ12 : zSg) (r12 : Int32) (τ14 : zSg) (g1 : p_166 a0 a1 σ (.inl 0) τ1) (g2 : p_167 a0 a2 τ1 (.inl 0) τ2) (h3 : 0 ≤ a1.toInt ∧ a1.toInt < (τ2.2.1 (q_r (τ2.1 (q_r (τ2.1 a0 2)) 0)) : Int)) (g4 : p_171 a0 (q_i (τ2.1 (q_r (τ2.1 (q_r (τ2.1 a0 2)) 0)) a1.toNatClampNeg)) a2 τ2 (.inl 0) τ4) (h5 : (q_i (τ2.1 (q_r (τ2.1 (q_r (τ2.1 a0 2)) 0)) a1.toNatClampNeg)).toInt ≠ (-1 : Int)) (g12 : p_16 (q_r (τ4.1 (q_r (τ4.1 a0 2)) 1)) a2 τ4 r12 τ12) (h13 : r12.toInt < (q_i (τ12.1 (q_r (τ12.1 a0 2)) 15)).toInt) (g14 : p_172 a0 (Int32.ofInt (0)) τ12 (.inr 4) τ14) :
    p_127 (a0) (a1) (a2) σ (.inr 4) τ14 := by
  rintro rfl A nf nt nx n Ms K
  have q0 := K.1.q
  obtain ⟨rfl, u, -⟩ := g1
  have u := u rfl
  have hc := K.2.2.2.1
  obtain ⟨rfl, g⟩ := g2
  have u' := (g rfl K.1 A nf K.2.1 hc.1 hc.2.1).1 rfl
  obtain ⟨rfl, v, -⟩ := g4
  have v := v rfl
  refine ⟨fun w => absurd ⟨u, u'⟩ w, fun x F e1 l1 e2 l2 => ?_⟩
  subst e1
  subst e2
  have l6 : F < 6 := by have := hc.2.1; omega
  have wx := K.2.1.p (hp_h l1)
  have d0 := K.2.1.k hk_0
  have d1 := K.2.1.k hk_1
  have w12 := K.2.1.p (hp_s (k := 12) (by omega) (by omega))
  have nh : (Int32.ofNat x).toNatClampNeg = x := o32n (by omega)
  simp only [q0.2.1, d0, nh, wx] at v
  refine ⟨fun w => absurd (by rw [w]) v, fun vn => ?_⟩
  simp only [q0.2.1, d0, nh, wx] at h5
  simp only [q0.2.1, d1] at g12
  obtain ⟨rfl, g3⟩ := g12
  have x3 := g3 8 A nf rfl K.2.1 hc.1 hc.2.1 F rfl l2
  simp only [q0.2.1, x3, w12] at h13
  obtain ⟨rfl, -, z⟩ := g14
  exact ⟨fun _ => ⟨rfl, rfl⟩, fun q => absurd q.2 (by omega)⟩
theorem sp_127_ennnffn (a0 : Nat) (a1 : Int32) (a2 : Int32) (σ : zSg) (τ1 : zSg) (τ2 : zSg) (τ4 : zSg) (τ12 : zSg) (r12 : Int32) (τ20 : zSg) (τ21 : zSg) (τ22 : zSg) (τ23 : zSg) (τ25 : zSg) (r25 : Int32) (g1 : p_166 a0 a1 σ (.inl 0) τ1) (g2 : p_167 a0 a2 τ1 (.inl 0) τ2) (h3 : 0 ≤ a1.toInt ∧ a1.toInt < (τ2.2.1 (q_r (τ2.1 (q_r (τ2.1 a0 2)) 0)) : Int)) (g4 : p_171 a0 (q_i (τ2.1 (q_r (τ2.1 (q_r (τ2.1 a0 2)) 0)) a1.toNatClampNeg)) a2 τ2 (.inl 0) τ4) (h5 : (q_i (τ2.1 (q_r (τ2.1 (q_r (τ2.1 a0 2)) 0)) a1.toNatClampNeg)).toInt ≠ (-1 : Int)) (g12 : p_16 (q_r (τ4.1 (q_r (τ4.1 a0 2)) 1)) a2 τ4 r12 τ12) (h13 : r12.toInt ≥ (q_i (τ12.1 (q_r (τ12.1 a0 2)) 15)).toInt) (g20 : p_172 a0 (Int32.ofInt (1)) τ12 (.inl 0) τ20) (g21 : p_62 (q_r (τ20.1 a0 5)) (q_r (τ20.1 a0 2)) τ20 τ21) (g22 : p_17 (q_r (τ21.1 (q_r (τ21.1 a0 2)) 1)) a2 (q_i (τ21.1 (q_r (τ21.1 a0 2)) 15)) τ21 τ22) (g23 : p_18 (q_r (τ22.1 (q_r (τ22.1 a0 2)) 1)) (q_i (τ2.1 (q_r (τ2.1 (q_r (τ2.1 a0 2)) 0)) a1.toNatClampNeg)) (q_i (τ22.1 (q_r (τ22.1 a0 2)) 15)) τ22 τ23) (h24 : 0 ≤ a1.toInt ∧ a1.toInt < (τ23.2.1 (q_r (τ23.1 (q_r (τ23.1 a0 2)) 0)) : Int)) (g25 : p_16 (q_r ((q_w τ23 (q_r (τ23.1 (q_r (τ23.1 a0 2)) 0)) a1.toNatClampNeg (.int a2)).1 (q_r ((q_w τ23 (q_r (τ23.1 (q_r (τ23.1 a0 2)) 0)) a1.toNatClampNeg (.int a2)).1 a0 2)) 1)) (q_i (τ2.1 (q_r (τ2.1 (q_r (τ2.1 a0 2)) 0)) a1.toNatClampNeg)) (q_w τ23 (q_r (τ23.1 (q_r (τ23.1 a0 2)) 0)) a1.toNatClampNeg (.int a2)) r25 τ25) :
    p_127 (a0) (a1) (a2) σ (.inl r25) τ25 := by
  rintro rfl A nf nt nx n Ms K
  have q0 := K.1.q
  obtain ⟨rfl, u, -⟩ := g1
  have u := u rfl
  have hc := K.2.2.2.1
  obtain ⟨rfl, g⟩ := g2
  have u' := (g rfl K.1 A nf K.2.1 hc.1 hc.2.1).1 rfl
  obtain ⟨rfl, v, -⟩ := g4
  have v := v rfl
  refine ⟨fun w => absurd ⟨u, u'⟩ w, fun x F e1 l1 e2 l2 => ?_⟩
  subst e1
  subst e2
  have l6 : F < 6 := by have := hc.2.1; omega
  have wx := K.2.1.p (hp_h l1)
  have d0 := K.2.1.k hk_0
  have d1 := K.2.1.k hk_1
  have w12 := K.2.1.p (hp_s (k := 12) (by omega) (by omega))
  have nh : (Int32.ofNat x).toNatClampNeg = x := o32n (by omega)
  simp only [q0.2.1, d0, nh, wx] at v
  refine ⟨fun w => absurd (by rw [w]) v, fun vn => ?_⟩
  simp only [q0.2.1, d0, nh, wx] at h5
  simp only [q0.2.1, d1] at g12
  obtain ⟨rfl, g3⟩ := g12
  have x3 := g3 8 A nf rfl K.2.1 hc.1 hc.2.1 F rfl l2
  simp only [q0.2.1, x3, w12] at h13
  obtain ⟨rfl, z, -⟩ := g20
  refine ⟨fun q => absurd ⟨fun w => h5 (by rw [w]; rfl), by omega⟩ q, fun _ G eG lG => ?_⟩
  have GF : G ≠ F := fun w => vn (by rw [eG, w])
  have l6' : G < 6 := by have := hc.2.1; omega
  rw [q0.2.1, q0.2.2.2.2] at g21
  have R := K.kp g21
  have qs := (R.sk K.1).q
  have v1 := R.2.1.k hk_1
  have v12 := R.2.1.p (hp_s (k := 12) (by omega) (by omega))
  simp only [qs.2.1, v1, v12] at g22
  obtain ⟨t1, t2⟩ := g22 8 A nf rfl R.2.1 hc.1 hc.2.1 F rfl l2
  have T1 := R.hs t1 t2
  have qt := (T1.sk K.1).q
  have y1 := T1.2.1.k hk_1
  have y12 := (T1.2.1.p (hp_s (k := 12) (by omega) (by omega))).trans (aU_ne (by omega))
  simp only [q0.2.1, d0, nh, wx, qt.2.1, y1, y12, eG] at g23
  obtain ⟨t3, t4⟩ := g23 8 _ nf rfl T1.2.1 (by rw [aU_ne (by omega)]; exact hc.1) hc.2.1 G rfl lG
  rw [aU_ne (show 40 + 4 * G ≠ 40 + 4 * F by omega)] at t4
  have T2 := T1.hs t3 t4
  have qu := (T2.sk K.1).q
  have d2 := T2.2.1.k hk_0
  have T3 := T2.hs (hHF.w (hp_h (b := 8) l1)) (T2.2.1.ww (v := Int32.ofNat F) (hp_h l1))
  have qv := (T3.sk K.1).q
  have d3 := T3.2.1.k hk_1
  simp only [q0.2.1, d0, wx, eG, qu.2.1, d2, nh, qv.2.1, d3] at g25
  obtain ⟨rfl, g9⟩ := g25
  have x9 := g9 8 _ nf rfl T3.2.1 (by rw [aU_ne (by omega), aU_ne (by omega), aU_ne (by omega)]; exact hc.1) hc.2.1 G rfl lG
  rw [x9, aU_ne (by omega), aU_at]
  exact ⟨rfl, T3⟩
theorem sp_127_ennnffx4_ (a0 : Nat) (a1 : Int32) (a2 : Int32) (σ : zSg) (τ1 : zSg) (τ2 : zSg) (τ4 : zSg) (τ12 : zSg) (r12 : Int32) (τ20 : zSg) (g1 : p_166 a0 a1 σ (.inl 0) τ1) (g2 : p_167 a0 a2 τ1 (.inl 0) τ2) (h3 : 0 ≤ a1.toInt ∧ a1.toInt < (τ2.2.1 (q_r (τ2.1 (q_r (τ2.1 a0 2)) 0)) : Int)) (g4 : p_171 a0 (q_i (τ2.1 (q_r (τ2.1 (q_r (τ2.1 a0 2)) 0)) a1.toNatClampNeg)) a2 τ2 (.inl 0) τ4) (h5 : (q_i (τ2.1 (q_r (τ2.1 (q_r (τ2.1 a0 2)) 0)) a1.toNatClampNeg)).toInt ≠ (-1 : Int)) (g12 : p_16 (q_r (τ4.1 (q_r (τ4.1 a0 2)) 1)) a2 τ4 r12 τ12) (h13 : r12.toInt ≥ (q_i (τ12.1 (q_r (τ12.1 a0 2)) 15)).toInt) (g20 : p_172 a0 (Int32.ofInt (1)) τ12 (.inr 4) τ20) :
    p_127 (a0) (a1) (a2) σ (.inr 4) τ20 := by
  rintro rfl A nf nt nx n Ms K
  have q0 := K.1.q
  obtain ⟨rfl, u, -⟩ := g1
  have u := u rfl
  have hc := K.2.2.2.1
  obtain ⟨rfl, g⟩ := g2
  have u' := (g rfl K.1 A nf K.2.1 hc.1 hc.2.1).1 rfl
  obtain ⟨rfl, v, -⟩ := g4
  have v := v rfl
  refine ⟨fun w => absurd ⟨u, u'⟩ w, fun x F e1 l1 e2 l2 => ?_⟩
  subst e1
  subst e2
  have l6 : F < 6 := by have := hc.2.1; omega
  have wx := K.2.1.p (hp_h l1)
  have d0 := K.2.1.k hk_0
  have d1 := K.2.1.k hk_1
  have w12 := K.2.1.p (hp_s (k := 12) (by omega) (by omega))
  have nh : (Int32.ofNat x).toNatClampNeg = x := o32n (by omega)
  simp only [q0.2.1, d0, nh, wx] at v
  refine ⟨fun w => absurd (by rw [w]) v, fun vn => ?_⟩
  simp only [q0.2.1, d0, nh, wx] at h5
  simp only [q0.2.1, d1] at g12
  obtain ⟨rfl, g3⟩ := g12
  have x3 := g3 8 A nf rfl K.2.1 hc.1 hc.2.1 F rfl l2
  simp only [q0.2.1, x3, w12] at h13
  obtain ⟨rfl, -, z⟩ := g20
  exact absurd (z rfl) (by decide)
theorem sp_127_ennx0_ (a0 : Nat) (a1 : Int32) (a2 : Int32) (σ : zSg) (τ1 : zSg) (τ2 : zSg) (τ4 : zSg) (g1 : p_166 a0 a1 σ (.inl 0) τ1) (g2 : p_167 a0 a2 τ1 (.inl 0) τ2) (h3 : 0 ≤ a1.toInt ∧ a1.toInt < (τ2.2.1 (q_r (τ2.1 (q_r (τ2.1 a0 2)) 0)) : Int)) (g4 : p_171 a0 (q_i (τ2.1 (q_r (τ2.1 (q_r (τ2.1 a0 2)) 0)) a1.toNatClampNeg)) a2 τ2 (.inr 0) τ4) :
    p_127 (a0) (a1) (a2) σ (.inr 0) τ4 := by
  rintro rfl A nf nt nx n Ms K
  have q0 := K.1.q
  obtain ⟨rfl, u, -⟩ := g1
  have u := u rfl
  have hc := K.2.2.2.1
  obtain ⟨rfl, g⟩ := g2
  have u' := (g rfl K.1 A nf K.2.1 hc.1 hc.2.1).1 rfl
  obtain ⟨rfl, -, v⟩ := g4
  have v := v rfl
  refine ⟨fun w => absurd ⟨u, u'⟩ w, fun x F e1 l1 e2 l2 => ?_⟩
  subst e1
  subst e2
  have l6 : F < 6 := by have := hc.2.1; omega
  have wx := K.2.1.p (hp_h l1)
  have d0 := K.2.1.k hk_0
  have d1 := K.2.1.k hk_1
  have w12 := K.2.1.p (hp_s (k := 12) (by omega) (by omega))
  have nh : (Int32.ofNat x).toNatClampNeg = x := o32n (by omega)
  simp only [q0.2.1, d0, nh, wx] at v
  exact ⟨fun _ => ⟨rfl, rfl⟩, fun vn => absurd (Int32.toInt_inj.mp v) vn⟩
theorem sp_127_enx2_ (a0 : Nat) (a1 : Int32) (a2 : Int32) (σ : zSg) (τ1 : zSg) (τ2 : zSg) (g1 : p_166 a0 a1 σ (.inl 0) τ1) (g2 : p_167 a0 a2 τ1 (.inr 2) τ2) :
    p_127 (a0) (a1) (a2) σ (.inr 2) τ2 := by
  rintro rfl A nf nt nx n Ms K
  have q0 := K.1.q
  obtain ⟨rfl, -, -⟩ := g1
  obtain ⟨rfl, g⟩ := g2
  have hc := K.2.2.2.1
  have hs := hc.2.1
  have u := (g rfl K.1 A nf K.2.1 hc.1 hc.2.1).2 rfl
  exact ⟨fun _ => ⟨rfl, rfl⟩, fun x F e1 l1 e2 l2 => absurd (by rw [e2, o32 (by omega)]; omega) u⟩
theorem sp_127_ex2_ (a0 : Nat) (a1 : Int32) (a2 : Int32) (σ : zSg) (τ1 : zSg) (g1 : p_166 a0 a1 σ (.inr 2) τ1) :
    p_127 (a0) (a1) (a2) σ (.inr 2) τ1 := by
  rintro rfl A nf nt nx n Ms K
  have q0 := K.1.q
  obtain ⟨rfl, -, u⟩ := g1
  have u := u rfl
  exact ⟨fun _ => ⟨rfl, rfl⟩, fun x F e1 l1 e2 l2 => absurd (by rw [e1, o32 (by omega)]; omega) u⟩
noncomputable def qP_127 : zPp := fun as σ o σ' => match as with
  | [a0, a1, a2] => (∃ r, o = .inl (some (.int r)) ∧ p_127 (q_r a0) (q_i a1) (q_i a2) σ (.inl r) σ') ∨ (o = .inr 2 ∧ p_127 (q_r a0) (q_i a1) (q_i a2) σ (.inr 2) σ') ∨ (o = .inr 0 ∧ p_127 (q_r a0) (q_i a1) (q_i a2) σ (.inr 0) σ') ∨ (o = .inr 4 ∧ p_127 (q_r a0) (q_i a1) (q_i a2) σ (.inr 4) σ')
  | _ => True
set_option maxRecDepth 100000 in
theorem sp_127 {sx : zX} (S166 : zEe sx 166 2 qP_166) (S167 : zEe sx 167 2 qP_167) (S171 : zEe sx 171 3 qP_171) (S172 : zEe sx 172 2 qP_172) (S62 : zEe sx 62 2 qP_62) (S17 : zEe sx 17 3 qP_17) (S18 : zEe sx 18 3 qP_18) (S16 : zEe sx 16 2 qP_16) : zEe sx 127 3 qP_127 := by
  refine zfle zJ_127 (sps := [(166, 2, qP_166), (167, 2, qP_167), (171, 3, qP_171), (172, 2, qP_172), (62, 2, qP_62), (17, 3, qP_17), (18, 3, qP_18), (16, 2, qP_16)]) (fun q hq => by
    simp only [List.mem_cons, List.not_mem_nil, or_false] at hq
    rcases hq with rfl | rfl | rfl | rfl | rfl | rfl | rfl | rfl
    · exact S166
    · exact S167
    · exact S171
    · exact S172
    · exact S62
    · exact S17
    · exact S18
    · exact S16) (fun as σ hl => ?_)
  match as, hl with
  | [a0, a1, a2], _ =>
  refine ⟨[], 400, ?_, ?_⟩
  · exact fun q hq => absurd hq List.not_mem_nil
  · refine fun o1 τ1 g1 => ?_
    rcases g1 with ⟨rfl, g1⟩ | ⟨rfl, g1⟩
    · refine fun o2 τ2 g2 => ?_
      rcases g2 with ⟨rfl, g2⟩ | ⟨rfl, g2⟩
      · refine fun h3 => ?_
        refine fun o4 τ4 g4 => ?_
        rcases g4 with ⟨rfl, g4⟩ | ⟨rfl, g4⟩
        · refine And.intro (fun h5 => ?_) (fun h5 => ?_)
          · refine fun o6 τ6 g6 => ?_
            rcases g6 with ⟨rfl, g6⟩ | ⟨rfl, g6⟩
            · refine fun o7 τ7 g7 => ?_
              obtain ⟨rfl, g7⟩ := g7
              refine fun o8 τ8 g8 => ?_
              obtain ⟨rfl, g8⟩ := g8
              refine fun o9 τ9 g9 => ?_
              obtain ⟨rfl, g9⟩ := g9
              refine fun h10 => ?_
              refine fun o11 τ11 g11 => ?_
              obtain ⟨r11, rfl, g11⟩ := g11
              exact Or.inl ⟨_, rfl, sp_127_ennntn (q_r a0) (q_i a1) (q_i a2) σ τ1 τ2 τ4 τ6 τ7 τ8 τ9 τ11 r11 g1 g2 (q_inp h3) g4 (cm0t h5) g6 g7 g8 g9 (q_inp h10) g11⟩
            · exact Or.inr (Or.inr (Or.inr (⟨rfl, sp_127_ennntx4_ (q_r a0) (q_i a1) (q_i a2) σ τ1 τ2 τ4 τ6 g1 g2 (q_inp h3) g4 (cm0t h5) g6⟩)))
          · refine fun o12 τ12 g12 => ?_
            obtain ⟨r12, rfl, g12⟩ := g12
            refine And.intro (fun h13 => ?_) (fun h13 => ?_)
            · refine fun o14 τ14 g14 => ?_
              rcases g14 with ⟨rfl, g14⟩ | ⟨rfl, g14⟩
              · refine fun o15 τ15 g15 => ?_
                obtain ⟨rfl, g15⟩ := g15
                refine fun o16 τ16 g16 => ?_
                obtain ⟨rfl, g16⟩ := g16
                refine fun o17 τ17 g17 => ?_
                obtain ⟨rfl, g17⟩ := g17
                refine fun h18 => ?_
                refine fun o19 τ19 g19 => ?_
                obtain ⟨r19, rfl, g19⟩ := g19
                exact Or.inl ⟨_, rfl, sp_127_ennnftn (q_r a0) (q_i a1) (q_i a2) σ τ1 τ2 τ4 τ12 r12 τ14 τ15 τ16 τ17 τ19 r19 g1 g2 (q_inp h3) g4 (cm0f h5) g12 (cm2t h13) g14 g15 g16 g17 (q_inp h18) g19⟩
              · exact Or.inr (Or.inr (Or.inr (⟨rfl, sp_127_ennnftx4_ (q_r a0) (q_i a1) (q_i a2) σ τ1 τ2 τ4 τ12 r12 τ14 g1 g2 (q_inp h3) g4 (cm0f h5) g12 (cm2t h13) g14⟩)))
            · refine fun o20 τ20 g20 => ?_
              rcases g20 with ⟨rfl, g20⟩ | ⟨rfl, g20⟩
              · refine fun o21 τ21 g21 => ?_
                obtain ⟨rfl, g21⟩ := g21
                refine fun o22 τ22 g22 => ?_
                obtain ⟨rfl, g22⟩ := g22
                refine fun o23 τ23 g23 => ?_
                obtain ⟨rfl, g23⟩ := g23
                refine fun h24 => ?_
                refine fun o25 τ25 g25 => ?_
                obtain ⟨r25, rfl, g25⟩ := g25
                exact Or.inl ⟨_, rfl, sp_127_ennnffn (q_r a0) (q_i a1) (q_i a2) σ τ1 τ2 τ4 τ12 r12 τ20 τ21 τ22 τ23 τ25 r25 g1 g2 (q_inp h3) g4 (cm0f h5) g12 (cm2f h13) g20 g21 g22 g23 (q_inp h24) g25⟩
              · exact Or.inr (Or.inr (Or.inr (⟨rfl, sp_127_ennnffx4_ (q_r a0) (q_i a1) (q_i a2) σ τ1 τ2 τ4 τ12 r12 τ20 g1 g2 (q_inp h3) g4 (cm0f h5) g12 (cm2f h13) g20⟩)))
        · exact Or.inr (Or.inr (Or.inl (⟨rfl, sp_127_ennx0_ (q_r a0) (q_i a1) (q_i a2) σ τ1 τ2 τ4 g1 g2 (q_inp h3) g4⟩)))
      · exact Or.inr (Or.inl (⟨rfl, sp_127_enx2_ (q_r a0) (q_i a1) (q_i a2) σ τ1 τ2 g1 g2⟩))
    · exact Or.inr (Or.inl (⟨rfl, sp_127_ex2_ (q_r a0) (q_i a1) (q_i a2) σ τ1 g1⟩))
theorem zJ_131 : zJ3 131 z_m131 z_c131 z_h131 := ⟨rfl, rfl, rfl⟩
noncomputable def p_131 (a : Nat) (t : Int32) (σ : zSg) (e : Int32 ⊕ Nat) (σ' : zSg) : Prop := a = 0 → ∀ A nf nt nx n Ms, xA σ A nf nt nx n Ms → (¬ (0 ≤ t.toInt ∧ t.toInt < (nt : Int)) → e = .inr 2 ∧ σ' = σ) ∧ (∀ x, t = Int32.ofNat x → x < nt → ∀ i4, A 4 = Int32.ofNat i4 → i4 < 24 → (¬ (A (64 + 3 * x) = A (16 + i4) ∧ A (66 + 3 * x) = Int32.ofInt 0) → e = .inr 4 ∧ σ' = σ) ∧ ((A (64 + 3 * x) = A (16 + i4) ∧ A (66 + 3 * x) = Int32.ofInt 0) → e = .inl (aBo (aU A (66 + 3 * x) (Int32.ofInt 1)) (Int32.ofInt (-1)) nt) ∧ xR σ σ' A (aU A (66 + 3 * x) (Int32.ofInt 1)) nx n Ms))
theorem sp_131_entn (a0 : Nat) (a1 : Int32) (σ : zSg) (τ1 : zSg) (τ3 : zSg) (r3 : Int32) (τ5 : zSg) (τ6 : zSg) (τ7 : zSg) (τ8 : zSg) (r8 : Int32) (g1 : p_168 a0 a1 σ (.inl 0) τ1) (h2 : 0 ≤ a1.toInt ∧ a1.toInt < (τ1.2.1 (q_r (τ1.1 (q_r (τ1.1 (q_r (τ1.1 a0 2)) 2)) 0)) : Int)) (g3 : p_27 (q_r (τ1.1 a0 2)) τ1 r3 τ3) (h4 : (q_i (τ1.1 (q_r (τ1.1 (q_r (τ1.1 (q_r (τ1.1 a0 2)) 2)) 0)) a1.toNatClampNeg)).toInt ≠ r3.toInt) (g5 : p_172 a0 (Int32.ofInt (0)) τ3 (.inl 0) τ5) (g6 : p_62 (q_r (τ5.1 a0 5)) (q_r (τ5.1 a0 2)) τ5 τ6) (g7 : p_106 (q_r (τ6.1 (q_r (τ6.1 a0 2)) 2)) a1 τ6 τ7) (g8 : p_108 (q_r (τ7.1 (q_r (τ7.1 a0 2)) 2)) τ7 r8 τ8) :
    p_131 (a0) (a1) σ (.inl r8) τ8 := by
  rintro rfl A nf nt nx n Ms K
  have q0 := K.1.q
  obtain ⟨rfl, g⟩ := g1
  have hc := K.2.2.2.1
  have u := (g rfl K.1 A nt K.2.1 hc.2.2.1 hc.2.2.2.1).1 rfl
  refine ⟨fun w => absurd u w, fun x e1 l1 i4 e4 l4 => ?_⟩
  subst e1
  have l8 : x < 8 := by have := hc.2.2.2.1; omega
  have wo := K.2.1.p (hp_o l8)
  have d2 := K.2.1.k hk_2
  have d0 := K.2.1.k hk_t0
  have nh : (Int32.ofNat x).toNatClampNeg = x := o32n (by omega)
  obtain ⟨rfl, gi⟩ := g3
  simp only [q0.2.1] at gi
  have xi := gi A i4 K.2.1 e4 l4
  simp only [q0.2.1, d2, d0, nh, wo, xi] at h4
  obtain ⟨rfl, z, -⟩ := g5
  exact absurd rfl (z rfl)
theorem sp_131_entx4_ (a0 : Nat) (a1 : Int32) (σ : zSg) (τ1 : zSg) (τ3 : zSg) (r3 : Int32) (τ5 : zSg) (g1 : p_168 a0 a1 σ (.inl 0) τ1) (h2 : 0 ≤ a1.toInt ∧ a1.toInt < (τ1.2.1 (q_r (τ1.1 (q_r (τ1.1 (q_r (τ1.1 a0 2)) 2)) 0)) : Int)) (g3 : p_27 (q_r (τ1.1 a0 2)) τ1 r3 τ3) (h4 : (q_i (τ1.1 (q_r (τ1.1 (q_r (τ1.1 (q_r (τ1.1 a0 2)) 2)) 0)) a1.toNatClampNeg)).toInt ≠ r3.toInt) (g5 : p_172 a0 (Int32.ofInt (0)) τ3 (.inr 4) τ5) :
    p_131 (a0) (a1) σ (.inr 4) τ5 := by
  rintro rfl A nf nt nx n Ms K
  have q0 := K.1.q
  obtain ⟨rfl, g⟩ := g1
  have hc := K.2.2.2.1
  have u := (g rfl K.1 A nt K.2.1 hc.2.2.1 hc.2.2.2.1).1 rfl
  refine ⟨fun w => absurd u w, fun x e1 l1 i4 e4 l4 => ?_⟩
  subst e1
  have l8 : x < 8 := by have := hc.2.2.2.1; omega
  have wo := K.2.1.p (hp_o l8)
  have d2 := K.2.1.k hk_2
  have d0 := K.2.1.k hk_t0
  have nh : (Int32.ofNat x).toNatClampNeg = x := o32n (by omega)
  obtain ⟨rfl, gi⟩ := g3
  simp only [q0.2.1] at gi
  have xi := gi A i4 K.2.1 e4 l4
  simp only [q0.2.1, d2, d0, nh, wo, xi] at h4
  obtain ⟨rfl, -, z⟩ := g5
  exact ⟨fun _ => ⟨rfl, rfl⟩, fun q => absurd (by rw [q.1]) h4⟩
theorem sp_131_enftn (a0 : Nat) (a1 : Int32) (σ : zSg) (τ1 : zSg) (τ3 : zSg) (r3 : Int32) (τ9 : zSg) (r9 : Int32) (τ11 : zSg) (τ12 : zSg) (τ13 : zSg) (τ14 : zSg) (r14 : Int32) (g1 : p_168 a0 a1 σ (.inl 0) τ1) (h2 : 0 ≤ a1.toInt ∧ a1.toInt < (τ1.2.1 (q_r (τ1.1 (q_r (τ1.1 (q_r (τ1.1 a0 2)) 2)) 0)) : Int)) (g3 : p_27 (q_r (τ1.1 a0 2)) τ1 r3 τ3) (h4 : (q_i (τ1.1 (q_r (τ1.1 (q_r (τ1.1 (q_r (τ1.1 a0 2)) 2)) 0)) a1.toNatClampNeg)).toInt = r3.toInt) (g9 : p_105 (q_r (τ3.1 (q_r (τ3.1 a0 2)) 2)) a1 τ3 r9 τ9) (h10 : r9.toInt ≠ (0 : Int)) (g11 : p_172 a0 (Int32.ofInt (0)) τ9 (.inl 0) τ11) (g12 : p_62 (q_r (τ11.1 a0 5)) (q_r (τ11.1 a0 2)) τ11 τ12) (g13 : p_106 (q_r (τ12.1 (q_r (τ12.1 a0 2)) 2)) a1 τ12 τ13) (g14 : p_108 (q_r (τ13.1 (q_r (τ13.1 a0 2)) 2)) τ13 r14 τ14) :
    p_131 (a0) (a1) σ (.inl r14) τ14 := by
  rintro rfl A nf nt nx n Ms K
  have q0 := K.1.q
  obtain ⟨rfl, g⟩ := g1
  have hc := K.2.2.2.1
  have u := (g rfl K.1 A nt K.2.1 hc.2.2.1 hc.2.2.2.1).1 rfl
  refine ⟨fun w => absurd u w, fun x e1 l1 i4 e4 l4 => ?_⟩
  subst e1
  have l8 : x < 8 := by have := hc.2.2.2.1; omega
  have wo := K.2.1.p (hp_o l8)
  have d2 := K.2.1.k hk_2
  have d0 := K.2.1.k hk_t0
  have nh : (Int32.ofNat x).toNatClampNeg = x := o32n (by omega)
  obtain ⟨rfl, gi⟩ := g3
  simp only [q0.2.1] at gi
  have xi := gi A i4 K.2.1 e4 l4
  simp only [q0.2.1, d2, d0, nh, wo, xi] at h4
  simp only [q0.2.1, d2] at g9
  obtain ⟨rfl, g3⟩ := g9
  have x3 := g3 8 A rfl K.2.1 x rfl l8
  rw [x3] at h10
  obtain ⟨rfl, z, -⟩ := g11
  exact absurd rfl (z rfl)
theorem sp_131_enftx4_ (a0 : Nat) (a1 : Int32) (σ : zSg) (τ1 : zSg) (τ3 : zSg) (r3 : Int32) (τ9 : zSg) (r9 : Int32) (τ11 : zSg) (g1 : p_168 a0 a1 σ (.inl 0) τ1) (h2 : 0 ≤ a1.toInt ∧ a1.toInt < (τ1.2.1 (q_r (τ1.1 (q_r (τ1.1 (q_r (τ1.1 a0 2)) 2)) 0)) : Int)) (g3 : p_27 (q_r (τ1.1 a0 2)) τ1 r3 τ3) (h4 : (q_i (τ1.1 (q_r (τ1.1 (q_r (τ1.1 (q_r (τ1.1 a0 2)) 2)) 0)) a1.toNatClampNeg)).toInt = r3.toInt) (g9 : p_105 (q_r (τ3.1 (q_r (τ3.1 a0 2)) 2)) a1 τ3 r9 τ9) (h10 : r9.toInt ≠ (0 : Int)) (g11 : p_172 a0 (Int32.ofInt (0)) τ9 (.inr 4) τ11) :
    p_131 (a0) (a1) σ (.inr 4) τ11 := by
  rintro rfl A nf nt nx n Ms K
  have q0 := K.1.q
  obtain ⟨rfl, g⟩ := g1
  have hc := K.2.2.2.1
  have u := (g rfl K.1 A nt K.2.1 hc.2.2.1 hc.2.2.2.1).1 rfl
  refine ⟨fun w => absurd u w, fun x e1 l1 i4 e4 l4 => ?_⟩
  subst e1
  have l8 : x < 8 := by have := hc.2.2.2.1; omega
  have wo := K.2.1.p (hp_o l8)
  have d2 := K.2.1.k hk_2
  have d0 := K.2.1.k hk_t0
  have nh : (Int32.ofNat x).toNatClampNeg = x := o32n (by omega)
  obtain ⟨rfl, gi⟩ := g3
  simp only [q0.2.1] at gi
  have xi := gi A i4 K.2.1 e4 l4
  simp only [q0.2.1, d2, d0, nh, wo, xi] at h4
  simp only [q0.2.1, d2] at g9
  obtain ⟨rfl, g3⟩ := g9
  have x3 := g3 8 A rfl K.2.1 x rfl l8
  rw [x3] at h10
  obtain ⟨rfl, -, z⟩ := g11
  exact ⟨fun _ => ⟨rfl, rfl⟩, fun q => absurd (by rw [q.2]; rfl) h10⟩
theorem sp_131_enffn (a0 : Nat) (a1 : Int32) (σ : zSg) (τ1 : zSg) (τ3 : zSg) (r3 : Int32) (τ9 : zSg) (r9 : Int32) (τ15 : zSg) (τ16 : zSg) (τ17 : zSg) (τ18 : zSg) (r18 : Int32) (g1 : p_168 a0 a1 σ (.inl 0) τ1) (h2 : 0 ≤ a1.toInt ∧ a1.toInt < (τ1.2.1 (q_r (τ1.1 (q_r (τ1.1 (q_r (τ1.1 a0 2)) 2)) 0)) : Int)) (g3 : p_27 (q_r (τ1.1 a0 2)) τ1 r3 τ3) (h4 : (q_i (τ1.1 (q_r (τ1.1 (q_r (τ1.1 (q_r (τ1.1 a0 2)) 2)) 0)) a1.toNatClampNeg)).toInt = r3.toInt) (g9 : p_105 (q_r (τ3.1 (q_r (τ3.1 a0 2)) 2)) a1 τ3 r9 τ9) (h10 : r9.toInt = (0 : Int)) (g15 : p_172 a0 (Int32.ofInt (1)) τ9 (.inl 0) τ15) (g16 : p_62 (q_r (τ15.1 a0 5)) (q_r (τ15.1 a0 2)) τ15 τ16) (g17 : p_106 (q_r (τ16.1 (q_r (τ16.1 a0 2)) 2)) a1 τ16 τ17) (g18 : p_108 (q_r (τ17.1 (q_r (τ17.1 a0 2)) 2)) τ17 r18 τ18) :
    p_131 (a0) (a1) σ (.inl r18) τ18 := by
  rintro rfl A nf nt nx n Ms K
  have q0 := K.1.q
  obtain ⟨rfl, g⟩ := g1
  have hc := K.2.2.2.1
  have u := (g rfl K.1 A nt K.2.1 hc.2.2.1 hc.2.2.2.1).1 rfl
  refine ⟨fun w => absurd u w, fun x e1 l1 i4 e4 l4 => ?_⟩
  subst e1
  have l8 : x < 8 := by have := hc.2.2.2.1; omega
  have wo := K.2.1.p (hp_o l8)
  have d2 := K.2.1.k hk_2
  have d0 := K.2.1.k hk_t0
  have nh : (Int32.ofNat x).toNatClampNeg = x := o32n (by omega)
  obtain ⟨rfl, gi⟩ := g3
  simp only [q0.2.1] at gi
  have xi := gi A i4 K.2.1 e4 l4
  simp only [q0.2.1, d2, d0, nh, wo, xi] at h4
  simp only [q0.2.1, d2] at g9
  obtain ⟨rfl, g3⟩ := g9
  have x3 := g3 8 A rfl K.2.1 x rfl l8
  rw [x3] at h10
  obtain ⟨rfl, z, -⟩ := g15
  have hL : A (66 + 3 * x) = Int32.ofInt 0 := by
    obtain ⟨l, -, hl'⟩ := K.2.1.2.2.1
    have e9 := hl' x l8
    by_cases hb : btb l (Int32.ofNat x) = true
    · rw [if_pos hb] at e9
      exact absurd h10 (by rw [e9]; decide)
    · rw [if_neg hb] at e9
      exact e9
  refine ⟨fun q => absurd ⟨Int32.toInt_inj.mp h4, hL⟩ q, fun _ => ?_⟩
  rw [q0.2.1, q0.2.2.2.2] at g16
  have R := K.kp g16
  have qs := (R.sk K.1).q
  have v2 := R.2.1.k hk_2
  simp only [qs.2.1, v2] at g17
  have T1 := R.hs (hHF.wl (b := 8)) (R.2.1.pd l8)
  obtain rfl := g17
  have qt := (T1.sk K.1).q
  have y2 := T1.2.1.k hk_2
  rw [qt.2.1, y2] at g18
  obtain ⟨rfl, rfl⟩ := g18 8 _ nt rfl T1.2.1 (by rw [aU_ne (by omega)]; exact hc.2.2.1) hc.2.2.2.1
  exact ⟨rfl, T1⟩
theorem sp_131_enffx4_ (a0 : Nat) (a1 : Int32) (σ : zSg) (τ1 : zSg) (τ3 : zSg) (r3 : Int32) (τ9 : zSg) (r9 : Int32) (τ15 : zSg) (g1 : p_168 a0 a1 σ (.inl 0) τ1) (h2 : 0 ≤ a1.toInt ∧ a1.toInt < (τ1.2.1 (q_r (τ1.1 (q_r (τ1.1 (q_r (τ1.1 a0 2)) 2)) 0)) : Int)) (g3 : p_27 (q_r (τ1.1 a0 2)) τ1 r3 τ3) (h4 : (q_i (τ1.1 (q_r (τ1.1 (q_r (τ1.1 (q_r (τ1.1 a0 2)) 2)) 0)) a1.toNatClampNeg)).toInt = r3.toInt) (g9 : p_105 (q_r (τ3.1 (q_r (τ3.1 a0 2)) 2)) a1 τ3 r9 τ9) (h10 : r9.toInt = (0 : Int)) (g15 : p_172 a0 (Int32.ofInt (1)) τ9 (.inr 4) τ15) :
    p_131 (a0) (a1) σ (.inr 4) τ15 := by
  rintro rfl A nf nt nx n Ms K
  have q0 := K.1.q
  obtain ⟨rfl, g⟩ := g1
  have hc := K.2.2.2.1
  have u := (g rfl K.1 A nt K.2.1 hc.2.2.1 hc.2.2.2.1).1 rfl
  refine ⟨fun w => absurd u w, fun x e1 l1 i4 e4 l4 => ?_⟩
  subst e1
  have l8 : x < 8 := by have := hc.2.2.2.1; omega
  have wo := K.2.1.p (hp_o l8)
  have d2 := K.2.1.k hk_2
  have d0 := K.2.1.k hk_t0
  have nh : (Int32.ofNat x).toNatClampNeg = x := o32n (by omega)
  obtain ⟨rfl, gi⟩ := g3
  simp only [q0.2.1] at gi
  have xi := gi A i4 K.2.1 e4 l4
  simp only [q0.2.1, d2, d0, nh, wo, xi] at h4
  simp only [q0.2.1, d2] at g9
  obtain ⟨rfl, g3⟩ := g9
  have x3 := g3 8 A rfl K.2.1 x rfl l8
  rw [x3] at h10
  obtain ⟨rfl, -, z⟩ := g15
  exact absurd (z rfl) (by decide)
theorem sp_131_ex2_ (a0 : Nat) (a1 : Int32) (σ : zSg) (τ1 : zSg) (g1 : p_168 a0 a1 σ (.inr 2) τ1) :
    p_131 (a0) (a1) σ (.inr 2) τ1 := by
  rintro rfl A nf nt nx n Ms K
  have q0 := K.1.q
  obtain ⟨rfl, g⟩ := g1
  have hc := K.2.2.2.1
  have hs := hc.2.2.2.1
  have u := (g rfl K.1 A nt K.2.1 hc.2.2.1 hc.2.2.2.1).2 rfl
  exact ⟨fun _ => ⟨rfl, rfl⟩, fun x e1 l1 i4 e4 l4 => absurd (by rw [e1, o32 (by omega)]; omega) u⟩
noncomputable def qP_131 : zPp := fun as σ o σ' => match as with
  | [a0, a1] => (∃ r, o = .inl (some (.int r)) ∧ p_131 (q_r a0) (q_i a1) σ (.inl r) σ') ∨ (o = .inr 2 ∧ p_131 (q_r a0) (q_i a1) σ (.inr 2) σ') ∨ (o = .inr 4 ∧ p_131 (q_r a0) (q_i a1) σ (.inr 4) σ')
  | _ => True
set_option maxRecDepth 100000 in
theorem sp_131 {sx : zX} (S168 : zEe sx 168 2 qP_168) (S27 : zEe sx 27 1 qP_27) (S172 : zEe sx 172 2 qP_172) (S62 : zEe sx 62 2 qP_62) (S106 : zEe sx 106 2 qP_106) (S108 : zEe sx 108 1 qP_108) (S105 : zEe sx 105 2 qP_105) : zEe sx 131 2 qP_131 := by
  refine zfle zJ_131 (sps := [(168, 2, qP_168), (27, 1, qP_27), (172, 2, qP_172), (62, 2, qP_62), (106, 2, qP_106), (108, 1, qP_108), (105, 2, qP_105)]) (fun q hq => by
    simp only [List.mem_cons, List.not_mem_nil, or_false] at hq
    rcases hq with rfl | rfl | rfl | rfl | rfl | rfl | rfl
    · exact S168
    · exact S27
    · exact S172
    · exact S62
    · exact S106
    · exact S108
    · exact S105) (fun as σ hl => ?_)
  match as, hl with
  | [a0, a1], _ =>
  refine ⟨[], 400, ?_, ?_⟩
  · exact fun q hq => absurd hq List.not_mem_nil
  · refine fun o1 τ1 g1 => ?_
    rcases g1 with ⟨rfl, g1⟩ | ⟨rfl, g1⟩
    · refine fun h2 => ?_
      refine fun o3 τ3 g3 => ?_
      obtain ⟨r3, rfl, g3⟩ := g3
      refine And.intro (fun h4 => ?_) (fun h4 => ?_)
      · refine fun o5 τ5 g5 => ?_
        rcases g5 with ⟨rfl, g5⟩ | ⟨rfl, g5⟩
        · refine fun o6 τ6 g6 => ?_
          obtain ⟨rfl, g6⟩ := g6
          refine fun o7 τ7 g7 => ?_
          obtain ⟨rfl, g7⟩ := g7
          refine fun o8 τ8 g8 => ?_
          obtain ⟨r8, rfl, g8⟩ := g8
          exact Or.inl ⟨_, rfl, sp_131_entn (q_r a0) (q_i a1) σ τ1 τ3 r3 τ5 τ6 τ7 τ8 r8 g1 (q_inp h2) g3 (cm1t h4) g5 g6 g7 g8⟩
        · exact Or.inr (Or.inr (⟨rfl, sp_131_entx4_ (q_r a0) (q_i a1) σ τ1 τ3 r3 τ5 g1 (q_inp h2) g3 (cm1t h4) g5⟩))
      · refine fun o9 τ9 g9 => ?_
        obtain ⟨r9, rfl, g9⟩ := g9
        refine And.intro (fun h10 => ?_) (fun h10 => ?_)
        · refine fun o11 τ11 g11 => ?_
          rcases g11 with ⟨rfl, g11⟩ | ⟨rfl, g11⟩
          · refine fun o12 τ12 g12 => ?_
            obtain ⟨rfl, g12⟩ := g12
            refine fun o13 τ13 g13 => ?_
            obtain ⟨rfl, g13⟩ := g13
            refine fun o14 τ14 g14 => ?_
            obtain ⟨r14, rfl, g14⟩ := g14
            exact Or.inl ⟨_, rfl, sp_131_enftn (q_r a0) (q_i a1) σ τ1 τ3 r3 τ9 r9 τ11 τ12 τ13 τ14 r14 g1 (q_inp h2) g3 (cm1f h4) g9 (cm1t h10) g11 g12 g13 g14⟩
          · exact Or.inr (Or.inr (⟨rfl, sp_131_enftx4_ (q_r a0) (q_i a1) σ τ1 τ3 r3 τ9 r9 τ11 g1 (q_inp h2) g3 (cm1f h4) g9 (cm1t h10) g11⟩))
        · refine fun o15 τ15 g15 => ?_
          rcases g15 with ⟨rfl, g15⟩ | ⟨rfl, g15⟩
          · refine fun o16 τ16 g16 => ?_
            obtain ⟨rfl, g16⟩ := g16
            refine fun o17 τ17 g17 => ?_
            obtain ⟨rfl, g17⟩ := g17
            refine fun o18 τ18 g18 => ?_
            obtain ⟨r18, rfl, g18⟩ := g18
            exact Or.inl ⟨_, rfl, sp_131_enffn (q_r a0) (q_i a1) σ τ1 τ3 r3 τ9 r9 τ15 τ16 τ17 τ18 r18 g1 (q_inp h2) g3 (cm1f h4) g9 (cm1f h10) g15 g16 g17 g18⟩
          · exact Or.inr (Or.inr (⟨rfl, sp_131_enffx4_ (q_r a0) (q_i a1) σ τ1 τ3 r3 τ9 r9 τ15 g1 (q_inp h2) g3 (cm1f h4) g9 (cm1f h10) g15⟩))
    · exact Or.inr (Or.inl (⟨rfl, sp_131_ex2_ (q_r a0) (q_i a1) σ τ1 g1⟩))
theorem zJ_132 : zJ3 132 z_m132 z_c132 z_h132 := ⟨rfl, rfl, rfl⟩
noncomputable def p_132 (a : Nat) (t : Int32) (σ : zSg) (e : Int32 ⊕ Nat) (σ' : zSg) : Prop := a = 0 → ∀ A nf nt nx n Ms, xA σ A nf nt nx n Ms → (¬ (0 ≤ t.toInt ∧ t.toInt < (nt : Int)) → e = .inr 2 ∧ σ' = σ) ∧ (∀ x, t = Int32.ofNat x → x < nt → ∀ i4, A 4 = Int32.ofNat i4 → i4 < 24 → (¬ (A (64 + 3 * x) = A (16 + i4) ∧ A (66 + 3 * x) = Int32.ofInt 1) → e = .inr 4 ∧ σ' = σ) ∧ ((A (64 + 3 * x) = A (16 + i4) ∧ A (66 + 3 * x) = Int32.ofInt 1) → e = .inl (aBo (aU A (66 + 3 * x) (Int32.ofInt 0)) (Int32.ofInt (-1)) nt) ∧ xR σ σ' A (aU A (66 + 3 * x) (Int32.ofInt 0)) nx n Ms))
theorem sp_132_entn (a0 : Nat) (a1 : Int32) (σ : zSg) (τ1 : zSg) (τ3 : zSg) (r3 : Int32) (τ5 : zSg) (τ6 : zSg) (τ7 : zSg) (τ8 : zSg) (r8 : Int32) (g1 : p_168 a0 a1 σ (.inl 0) τ1) (h2 : 0 ≤ a1.toInt ∧ a1.toInt < (τ1.2.1 (q_r (τ1.1 (q_r (τ1.1 (q_r (τ1.1 a0 2)) 2)) 0)) : Int)) (g3 : p_27 (q_r (τ1.1 a0 2)) τ1 r3 τ3) (h4 : (q_i (τ1.1 (q_r (τ1.1 (q_r (τ1.1 (q_r (τ1.1 a0 2)) 2)) 0)) a1.toNatClampNeg)).toInt ≠ r3.toInt) (g5 : p_172 a0 (Int32.ofInt (0)) τ3 (.inl 0) τ5) (g6 : p_62 (q_r (τ5.1 a0 5)) (q_r (τ5.1 a0 2)) τ5 τ6) (g7 : p_107 (q_r (τ6.1 (q_r (τ6.1 a0 2)) 2)) a1 τ6 τ7) (g8 : p_108 (q_r (τ7.1 (q_r (τ7.1 a0 2)) 2)) τ7 r8 τ8) :
    p_132 (a0) (a1) σ (.inl r8) τ8 := by
  rintro rfl A nf nt nx n Ms K
  have q0 := K.1.q
  obtain ⟨rfl, g⟩ := g1
  have hc := K.2.2.2.1
  have u := (g rfl K.1 A nt K.2.1 hc.2.2.1 hc.2.2.2.1).1 rfl
  refine ⟨fun w => absurd u w, fun x e1 l1 i4 e4 l4 => ?_⟩
  subst e1
  have l8 : x < 8 := by have := hc.2.2.2.1; omega
  have wo := K.2.1.p (hp_o l8)
  have d2 := K.2.1.k hk_2
  have d0 := K.2.1.k hk_t0
  have nh : (Int32.ofNat x).toNatClampNeg = x := o32n (by omega)
  obtain ⟨rfl, gi⟩ := g3
  simp only [q0.2.1] at gi
  have xi := gi A i4 K.2.1 e4 l4
  simp only [q0.2.1, d2, d0, nh, wo, xi] at h4
  obtain ⟨rfl, z, -⟩ := g5
  exact absurd rfl (z rfl)
theorem sp_132_entx4_ (a0 : Nat) (a1 : Int32) (σ : zSg) (τ1 : zSg) (τ3 : zSg) (r3 : Int32) (τ5 : zSg) (g1 : p_168 a0 a1 σ (.inl 0) τ1) (h2 : 0 ≤ a1.toInt ∧ a1.toInt < (τ1.2.1 (q_r (τ1.1 (q_r (τ1.1 (q_r (τ1.1 a0 2)) 2)) 0)) : Int)) (g3 : p_27 (q_r (τ1.1 a0 2)) τ1 r3 τ3) (h4 : (q_i (τ1.1 (q_r (τ1.1 (q_r (τ1.1 (q_r (τ1.1 a0 2)) 2)) 0)) a1.toNatClampNeg)).toInt ≠ r3.toInt) (g5 : p_172 a0 (Int32.ofInt (0)) τ3 (.inr 4) τ5) :
    p_132 (a0) (a1) σ (.inr 4) τ5 := by
  rintro rfl A nf nt nx n Ms K
  have q0 := K.1.q
  obtain ⟨rfl, g⟩ := g1
  have hc := K.2.2.2.1
  have u := (g rfl K.1 A nt K.2.1 hc.2.2.1 hc.2.2.2.1).1 rfl
  refine ⟨fun w => absurd u w, fun x e1 l1 i4 e4 l4 => ?_⟩
  subst e1
  have l8 : x < 8 := by have := hc.2.2.2.1; omega
  have wo := K.2.1.p (hp_o l8)
  have d2 := K.2.1.k hk_2
  have d0 := K.2.1.k hk_t0
  have nh : (Int32.ofNat x).toNatClampNeg = x := o32n (by omega)
  obtain ⟨rfl, gi⟩ := g3
  simp only [q0.2.1] at gi
  have xi := gi A i4 K.2.1 e4 l4
  simp only [q0.2.1, d2, d0, nh, wo, xi] at h4
  obtain ⟨rfl, -, z⟩ := g5
  exact ⟨fun _ => ⟨rfl, rfl⟩, fun q => absurd (by rw [q.1]) h4⟩
theorem sp_132_enftn (a0 : Nat) (a1 : Int32) (σ : zSg) (τ1 : zSg) (τ3 : zSg) (r3 : Int32) (τ9 : zSg) (r9 : Int32) (τ11 : zSg) (τ12 : zSg) (τ13 : zSg) (τ14 : zSg) (r14 : Int32) (g1 : p_168 a0 a1 σ (.inl 0) τ1) (h2 : 0 ≤ a1.toInt ∧ a1.toInt < (τ1.2.1 (q_r (τ1.1 (q_r (τ1.1 (q_r (τ1.1 a0 2)) 2)) 0)) : Int)) (g3 : p_27 (q_r (τ1.1 a0 2)) τ1 r3 τ3) (h4 : (q_i (τ1.1 (q_r (τ1.1 (q_r (τ1.1 (q_r (τ1.1 a0 2)) 2)) 0)) a1.toNatClampNeg)).toInt = r3.toInt) (g9 : p_105 (q_r (τ3.1 (q_r (τ3.1 a0 2)) 2)) a1 τ3 r9 τ9) (h10 : r9.toInt = (0 : Int)) (g11 : p_172 a0 (Int32.ofInt (0)) τ9 (.inl 0) τ11) (g12 : p_62 (q_r (τ11.1 a0 5)) (q_r (τ11.1 a0 2)) τ11 τ12) (g13 : p_107 (q_r (τ12.1 (q_r (τ12.1 a0 2)) 2)) a1 τ12 τ13) (g14 : p_108 (q_r (τ13.1 (q_r (τ13.1 a0 2)) 2)) τ13 r14 τ14) :
    p_132 (a0) (a1) σ (.inl r14) τ14 := by
  rintro rfl A nf nt nx n Ms K
  have q0 := K.1.q
  obtain ⟨rfl, g⟩ := g1
  have hc := K.2.2.2.1
  have u := (g rfl K.1 A nt K.2.1 hc.2.2.1 hc.2.2.2.1).1 rfl
  refine ⟨fun w => absurd u w, fun x e1 l1 i4 e4 l4 => ?_⟩
  subst e1
  have l8 : x < 8 := by have := hc.2.2.2.1; omega
  have wo := K.2.1.p (hp_o l8)
  have d2 := K.2.1.k hk_2
  have d0 := K.2.1.k hk_t0
  have nh : (Int32.ofNat x).toNatClampNeg = x := o32n (by omega)
  obtain ⟨rfl, gi⟩ := g3
  simp only [q0.2.1] at gi
  have xi := gi A i4 K.2.1 e4 l4
  simp only [q0.2.1, d2, d0, nh, wo, xi] at h4
  simp only [q0.2.1, d2] at g9
  obtain ⟨rfl, g3⟩ := g9
  have x3 := g3 8 A rfl K.2.1 x rfl l8
  rw [x3] at h10
  obtain ⟨rfl, z, -⟩ := g11
  exact absurd rfl (z rfl)
theorem sp_132_enftx4_ (a0 : Nat) (a1 : Int32) (σ : zSg) (τ1 : zSg) (τ3 : zSg) (r3 : Int32) (τ9 : zSg) (r9 : Int32) (τ11 : zSg) (g1 : p_168 a0 a1 σ (.inl 0) τ1) (h2 : 0 ≤ a1.toInt ∧ a1.toInt < (τ1.2.1 (q_r (τ1.1 (q_r (τ1.1 (q_r (τ1.1 a0 2)) 2)) 0)) : Int)) (g3 : p_27 (q_r (τ1.1 a0 2)) τ1 r3 τ3) (h4 : (q_i (τ1.1 (q_r (τ1.1 (q_r (τ1.1 (q_r (τ1.1 a0 2)) 2)) 0)) a1.toNatClampNeg)).toInt = r3.toInt) (g9 : p_105 (q_r (τ3.1 (q_r (τ3.1 a0 2)) 2)) a1 τ3 r9 τ9) (h10 : r9.toInt = (0 : Int)) (g11 : p_172 a0 (Int32.ofInt (0)) τ9 (.inr 4) τ11) :
    p_132 (a0) (a1) σ (.inr 4) τ11 := by
  rintro rfl A nf nt nx n Ms K
  have q0 := K.1.q
  obtain ⟨rfl, g⟩ := g1
  have hc := K.2.2.2.1
  have u := (g rfl K.1 A nt K.2.1 hc.2.2.1 hc.2.2.2.1).1 rfl
  refine ⟨fun w => absurd u w, fun x e1 l1 i4 e4 l4 => ?_⟩
  subst e1
  have l8 : x < 8 := by have := hc.2.2.2.1; omega
  have wo := K.2.1.p (hp_o l8)
  have d2 := K.2.1.k hk_2
  have d0 := K.2.1.k hk_t0
  have nh : (Int32.ofNat x).toNatClampNeg = x := o32n (by omega)
  obtain ⟨rfl, gi⟩ := g3
  simp only [q0.2.1] at gi
  have xi := gi A i4 K.2.1 e4 l4
  simp only [q0.2.1, d2, d0, nh, wo, xi] at h4
  simp only [q0.2.1, d2] at g9
  obtain ⟨rfl, g3⟩ := g9
  have x3 := g3 8 A rfl K.2.1 x rfl l8
  rw [x3] at h10
  obtain ⟨rfl, -, z⟩ := g11
  exact ⟨fun _ => ⟨rfl, rfl⟩, fun q => absurd (by rw [q.2] at h10; exact h10) (by decide)⟩
theorem sp_132_enffn (a0 : Nat) (a1 : Int32) (σ : zSg) (τ1 : zSg) (τ3 : zSg) (r3 : Int32) (τ9 : zSg) (r9 : Int32) (τ15 : zSg) (τ16 : zSg) (τ17 : zSg) (τ18 : zSg) (r18 : Int32) (g1 : p_168 a0 a1 σ (.inl 0) τ1) (h2 : 0 ≤ a1.toInt ∧ a1.toInt < (τ1.2.1 (q_r (τ1.1 (q_r (τ1.1 (q_r (τ1.1 a0 2)) 2)) 0)) : Int)) (g3 : p_27 (q_r (τ1.1 a0 2)) τ1 r3 τ3) (h4 : (q_i (τ1.1 (q_r (τ1.1 (q_r (τ1.1 (q_r (τ1.1 a0 2)) 2)) 0)) a1.toNatClampNeg)).toInt = r3.toInt) (g9 : p_105 (q_r (τ3.1 (q_r (τ3.1 a0 2)) 2)) a1 τ3 r9 τ9) (h10 : r9.toInt ≠ (0 : Int)) (g15 : p_172 a0 (Int32.ofInt (1)) τ9 (.inl 0) τ15) (g16 : p_62 (q_r (τ15.1 a0 5)) (q_r (τ15.1 a0 2)) τ15 τ16) (g17 : p_107 (q_r (τ16.1 (q_r (τ16.1 a0 2)) 2)) a1 τ16 τ17) (g18 : p_108 (q_r (τ17.1 (q_r (τ17.1 a0 2)) 2)) τ17 r18 τ18) :
    p_132 (a0) (a1) σ (.inl r18) τ18 := by
  rintro rfl A nf nt nx n Ms K
  have q0 := K.1.q
  obtain ⟨rfl, g⟩ := g1
  have hc := K.2.2.2.1
  have u := (g rfl K.1 A nt K.2.1 hc.2.2.1 hc.2.2.2.1).1 rfl
  refine ⟨fun w => absurd u w, fun x e1 l1 i4 e4 l4 => ?_⟩
  subst e1
  have l8 : x < 8 := by have := hc.2.2.2.1; omega
  have wo := K.2.1.p (hp_o l8)
  have d2 := K.2.1.k hk_2
  have d0 := K.2.1.k hk_t0
  have nh : (Int32.ofNat x).toNatClampNeg = x := o32n (by omega)
  obtain ⟨rfl, gi⟩ := g3
  simp only [q0.2.1] at gi
  have xi := gi A i4 K.2.1 e4 l4
  simp only [q0.2.1, d2, d0, nh, wo, xi] at h4
  simp only [q0.2.1, d2] at g9
  obtain ⟨rfl, g3⟩ := g9
  have x3 := g3 8 A rfl K.2.1 x rfl l8
  rw [x3] at h10
  obtain ⟨rfl, z, -⟩ := g15
  have hL : A (66 + 3 * x) = Int32.ofInt 1 := by
    obtain ⟨l, -, hl'⟩ := K.2.1.2.2.1
    have e9 := hl' x l8
    by_cases hb : btb l (Int32.ofNat x) = true
    · rw [if_pos hb] at e9
      exact e9
    · rw [if_neg hb] at e9
      exact absurd (by rw [e9]; rfl) h10
  refine ⟨fun q => absurd ⟨Int32.toInt_inj.mp h4, hL⟩ q, fun _ => ?_⟩
  rw [q0.2.1, q0.2.2.2.2] at g16
  have R := K.kp g16
  have qs := (R.sk K.1).q
  have v2 := R.2.1.k hk_2
  simp only [qs.2.1, v2] at g17
  have T1 := R.hs (hHF.wl (b := 8)) (R.2.1.ta l8)
  obtain rfl := g17
  have qt := (T1.sk K.1).q
  have y2 := T1.2.1.k hk_2
  rw [qt.2.1, y2] at g18
  obtain ⟨rfl, rfl⟩ := g18 8 _ nt rfl T1.2.1 (by rw [aU_ne (by omega)]; exact hc.2.2.1) hc.2.2.2.1
  exact ⟨rfl, T1⟩
theorem sp_132_enffx4_ (a0 : Nat) (a1 : Int32) (σ : zSg) (τ1 : zSg) (τ3 : zSg) (r3 : Int32) (τ9 : zSg) (r9 : Int32) (τ15 : zSg) (g1 : p_168 a0 a1 σ (.inl 0) τ1) (h2 : 0 ≤ a1.toInt ∧ a1.toInt < (τ1.2.1 (q_r (τ1.1 (q_r (τ1.1 (q_r (τ1.1 a0 2)) 2)) 0)) : Int)) (g3 : p_27 (q_r (τ1.1 a0 2)) τ1 r3 τ3) (h4 : (q_i (τ1.1 (q_r (τ1.1 (q_r (τ1.1 (q_r (τ1.1 a0 2)) 2)) 0)) a1.toNatClampNeg)).toInt = r3.toInt) (g9 : p_105 (q_r (τ3.1 (q_r (τ3.1 a0 2)) 2)) a1 τ3 r9 τ9) (h10 : r9.toInt ≠ (0 : Int)) (g15 : p_172 a0 (Int32.ofInt (1)) τ9 (.inr 4) τ15) :
    p_132 (a0) (a1) σ (.inr 4) τ15 := by
  rintro rfl A nf nt nx n Ms K
  have q0 := K.1.q
  obtain ⟨rfl, g⟩ := g1
  have hc := K.2.2.2.1
  have u := (g rfl K.1 A nt K.2.1 hc.2.2.1 hc.2.2.2.1).1 rfl
  refine ⟨fun w => absurd u w, fun x e1 l1 i4 e4 l4 => ?_⟩
  subst e1
  have l8 : x < 8 := by have := hc.2.2.2.1; omega
  have wo := K.2.1.p (hp_o l8)
  have d2 := K.2.1.k hk_2
  have d0 := K.2.1.k hk_t0
  have nh : (Int32.ofNat x).toNatClampNeg = x := o32n (by omega)
  obtain ⟨rfl, gi⟩ := g3
  simp only [q0.2.1] at gi
  have xi := gi A i4 K.2.1 e4 l4
  simp only [q0.2.1, d2, d0, nh, wo, xi] at h4
  simp only [q0.2.1, d2] at g9
  obtain ⟨rfl, g3⟩ := g9
  have x3 := g3 8 A rfl K.2.1 x rfl l8
  rw [x3] at h10
  obtain ⟨rfl, -, z⟩ := g15
  exact absurd (z rfl) (by decide)
theorem sp_132_ex2_ (a0 : Nat) (a1 : Int32) (σ : zSg) (τ1 : zSg) (g1 : p_168 a0 a1 σ (.inr 2) τ1) :
    p_132 (a0) (a1) σ (.inr 2) τ1 := by
  rintro rfl A nf nt nx n Ms K
  have q0 := K.1.q
  obtain ⟨rfl, g⟩ := g1
  have hc := K.2.2.2.1
  have hs := hc.2.2.2.1
  have u := (g rfl K.1 A nt K.2.1 hc.2.2.1 hc.2.2.2.1).2 rfl
  exact ⟨fun _ => ⟨rfl, rfl⟩, fun x e1 l1 i4 e4 l4 => absurd (by rw [e1, o32 (by omega)]; omega) u⟩
noncomputable def qP_132 : zPp := fun as σ o σ' => match as with
  | [a0, a1] => (∃ r, o = .inl (some (.int r)) ∧ p_132 (q_r a0) (q_i a1) σ (.inl r) σ') ∨ (o = .inr 2 ∧ p_132 (q_r a0) (q_i a1) σ (.inr 2) σ') ∨ (o = .inr 4 ∧ p_132 (q_r a0) (q_i a1) σ (.inr 4) σ')
  | _ => True
set_option maxRecDepth 100000 in
theorem sp_132 {sx : zX} (S168 : zEe sx 168 2 qP_168) (S27 : zEe sx 27 1 qP_27) (S172 : zEe sx 172 2 qP_172) (S62 : zEe sx 62 2 qP_62) (S107 : zEe sx 107 2 qP_107) (S108 : zEe sx 108 1 qP_108) (S105 : zEe sx 105 2 qP_105) : zEe sx 132 2 qP_132 := by
  refine zfle zJ_132 (sps := [(168, 2, qP_168), (27, 1, qP_27), (172, 2, qP_172), (62, 2, qP_62), (107, 2, qP_107), (108, 1, qP_108), (105, 2, qP_105)]) (fun q hq => by
    simp only [List.mem_cons, List.not_mem_nil, or_false] at hq
    rcases hq with rfl | rfl | rfl | rfl | rfl | rfl | rfl
    · exact S168
    · exact S27
    · exact S172
    · exact S62
    · exact S107
    · exact S108
    · exact S105) (fun as σ hl => ?_)
  match as, hl with
  | [a0, a1], _ =>
  refine ⟨[], 400, ?_, ?_⟩
  · exact fun q hq => absurd hq List.not_mem_nil
  · refine fun o1 τ1 g1 => ?_
    rcases g1 with ⟨rfl, g1⟩ | ⟨rfl, g1⟩
    · refine fun h2 => ?_
      refine fun o3 τ3 g3 => ?_
      obtain ⟨r3, rfl, g3⟩ := g3
      refine And.intro (fun h4 => ?_) (fun h4 => ?_)
      · refine fun o5 τ5 g5 => ?_
        rcases g5 with ⟨rfl, g5⟩ | ⟨rfl, g5⟩
        · refine fun o6 τ6 g6 => ?_
          obtain ⟨rfl, g6⟩ := g6
          refine fun o7 τ7 g7 => ?_
          obtain ⟨rfl, g7⟩ := g7
          refine fun o8 τ8 g8 => ?_
          obtain ⟨r8, rfl, g8⟩ := g8
          exact Or.inl ⟨_, rfl, sp_132_entn (q_r a0) (q_i a1) σ τ1 τ3 r3 τ5 τ6 τ7 τ8 r8 g1 (q_inp h2) g3 (cm1t h4) g5 g6 g7 g8⟩
        · exact Or.inr (Or.inr (⟨rfl, sp_132_entx4_ (q_r a0) (q_i a1) σ τ1 τ3 r3 τ5 g1 (q_inp h2) g3 (cm1t h4) g5⟩))
      · refine fun o9 τ9 g9 => ?_
        obtain ⟨r9, rfl, g9⟩ := g9
        refine And.intro (fun h10 => ?_) (fun h10 => ?_)
        · refine fun o11 τ11 g11 => ?_
          rcases g11 with ⟨rfl, g11⟩ | ⟨rfl, g11⟩
          · refine fun o12 τ12 g12 => ?_
            obtain ⟨rfl, g12⟩ := g12
            refine fun o13 τ13 g13 => ?_
            obtain ⟨rfl, g13⟩ := g13
            refine fun o14 τ14 g14 => ?_
            obtain ⟨r14, rfl, g14⟩ := g14
            exact Or.inl ⟨_, rfl, sp_132_enftn (q_r a0) (q_i a1) σ τ1 τ3 r3 τ9 r9 τ11 τ12 τ13 τ14 r14 g1 (q_inp h2) g3 (cm1f h4) g9 (cm0t h10) g11 g12 g13 g14⟩
          · exact Or.inr (Or.inr (⟨rfl, sp_132_enftx4_ (q_r a0) (q_i a1) σ τ1 τ3 r3 τ9 r9 τ11 g1 (q_inp h2) g3 (cm1f h4) g9 (cm0t h10) g11⟩))
        · refine fun o15 τ15 g15 => ?_
          rcases g15 with ⟨rfl, g15⟩ | ⟨rfl, g15⟩
          · refine fun o16 τ16 g16 => ?_
            obtain ⟨rfl, g16⟩ := g16
            refine fun o17 τ17 g17 => ?_
            obtain ⟨rfl, g17⟩ := g17
            refine fun o18 τ18 g18 => ?_
            obtain ⟨r18, rfl, g18⟩ := g18
            exact Or.inl ⟨_, rfl, sp_132_enffn (q_r a0) (q_i a1) σ τ1 τ3 r3 τ9 r9 τ15 τ16 τ17 τ18 r18 g1 (q_inp h2) g3 (cm1f h4) g9 (cm0f h10) g15 g16 g17 g18⟩
          · exact Or.inr (Or.inr (⟨rfl, sp_132_enffx4_ (q_r a0) (q_i a1) σ τ1 τ3 r3 τ9 r9 τ15 g1 (q_inp h2) g3 (cm1f h4) g9 (cm0f h10) g15⟩))
    · exact Or.inr (Or.inl (⟨rfl, sp_132_ex2_ (q_r a0) (q_i a1) σ τ1 g1⟩))
theorem zJ_133 : zJ3 133 z_m133 z_c133 z_h133 := ⟨rfl, rfl, rfl⟩
noncomputable def p_133 (a : Nat) (σ : zSg) (e : Int32 ⊕ Nat) (σ' : zSg) : Prop := a = 0 → ∀ A nf nt nx n Ms, xA σ A nf nt nx n Ms → ∀ i4, A 4 = Int32.ofNat i4 → i4 < 24 → (A (16 + i4) = Int32.ofInt (-1) → e = .inr 4 ∧ σ' = σ) ∧ (∀ F, A (16 + i4) = Int32.ofNat F → F < nf → (¬ (0 < (A 8).toInt ∧ (A 8).toInt ≤ (A (40 + 4 * F)).toInt) → e = .inr 4 ∧ σ' = σ) ∧ ((0 < (A 8).toInt ∧ (A 8).toInt ≤ (A (40 + 4 * F)).toInt) → e = .inl (aPy (A (40 + 4 * F)) (A 8)) ∧ xR σ σ' A (aU (aU A (40 + 4 * F) (aPy (A (40 + 4 * F)) (A 8))) 8 (Int32.ofInt 0)) nx n Ms))
theorem sp_133_etn (a0 : Nat) (σ : zSg) (τ1 : zSg) (r1 : Int32) (τ3 : zSg) (τ4 : zSg) (τ5 : zSg) (τ6 : zSg) (r6 : Int32) (g1 : p_27 (q_r (σ.1 a0 2)) σ r1 τ1) (h2 : r1.toInt = (-1 : Int)) (g3 : p_172 a0 (Int32.ofInt (0)) τ1 (.inl 0) τ3) (g4 : p_62 (q_r (τ3.1 a0 5)) (q_r (τ3.1 a0 2)) τ3 τ4) (g5 : p_17 (q_r (τ4.1 (q_r (τ4.1 a0 2)) 1)) r1 (q_i (τ4.1 (q_r (τ4.1 a0 2)) 11)) τ4 τ5) (g6 : p_16 (q_r ((q_w τ5 (q_r (τ5.1 a0 2)) 11 (.int (Int32.ofInt (0)))).1 (q_r ((q_w τ5 (q_r (τ5.1 a0 2)) 11 (.int (Int32.ofInt (0)))).1 a0 2)) 1)) r1 (q_w τ5 (q_r (τ5.1 a0 2)) 11 (.int (Int32.ofInt (0)))) r6 τ6) :
    p_133 (a0) σ (.inl r6) τ6 := by
  rintro rfl A nf nt nx n Ms K
  have q0 := K.1.q
  refine fun i4 e4 l4 => ?_
  have hc := K.2.2.2.1
  simp only [q0.2.1] at g1
  obtain ⟨rfl, gi⟩ := g1
  have xi := gi A i4 K.2.1 e4 l4
  rw [xi] at h2
  have d1 := K.2.1.k hk_1
  have w8 := K.2.1.p (hp_s (k := 8) (by omega) (by omega))
  obtain ⟨rfl, z, -⟩ := g3
  exact absurd rfl (z rfl)
theorem sp_133_etx4_ (a0 : Nat) (σ : zSg) (τ1 : zSg) (r1 : Int32) (τ3 : zSg) (g1 : p_27 (q_r (σ.1 a0 2)) σ r1 τ1) (h2 : r1.toInt = (-1 : Int)) (g3 : p_172 a0 (Int32.ofInt (0)) τ1 (.inr 4) τ3) :
    p_133 (a0) σ (.inr 4) τ3 := by
  rintro rfl A nf nt nx n Ms K
  have q0 := K.1.q
  refine fun i4 e4 l4 => ?_
  have hc := K.2.2.2.1
  simp only [q0.2.1] at g1
  obtain ⟨rfl, gi⟩ := g1
  have xi := gi A i4 K.2.1 e4 l4
  rw [xi] at h2
  have d1 := K.2.1.k hk_1
  have w8 := K.2.1.p (hp_s (k := 8) (by omega) (by omega))
  obtain ⟨rfl, -, z⟩ := g3
  refine ⟨fun _ => ⟨rfl, rfl⟩, fun F e l => ?_⟩
  have h6 := hc.2.1
  rw [e, o32 (by omega)] at h2
  exact absurd h2 (by omega)
theorem sp_133_eftn (a0 : Nat) (σ : zSg) (τ1 : zSg) (r1 : Int32) (τ8 : zSg) (τ9 : zSg) (τ10 : zSg) (τ11 : zSg) (r11 : Int32) (g1 : p_27 (q_r (σ.1 a0 2)) σ r1 τ1) (h2 : r1.toInt ≠ (-1 : Int)) (h7 : (q_i (τ1.1 (q_r (τ1.1 a0 2)) 11)).toInt ≤ (0 : Int)) (g8 : p_172 a0 (Int32.ofInt (0)) τ1 (.inl 0) τ8) (g9 : p_62 (q_r (τ8.1 a0 5)) (q_r (τ8.1 a0 2)) τ8 τ9) (g10 : p_17 (q_r (τ9.1 (q_r (τ9.1 a0 2)) 1)) r1 (q_i (τ9.1 (q_r (τ9.1 a0 2)) 11)) τ9 τ10) (g11 : p_16 (q_r ((q_w τ10 (q_r (τ10.1 a0 2)) 11 (.int (Int32.ofInt (0)))).1 (q_r ((q_w τ10 (q_r (τ10.1 a0 2)) 11 (.int (Int32.ofInt (0)))).1 a0 2)) 1)) r1 (q_w τ10 (q_r (τ10.1 a0 2)) 11 (.int (Int32.ofInt (0)))) r11 τ11) :
    p_133 (a0) σ (.inl r11) τ11 := by
  rintro rfl A nf nt nx n Ms K
  have q0 := K.1.q
  refine fun i4 e4 l4 => ?_
  have hc := K.2.2.2.1
  simp only [q0.2.1] at g1
  obtain ⟨rfl, gi⟩ := g1
  have xi := gi A i4 K.2.1 e4 l4
  rw [xi] at h2
  have d1 := K.2.1.k hk_1
  have w8 := K.2.1.p (hp_s (k := 8) (by omega) (by omega))
  refine ⟨fun w => absurd (by rw [w]; rfl) h2, fun F e l => ?_⟩
  simp only [q0.2.1, w8] at h7
  obtain ⟨rfl, z, -⟩ := g8
  exact absurd rfl (z rfl)
theorem sp_133_eftx4_ (a0 : Nat) (σ : zSg) (τ1 : zSg) (r1 : Int32) (τ8 : zSg) (g1 : p_27 (q_r (σ.1 a0 2)) σ r1 τ1) (h2 : r1.toInt ≠ (-1 : Int)) (h7 : (q_i (τ1.1 (q_r (τ1.1 a0 2)) 11)).toInt ≤ (0 : Int)) (g8 : p_172 a0 (Int32.ofInt (0)) τ1 (.inr 4) τ8) :
    p_133 (a0) σ (.inr 4) τ8 := by
  rintro rfl A nf nt nx n Ms K
  have q0 := K.1.q
  refine fun i4 e4 l4 => ?_
  have hc := K.2.2.2.1
  simp only [q0.2.1] at g1
  obtain ⟨rfl, gi⟩ := g1
  have xi := gi A i4 K.2.1 e4 l4
  rw [xi] at h2
  have d1 := K.2.1.k hk_1
  have w8 := K.2.1.p (hp_s (k := 8) (by omega) (by omega))
  refine ⟨fun w => absurd (by rw [w]; rfl) h2, fun F e l => ?_⟩
  simp only [q0.2.1, w8] at h7
  obtain ⟨rfl, -, z⟩ := g8
  exact ⟨fun _ => ⟨rfl, rfl⟩, fun q => absurd q.1 (by omega)⟩
theorem sp_133_efftn (a0 : Nat) (σ : zSg) (τ1 : zSg) (r1 : Int32) (τ12 : zSg) (r12 : Int32) (τ14 : zSg) (τ15 : zSg) (τ16 : zSg) (τ17 : zSg) (r17 : Int32) (g1 : p_27 (q_r (σ.1 a0 2)) σ r1 τ1) (h2 : r1.toInt ≠ (-1 : Int)) (h7 : (q_i (τ1.1 (q_r (τ1.1 a0 2)) 11)).toInt > (0 : Int)) (g12 : p_16 (q_r (τ1.1 (q_r (τ1.1 a0 2)) 1)) r1 τ1 r12 τ12) (h13 : r12.toInt < (q_i (τ12.1 (q_r (τ12.1 a0 2)) 11)).toInt) (g14 : p_172 a0 (Int32.ofInt (0)) τ12 (.inl 0) τ14) (g15 : p_62 (q_r (τ14.1 a0 5)) (q_r (τ14.1 a0 2)) τ14 τ15) (g16 : p_17 (q_r (τ15.1 (q_r (τ15.1 a0 2)) 1)) r1 (q_i (τ15.1 (q_r (τ15.1 a0 2)) 11)) τ15 τ16) (g17 : p_16 (q_r ((q_w τ16 (q_r (τ16.1 a0 2)) 11 (.int (Int32.ofInt (0)))).1 (q_r ((q_w τ16 (q_r (τ16.1 a0 2)) 11 (.int (Int32.ofInt (0)))).1 a0 2)) 1)) r1 (q_w τ16 (q_r (τ16.1 a0 2)) 11 (.int (Int32.ofInt (0)))) r17 τ17) :
    p_133 (a0) σ (.inl r17) τ17 := by
  rintro rfl A nf nt nx n Ms K
  have q0 := K.1.q
  refine fun i4 e4 l4 => ?_
  have hc := K.2.2.2.1
  simp only [q0.2.1] at g1
  obtain ⟨rfl, gi⟩ := g1
  have xi := gi A i4 K.2.1 e4 l4
  rw [xi] at h2
  have d1 := K.2.1.k hk_1
  have w8 := K.2.1.p (hp_s (k := 8) (by omega) (by omega))
  refine ⟨fun w => absurd (by rw [w]; rfl) h2, fun F e l => ?_⟩
  simp only [q0.2.1, w8] at h7
  rw [xi, e] at g12
  simp only [q0.2.1, d1] at g12
  obtain ⟨rfl, g3⟩ := g12
  have x3 := g3 8 A nf rfl K.2.1 hc.1 hc.2.1 F rfl l
  simp only [q0.2.1, x3, w8] at h13
  obtain ⟨rfl, z, -⟩ := g14
  exact absurd rfl (z rfl)
theorem sp_133_efftx4_ (a0 : Nat) (σ : zSg) (τ1 : zSg) (r1 : Int32) (τ12 : zSg) (r12 : Int32) (τ14 : zSg) (g1 : p_27 (q_r (σ.1 a0 2)) σ r1 τ1) (h2 : r1.toInt ≠ (-1 : Int)) (h7 : (q_i (τ1.1 (q_r (τ1.1 a0 2)) 11)).toInt > (0 : Int)) (g12 : p_16 (q_r (τ1.1 (q_r (τ1.1 a0 2)) 1)) r1 τ1 r12 τ12) (h13 : r12.toInt < (q_i (τ12.1 (q_r (τ12.1 a0 2)) 11)).toInt) (g14 : p_172 a0 (Int32.ofInt (0)) τ12 (.inr 4) τ14) :
    p_133 (a0) σ (.inr 4) τ14 := by
  rintro rfl A nf nt nx n Ms K
  have q0 := K.1.q
  refine fun i4 e4 l4 => ?_
  have hc := K.2.2.2.1
  simp only [q0.2.1] at g1
  obtain ⟨rfl, gi⟩ := g1
  have xi := gi A i4 K.2.1 e4 l4
  rw [xi] at h2
  have d1 := K.2.1.k hk_1
  have w8 := K.2.1.p (hp_s (k := 8) (by omega) (by omega))
  refine ⟨fun w => absurd (by rw [w]; rfl) h2, fun F e l => ?_⟩
  simp only [q0.2.1, w8] at h7
  rw [xi, e] at g12
  simp only [q0.2.1, d1] at g12
  obtain ⟨rfl, g3⟩ := g12
  have x3 := g3 8 A nf rfl K.2.1 hc.1 hc.2.1 F rfl l
  simp only [q0.2.1, x3, w8] at h13
  obtain ⟨rfl, -, z⟩ := g14
  exact ⟨fun _ => ⟨rfl, rfl⟩, fun q => absurd q.2 (by omega)⟩
theorem sp_133_efffn (a0 : Nat) (σ : zSg) (τ1 : zSg) (r1 : Int32) (τ12 : zSg) (r12 : Int32) (τ18 : zSg) (τ19 : zSg) (τ20 : zSg) (τ21 : zSg) (r21 : Int32) (g1 : p_27 (q_r (σ.1 a0 2)) σ r1 τ1) (h2 : r1.toInt ≠ (-1 : Int)) (h7 : (q_i (τ1.1 (q_r (τ1.1 a0 2)) 11)).toInt > (0 : Int)) (g12 : p_16 (q_r (τ1.1 (q_r (τ1.1 a0 2)) 1)) r1 τ1 r12 τ12) (h13 : r12.toInt ≥ (q_i (τ12.1 (q_r (τ12.1 a0 2)) 11)).toInt) (g18 : p_172 a0 (Int32.ofInt (1)) τ12 (.inl 0) τ18) (g19 : p_62 (q_r (τ18.1 a0 5)) (q_r (τ18.1 a0 2)) τ18 τ19) (g20 : p_17 (q_r (τ19.1 (q_r (τ19.1 a0 2)) 1)) r1 (q_i (τ19.1 (q_r (τ19.1 a0 2)) 11)) τ19 τ20) (g21 : p_16 (q_r ((q_w τ20 (q_r (τ20.1 a0 2)) 11 (.int (Int32.ofInt (0)))).1 (q_r ((q_w τ20 (q_r (τ20.1 a0 2)) 11 (.int (Int32.ofInt (0)))).1 a0 2)) 1)) r1 (q_w τ20 (q_r (τ20.1 a0 2)) 11 (.int (Int32.ofInt (0)))) r21 τ21) :
    p_133 (a0) σ (.inl r21) τ21 := by
  rintro rfl A nf nt nx n Ms K
  have q0 := K.1.q
  refine fun i4 e4 l4 => ?_
  have hc := K.2.2.2.1
  simp only [q0.2.1] at g1
  obtain ⟨rfl, gi⟩ := g1
  have xi := gi A i4 K.2.1 e4 l4
  rw [xi] at h2
  have d1 := K.2.1.k hk_1
  have w8 := K.2.1.p (hp_s (k := 8) (by omega) (by omega))
  refine ⟨fun w => absurd (by rw [w]; rfl) h2, fun F e l => ?_⟩
  simp only [q0.2.1, w8] at h7
  rw [xi, e] at g12
  simp only [q0.2.1, d1] at g12
  obtain ⟨rfl, g3⟩ := g12
  have x3 := g3 8 A nf rfl K.2.1 hc.1 hc.2.1 F rfl l
  simp only [q0.2.1, x3, w8] at h13
  obtain ⟨rfl, z, -⟩ := g18
  refine ⟨fun q => absurd ⟨by omega, by omega⟩ q, fun _ => ?_⟩
  rw [q0.2.1, q0.2.2.2.2] at g19
  have R := K.kp g19
  have qs := (R.sk K.1).q
  have v1 := R.2.1.k hk_1
  have v8 := R.2.1.p (hp_s (k := 8) (by omega) (by omega))
  simp only [qs.2.1, v1, v8, xi, e] at g20
  obtain ⟨t1, t2⟩ := g20 8 A nf rfl R.2.1 hc.1 hc.2.1 F rfl l
  have T1 := R.hs t1 t2
  have qt := (T1.sk K.1).q
  have T2 := T1.hs (hHF.w (hp_s (b := 8) (k := 8) (by omega) (by omega))) (T1.2.1.ww (v := Int32.ofInt 0) (hp_s (k := 8) (by omega) (by omega)))
  have qu := (T2.sk K.1).q
  have d3 := T2.2.1.k hk_1
  simp only [qt.2.1, qu.2.1, d3, xi, e] at g21
  obtain ⟨rfl, g6⟩ := g21
  have l6 : F < 6 := by have := hc.2.1; omega
  have x6 := g6 8 _ nf rfl T2.2.1 (by rw [aU_ne (by omega), aU_ne (by omega)]; exact hc.1) hc.2.1 F rfl l
  rw [x6, aU_ne (by omega), aU_at]
  exact ⟨rfl, T2⟩
theorem sp_133_efffx4_ (a0 : Nat) (σ : zSg) (τ1 : zSg) (r1 : Int32) (τ12 : zSg) (r12 : Int32) (τ18 : zSg) (g1 : p_27 (q_r (σ.1 a0 2)) σ r1 τ1) (h2 : r1.toInt ≠ (-1 : Int)) (h7 : (q_i (τ1.1 (q_r (τ1.1 a0 2)) 11)).toInt > (0 : Int)) (g12 : p_16 (q_r (τ1.1 (q_r (τ1.1 a0 2)) 1)) r1 τ1 r12 τ12) (h13 : r12.toInt ≥ (q_i (τ12.1 (q_r (τ12.1 a0 2)) 11)).toInt) (g18 : p_172 a0 (Int32.ofInt (1)) τ12 (.inr 4) τ18) :
    p_133 (a0) σ (.inr 4) τ18 := by
  rintro rfl A nf nt nx n Ms K
  have q0 := K.1.q
  refine fun i4 e4 l4 => ?_
  have hc := K.2.2.2.1
  simp only [q0.2.1] at g1
  obtain ⟨rfl, gi⟩ := g1
  have xi := gi A i4 K.2.1 e4 l4
  rw [xi] at h2
  have d1 := K.2.1.k hk_1
  have w8 := K.2.1.p (hp_s (k := 8) (by omega) (by omega))
  refine ⟨fun w => absurd (by rw [w]; rfl) h2, fun F e l => ?_⟩
  simp only [q0.2.1, w8] at h7
  rw [xi, e] at g12
  simp only [q0.2.1, d1] at g12
  obtain ⟨rfl, g3⟩ := g12
  have x3 := g3 8 A nf rfl K.2.1 hc.1 hc.2.1 F rfl l
  simp only [q0.2.1, x3, w8] at h13
  obtain ⟨rfl, -, z⟩ := g18
  exact absurd (z rfl) (by decide)
noncomputable def qP_133 : zPp := fun as σ o σ' => match as with
  | [a0] => (∃ r, o = .inl (some (.int r)) ∧ p_133 (q_r a0) σ (.inl r) σ') ∨ (o = .inr 4 ∧ p_133 (q_r a0) σ (.inr 4) σ')
  | _ => True
set_option maxRecDepth 100000 in
theorem sp_133 {sx : zX} (S27 : zEe sx 27 1 qP_27) (S172 : zEe sx 172 2 qP_172) (S62 : zEe sx 62 2 qP_62) (S17 : zEe sx 17 3 qP_17) (S16 : zEe sx 16 2 qP_16) : zEe sx 133 1 qP_133 := by
  refine zfle zJ_133 (sps := [(27, 1, qP_27), (172, 2, qP_172), (62, 2, qP_62), (17, 3, qP_17), (16, 2, qP_16)]) (fun q hq => by
    simp only [List.mem_cons, List.not_mem_nil, or_false] at hq
    rcases hq with rfl | rfl | rfl | rfl | rfl
    · exact S27
    · exact S172
    · exact S62
    · exact S17
    · exact S16) (fun as σ hl => ?_)
  match as, hl with
  | [a0], _ =>
  refine ⟨[], 400, ?_, ?_⟩
  · exact fun q hq => absurd hq List.not_mem_nil
  · refine fun o1 τ1 g1 => ?_
    obtain ⟨r1, rfl, g1⟩ := g1
    refine And.intro (fun h2 => ?_) (fun h2 => ?_)
    · refine fun o3 τ3 g3 => ?_
      rcases g3 with ⟨rfl, g3⟩ | ⟨rfl, g3⟩
      · refine fun o4 τ4 g4 => ?_
        obtain ⟨rfl, g4⟩ := g4
        refine fun o5 τ5 g5 => ?_
        obtain ⟨rfl, g5⟩ := g5
        refine fun o6 τ6 g6 => ?_
        obtain ⟨r6, rfl, g6⟩ := g6
        exact Or.inl ⟨_, rfl, sp_133_etn (q_r a0) σ τ1 r1 τ3 τ4 τ5 τ6 r6 g1 (cm0t h2) g3 g4 g5 g6⟩
      · exact Or.inr (⟨rfl, sp_133_etx4_ (q_r a0) σ τ1 r1 τ3 g1 (cm0t h2) g3⟩)
    · refine And.intro (fun h7 => ?_) (fun h7 => ?_)
      · refine fun o8 τ8 g8 => ?_
        rcases g8 with ⟨rfl, g8⟩ | ⟨rfl, g8⟩
        · refine fun o9 τ9 g9 => ?_
          obtain ⟨rfl, g9⟩ := g9
          refine fun o10 τ10 g10 => ?_
          obtain ⟨rfl, g10⟩ := g10
          refine fun o11 τ11 g11 => ?_
          obtain ⟨r11, rfl, g11⟩ := g11
          exact Or.inl ⟨_, rfl, sp_133_eftn (q_r a0) σ τ1 r1 τ8 τ9 τ10 τ11 r11 g1 (cm0f h2) (cm5t h7) g8 g9 g10 g11⟩
        · exact Or.inr (⟨rfl, sp_133_eftx4_ (q_r a0) σ τ1 r1 τ8 g1 (cm0f h2) (cm5t h7) g8⟩)
      · refine fun o12 τ12 g12 => ?_
        obtain ⟨r12, rfl, g12⟩ := g12
        refine And.intro (fun h13 => ?_) (fun h13 => ?_)
        · refine fun o14 τ14 g14 => ?_
          rcases g14 with ⟨rfl, g14⟩ | ⟨rfl, g14⟩
          · refine fun o15 τ15 g15 => ?_
            obtain ⟨rfl, g15⟩ := g15
            refine fun o16 τ16 g16 => ?_
            obtain ⟨rfl, g16⟩ := g16
            refine fun o17 τ17 g17 => ?_
            obtain ⟨r17, rfl, g17⟩ := g17
            exact Or.inl ⟨_, rfl, sp_133_efftn (q_r a0) σ τ1 r1 τ12 r12 τ14 τ15 τ16 τ17 r17 g1 (cm0f h2) (cm5f h7) g12 (cm2t h13) g14 g15 g16 g17⟩
          · exact Or.inr (⟨rfl, sp_133_efftx4_ (q_r a0) σ τ1 r1 τ12 r12 τ14 g1 (cm0f h2) (cm5f h7) g12 (cm2t h13) g14⟩)
        · refine fun o18 τ18 g18 => ?_
          rcases g18 with ⟨rfl, g18⟩ | ⟨rfl, g18⟩
          · refine fun o19 τ19 g19 => ?_
            obtain ⟨rfl, g19⟩ := g19
            refine fun o20 τ20 g20 => ?_
            obtain ⟨rfl, g20⟩ := g20
            refine fun o21 τ21 g21 => ?_
            obtain ⟨r21, rfl, g21⟩ := g21
            exact Or.inl ⟨_, rfl, sp_133_efffn (q_r a0) σ τ1 r1 τ12 r12 τ18 τ19 τ20 τ21 r21 g1 (cm0f h2) (cm5f h7) g12 (cm2f h13) g18 g19 g20 g21⟩
          · exact Or.inr (⟨rfl, sp_133_efffx4_ (q_r a0) σ τ1 r1 τ12 r12 τ18 g1 (cm0f h2) (cm5f h7) g12 (cm2f h13) g18⟩)
end
section
/-! the reference's acts, exact; printed with wip/gen/gen_de.py -/
/-- nothing thrown yet; behind an act was remembered -/
noncomputable def r0 (σ : zSg) : zSg := q_w σ 205 0 (.int (Int32.ofInt 0))
noncomputable def rTh (σ : zSg) (c : Int) : zSg := q_w σ 205 0 (.int (Int32.ofInt c))
noncomputable def rY (σ : zSg) (N : Nat) : zSg := rCy (rRm (r0 σ) N) 206 210 0 (388 * rRn N) 388
noncomputable def rJ (σ : zSg) (A : Nat → Int32) (N : Nat) : Prop := rSk σ ∧ rW σ A ∧ σ.1 205 7 = .int (Int32.ofNat N) ∧ N ≤ 12
noncomputable def rAc (σ σ' : zSg) (B : Nat → Int32) (N : Nat) : Prop := σ'.2 = σ.2 ∧ (∀ c k, ¬ (c = 206 ∧ k < 388) → σ'.1 c k = (rY σ N).1 c k) ∧ rW σ' B
section RAC
variable {σ τ : zSg} {A B : Nat → Int32} {N : Nat}
theorem r0_T {c : Int} : q_w (r0 σ) 205 0 (.int (Int32.ofInt c)) = rTh σ c := q_w_w
theorem rJ.w (K : rJ σ A N) : rW (r0 σ) A := K.2.1.el (by omega)
theorem rJ.k (K : rJ σ A N) : rSk (r0 σ) := K.1.w (Or.inl rfl)
theorem rRm_2 {τ : zSg} : (rRm τ N).2 = τ.2 := by
  unfold rRm
  split <;> rfl
theorem rRm_W {τ : zSg} (K : rW τ A) : rW (rRm τ N) A := by
  unfold rRm
  split
  · exact ⟨by rw [rCy_ne (fun q => by omega)]; exact K.1, fun k hk => by rw [rCy_ne (fun q => by omega)]; exact K.2 k hk⟩
  · exact K.el (by omega)
theorem rJ.rm (K : rJ σ A N) (G : p_182 205 (r0 σ) τ) : rAc σ τ A N ∧ rSk τ := by
  have h7 : (r0 σ).1 205 7 = .int (Int32.ofNat N) := by
    show (q_w σ 205 0 _).1 205 7 = _
    rw [q_w_ne (fun _ q => by omega)]
    exact K.2.2.1
  have e := G rfl K.k N h7 K.2.2.2
  subst e
  have w := rRm_W (N := N) K.w
  exact ⟨⟨rRm_2, fun c k _ => rfl, ⟨by rw [rCy_ne (fun q => by omega)]; exact w.1, fun k hk => by rw [rCy_ne (fun q => by omega)]; exact w.2 k hk⟩⟩, (rRm_k K.k).cy (by decide)⟩
theorem rAc.w {k : Nat} {v : Int32} (R : rAc σ τ B N) (hk : k < 388) : rAc σ (q_w τ 206 k (.int v)) (aU B k v) N := ⟨R.1, fun c i q => by rw [q_w_ne (fun e1 e2 => q ⟨e1, by omega⟩)]; exact R.2.1 c i q, R.2.2.ww⟩
end RAC
theorem zJ_261 : zJ3 261 z_m261 z_c261 z_h261 := ⟨rfl, rfl, rfl⟩
noncomputable def p_261 (a : Nat) (σ : zSg) (r : Int32) (σ' : zSg) : Prop := a = 205 → ∀ A N, rJ σ A N → r = A 7 ∧ rAc σ σ' (aU A 7 (Int32.ofInt 0)) N
theorem sp_261_e (a0 : Nat) (σ : zSg) (τ1 : zSg) (g1 : p_182 a0 (q_w σ a0 0 (.int (Int32.ofInt (0)))) τ1) (h2 : 0 ≤ (Int32.ofInt (7)).toInt ∧ (Int32.ofInt (7)).toInt < (τ1.2.1 (q_r (τ1.1 a0 1)) : Int)) (h3 : 0 ≤ (Int32.ofInt (7)).toInt ∧ (Int32.ofInt (7)).toInt < (τ1.2.1 (q_r (τ1.1 a0 1)) : Int)) :
    p_261 (a0) σ (q_i (τ1.1 (q_r (τ1.1 a0 1)) (Int32.ofInt (7)).toNatClampNeg)) (q_w τ1 (q_r (τ1.1 a0 1)) (Int32.ofInt (7)).toNatClampNeg (.int (Int32.ofInt (0)))) := by
  rintro rfl A N K
  have w0 := K.w
  obtain ⟨R, ks⟩ := K.rm g1
  have z7 : (Int32.ofInt 7).toNatClampNeg = 7 := rfl
  have q1 := R.2.2.q
  have i7 := R.2.2.i (k := 7) (by omega)
  simp only [q1, z7, i7]
  exact ⟨trivial, R.w (by omega)⟩
noncomputable def qP_261 : zPp := fun as σ o σ' => match as with
  | [a0] => ∃ r, o = .inl (some (.int r)) ∧ p_261 (q_r a0) σ r σ'
  | _ => True
set_option maxRecDepth 100000 in
theorem sp_261 {sx : zX} (S182 : zEe sx 182 1 qP_182) : zEe sx 261 1 qP_261 := by
  refine zfle zJ_261 (sps := [(182, 1, qP_182)]) (fun q hq => by
    simp only [List.mem_cons, List.not_mem_nil, or_false] at hq
    rcases hq with rfl
    · exact S182) (fun as σ hl => ?_)
  match as, hl with
  | [a0], _ =>
  refine ⟨[], 400, ?_, ?_⟩
  · exact fun q hq => absurd hq List.not_mem_nil
  · refine fun o1 τ1 g1 => ?_
    obtain ⟨rfl, g1⟩ := g1
    refine fun h2 => ?_
    refine fun h3 => ?_
    exact ⟨_, rfl, sp_261_e (q_r a0) σ τ1 g1 (q_inp h2) (q_inp h3)⟩
theorem zJ_256 : zJ3 256 z_m256 z_c256 z_h256 := ⟨rfl, rfl, rfl⟩
noncomputable def p_256 (a : Nat) (h : Int32) (σ : zSg) (r : Int32) (σ' : zSg) : Prop := a = 205 → ∀ A N, rJ σ A N → (¬ (0 ≤ h.toInt ∧ h.toInt < 24) → r = Int32.ofInt 0 ∧ σ' = rTh σ 1) ∧ (∀ x, h = Int32.ofNat x → x < 24 → (A (16 + x) = Int32.ofInt (-1) → r = Int32.ofInt 0 ∧ σ' = rTh σ 2) ∧ (A (16 + x) ≠ Int32.ofInt (-1) → r = A (16 + x) ∧ rAc σ σ' (aU A (16 + x) (Int32.ofInt (-1))) N))
theorem sp_256_et (a0 : Nat) (a1 : Int32) (σ : zSg) (τ1 : zSg) (r1 : Int32) (τ2 : zSg) (r2 : Int32) (g1 : p_197 a1 (q_w σ a0 0 (.int (Int32.ofInt (0)))) r1 τ1) (g2 : p_176 a0 r1 (Int32.ofInt (1)) τ1 r2 τ2) (h3 : r2.toInt ≠ (0 : Int)) :
    p_256 (a0) (a1) σ (Int32.ofInt (0)) τ2 := by
  rintro rfl A N K
  have w0 := K.w
  obtain ⟨e0, e1⟩ := g1
  have e0 : τ1 = r0 σ := e0
  subst e0
  obtain ⟨x2, y2, n2⟩ := g2
  rw [x2] at h3
  have m2 := y2 h3
  subst m2
  exact ⟨fun _ => ⟨rfl, r0_T⟩, fun x e l => absurd (by rw [e, o32 (by omega)]; omega) (e1.mp h3)⟩
theorem sp_256_eftt (a0 : Nat) (a1 : Int32) (σ : zSg) (τ1 : zSg) (r1 : Int32) (τ2 : zSg) (r2 : Int32) (τ4 : zSg) (r4 : Int32) (τ6 : zSg) (r6 : Int32) (τ8 : zSg) (τ9 : zSg) (r9 : Int32) (g1 : p_197 a1 (q_w σ a0 0 (.int (Int32.ofInt (0)))) r1 τ1) (g2 : p_176 a0 r1 (Int32.ofInt (1)) τ1 r2 τ2) (h3 : r2.toInt = (0 : Int)) (g4 : p_186 a0 a1 τ2 r4 τ4) (h5 : r4.toInt ≠ (-1 : Int)) (g6 : p_176 a0 (Int32.ofInt (0)) (Int32.ofInt (2)) τ4 r6 τ6) (h7 : r6.toInt = (0 : Int)) (g8 : p_182 a0 τ6 τ8) (g9 : p_186 a0 a1 τ8 r9 τ9) (h10 : 0 ≤ ((Int32.ofInt (16)) + a1).toInt ∧ ((Int32.ofInt (16)) + a1).toInt < (τ9.2.1 (q_r (τ9.1 a0 1)) : Int)) :
    p_256 (a0) (a1) σ r9 (q_w τ9 (q_r (τ9.1 a0 1)) ((Int32.ofInt (16)) + a1).toNatClampNeg (.int (Int32.ofInt (-1)))) := by
  rintro rfl A N K
  have w0 := K.w
  obtain ⟨e0, e1⟩ := g1
  have e0 : τ1 = r0 σ := e0
  subst e0
  obtain ⟨x2, y2, n2⟩ := g2
  rw [x2] at h3
  have m2 := n2 h3
  subst m2
  have u : 0 ≤ a1.toInt ∧ a1.toInt < 24 := Decidable.byContradiction fun w => e1.mpr w h3
  refine ⟨fun w => absurd u w, fun x e l => ?_⟩
  subst e
  obtain ⟨e3, g3⟩ := g4
  subst e3
  have x3 := g3 rfl A x w0 rfl l
  rw [x3] at h5
  obtain ⟨x4, y4, n4⟩ := g6
  rw [x4] at h7
  have m4 := n4 rfl
  subst m4
  refine ⟨fun w => absurd (by rw [w]; rfl) h5, fun _ => ?_⟩
  obtain ⟨R, ks⟩ := K.rm g8
  obtain ⟨e6, g6⟩ := g9
  subst e6
  have x6 := g6 rfl A x R.2.2 rfl l
  simp only [R.2.2.q, h16 l]
  exact ⟨x6, R.w (by omega)⟩
theorem sp_256_eftf (a0 : Nat) (a1 : Int32) (σ : zSg) (τ1 : zSg) (r1 : Int32) (τ2 : zSg) (r2 : Int32) (τ4 : zSg) (r4 : Int32) (τ6 : zSg) (r6 : Int32) (g1 : p_197 a1 (q_w σ a0 0 (.int (Int32.ofInt (0)))) r1 τ1) (g2 : p_176 a0 r1 (Int32.ofInt (1)) τ1 r2 τ2) (h3 : r2.toInt = (0 : Int)) (g4 : p_186 a0 a1 τ2 r4 τ4) (h5 : r4.toInt ≠ (-1 : Int)) (g6 : p_176 a0 (Int32.ofInt (0)) (Int32.ofInt (2)) τ4 r6 τ6) (h7 : r6.toInt ≠ (0 : Int)) :
    p_256 (a0) (a1) σ (Int32.ofInt (0)) τ6 := by
  rintro rfl A N K
  have w0 := K.w
  obtain ⟨e0, e1⟩ := g1
  have e0 : τ1 = r0 σ := e0
  subst e0
  obtain ⟨x2, y2, n2⟩ := g2
  rw [x2] at h3
  have m2 := n2 h3
  subst m2
  have u : 0 ≤ a1.toInt ∧ a1.toInt < 24 := Decidable.byContradiction fun w => e1.mpr w h3
  refine ⟨fun w => absurd u w, fun x e l => ?_⟩
  subst e
  obtain ⟨e3, g3⟩ := g4
  subst e3
  have x3 := g3 rfl A x w0 rfl l
  rw [x3] at h5
  obtain ⟨x4, y4, n4⟩ := g6
  rw [x4] at h7
  exact absurd rfl h7
theorem sp_256_efft (a0 : Nat) (a1 : Int32) (σ : zSg) (τ1 : zSg) (r1 : Int32) (τ2 : zSg) (r2 : Int32) (τ4 : zSg) (r4 : Int32) (τ11 : zSg) (r11 : Int32) (τ13 : zSg) (τ14 : zSg) (r14 : Int32) (g1 : p_197 a1 (q_w σ a0 0 (.int (Int32.ofInt (0)))) r1 τ1) (g2 : p_176 a0 r1 (Int32.ofInt (1)) τ1 r2 τ2) (h3 : r2.toInt = (0 : Int)) (g4 : p_186 a0 a1 τ2 r4 τ4) (h5 : r4.toInt = (-1 : Int)) (g11 : p_176 a0 (Int32.ofInt (1)) (Int32.ofInt (2)) τ4 r11 τ11) (h12 : r11.toInt = (0 : Int)) (g13 : p_182 a0 τ11 τ13) (g14 : p_186 a0 a1 τ13 r14 τ14) (h15 : 0 ≤ ((Int32.ofInt (16)) + a1).toInt ∧ ((Int32.ofInt (16)) + a1).toInt < (τ14.2.1 (q_r (τ14.1 a0 1)) : Int)) :
    p_256 (a0) (a1) σ r14 (q_w τ14 (q_r (τ14.1 a0 1)) ((Int32.ofInt (16)) + a1).toNatClampNeg (.int (Int32.ofInt (-1)))) := by
  rintro rfl A N K
  have w0 := K.w
  obtain ⟨e0, e1⟩ := g1
  have e0 : τ1 = r0 σ := e0
  subst e0
  obtain ⟨x2, y2, n2⟩ := g2
  rw [x2] at h3
  have m2 := n2 h3
  subst m2
  have u : 0 ≤ a1.toInt ∧ a1.toInt < 24 := Decidable.byContradiction fun w => e1.mpr w h3
  refine ⟨fun w => absurd u w, fun x e l => ?_⟩
  subst e
  obtain ⟨e3, g3⟩ := g4
  subst e3
  have x3 := g3 rfl A x w0 rfl l
  rw [x3] at h5
  obtain ⟨x4, y4, n4⟩ := g11
  rw [x4] at h12
  exact absurd h12 (by decide)
theorem sp_256_efff (a0 : Nat) (a1 : Int32) (σ : zSg) (τ1 : zSg) (r1 : Int32) (τ2 : zSg) (r2 : Int32) (τ4 : zSg) (r4 : Int32) (τ11 : zSg) (r11 : Int32) (g1 : p_197 a1 (q_w σ a0 0 (.int (Int32.ofInt (0)))) r1 τ1) (g2 : p_176 a0 r1 (Int32.ofInt (1)) τ1 r2 τ2) (h3 : r2.toInt = (0 : Int)) (g4 : p_186 a0 a1 τ2 r4 τ4) (h5 : r4.toInt = (-1 : Int)) (g11 : p_176 a0 (Int32.ofInt (1)) (Int32.ofInt (2)) τ4 r11 τ11) (h12 : r11.toInt ≠ (0 : Int)) :
    p_256 (a0) (a1) σ (Int32.ofInt (0)) τ11 := by
  rintro rfl A N K
  have w0 := K.w
  obtain ⟨e0, e1⟩ := g1
  have e0 : τ1 = r0 σ := e0
  subst e0
  obtain ⟨x2, y2, n2⟩ := g2
  rw [x2] at h3
  have m2 := n2 h3
  subst m2
  have u : 0 ≤ a1.toInt ∧ a1.toInt < 24 := Decidable.byContradiction fun w => e1.mpr w h3
  refine ⟨fun w => absurd u w, fun x e l => ?_⟩
  subst e
  obtain ⟨e3, g3⟩ := g4
  subst e3
  have x3 := g3 rfl A x w0 rfl l
  rw [x3] at h5
  obtain ⟨x4, y4, n4⟩ := g11
  rw [x4] at h12
  have m4 := y4 (by decide)
  subst m4
  exact ⟨fun _ => ⟨rfl, r0_T⟩, fun w => absurd (Int32.toInt_inj.mp h5) w⟩
noncomputable def qP_256 : zPp := fun as σ o σ' => match as with
  | [a0, a1] => ∃ r, o = .inl (some (.int r)) ∧ p_256 (q_r a0) (q_i a1) σ r σ'
  | _ => True
set_option maxRecDepth 100000 in
theorem sp_256 {sx : zX} (S197 : zEe sx 197 1 qP_197) (S176 : zEe sx 176 3 qP_176) (S186 : zEe sx 186 2 qP_186) (S182 : zEe sx 182 1 qP_182) : zEe sx 256 2 qP_256 := by
  refine zfle zJ_256 (sps := [(197, 1, qP_197), (176, 3, qP_176), (186, 2, qP_186), (182, 1, qP_182)]) (fun q hq => by
    simp only [List.mem_cons, List.not_mem_nil, or_false] at hq
    rcases hq with rfl | rfl | rfl | rfl
    · exact S197
    · exact S176
    · exact S186
    · exact S182) (fun as σ hl => ?_)
  match as, hl with
  | [a0, a1], _ =>
  refine ⟨[], 400, ?_, ?_⟩
  · exact fun q hq => absurd hq List.not_mem_nil
  · refine fun o1 τ1 g1 => ?_
    obtain ⟨r1, rfl, g1⟩ := g1
    refine fun o2 τ2 g2 => ?_
    obtain ⟨r2, rfl, g2⟩ := g2
    refine And.intro (fun h3 => ?_) (fun h3 => ?_)
    · exact ⟨_, rfl, sp_256_et (q_r a0) (q_i a1) σ τ1 r1 τ2 r2 g1 g2 (cm1t h3)⟩
    · refine fun o4 τ4 g4 => ?_
      obtain ⟨r4, rfl, g4⟩ := g4
      refine And.intro (fun h5 => ?_) (fun h5 => ?_)
      · refine fun o6 τ6 g6 => ?_
        obtain ⟨r6, rfl, g6⟩ := g6
        refine And.intro (fun h7 => ?_) (fun h7 => ?_)
        · refine fun o8 τ8 g8 => ?_
          obtain ⟨rfl, g8⟩ := g8
          refine fun o9 τ9 g9 => ?_
          obtain ⟨r9, rfl, g9⟩ := g9
          refine fun h10 => ?_
          exact ⟨_, rfl, sp_256_eftt (q_r a0) (q_i a1) σ τ1 r1 τ2 r2 τ4 r4 τ6 r6 τ8 τ9 r9 g1 g2 (cm1f h3) g4 (cm1t h5) g6 (cm0t h7) g8 g9 (q_inp h10)⟩
        · exact ⟨_, rfl, sp_256_eftf (q_r a0) (q_i a1) σ τ1 r1 τ2 r2 τ4 r4 τ6 r6 g1 g2 (cm1f h3) g4 (cm1t h5) g6 (cm0f h7)⟩
      · refine fun o11 τ11 g11 => ?_
        obtain ⟨r11, rfl, g11⟩ := g11
        refine And.intro (fun h12 => ?_) (fun h12 => ?_)
        · refine fun o13 τ13 g13 => ?_
          obtain ⟨rfl, g13⟩ := g13
          refine fun o14 τ14 g14 => ?_
          obtain ⟨r14, rfl, g14⟩ := g14
          refine fun h15 => ?_
          exact ⟨_, rfl, sp_256_efft (q_r a0) (q_i a1) σ τ1 r1 τ2 r2 τ4 r4 τ11 r11 τ13 τ14 r14 g1 g2 (cm1f h3) g4 (cm1f h5) g11 (cm0t h12) g13 g14 (q_inp h15)⟩
        · exact ⟨_, rfl, sp_256_efff (q_r a0) (q_i a1) σ τ1 r1 τ2 r2 τ4 r4 τ11 r11 g1 g2 (cm1f h3) g4 (cm1f h5) g11 (cm0f h12)⟩
theorem zJ_309 : zJ3 309 z_m309 z_c309 z_h309 := ⟨rfl, rfl, rfl⟩
noncomputable def p_309 (a : Nat) (n : Int32) (σ : zSg) (r : Int32) (σ' : zSg) : Prop := a = 205 → ∀ A, rW σ A → r = A 15 ∧ σ' = q_w (r0 σ) 206 15 (.int n)
theorem sp_309_e (a0 : Nat) (a1 : Int32) (σ : zSg) (h1 : 0 ≤ (Int32.ofInt (15)).toInt ∧ (Int32.ofInt (15)).toInt < ((q_w σ a0 0 (.int (Int32.ofInt (0)))).2.1 (q_r ((q_w σ a0 0 (.int (Int32.ofInt (0)))).1 a0 1)) : Int)) (h2 : 0 ≤ (Int32.ofInt (15)).toInt ∧ (Int32.ofInt (15)).toInt < ((q_w σ a0 0 (.int (Int32.ofInt (0)))).2.1 (q_r ((q_w σ a0 0 (.int (Int32.ofInt (0)))).1 a0 1)) : Int)) :
    p_309 (a0) (a1) σ (q_i ((q_w σ a0 0 (.int (Int32.ofInt (0)))).1 (q_r ((q_w σ a0 0 (.int (Int32.ofInt (0)))).1 a0 1)) (Int32.ofInt (15)).toNatClampNeg)) (q_w (q_w σ a0 0 (.int (Int32.ofInt (0)))) (q_r ((q_w σ a0 0 (.int (Int32.ofInt (0)))).1 a0 1)) (Int32.ofInt (15)).toNatClampNeg (.int a1)) := by
  rintro rfl A K
  have w0 : rW (q_w σ 205 0 (.int (Int32.ofInt 0))) A := K.el (by omega)
  have z15 : (Int32.ofInt 15).toNatClampNeg = 15 := rfl
  have i15 := w0.i (k := 15) (by omega)
  simp only [w0.q, z15, i15]
  exact ⟨trivial, rfl⟩
noncomputable def qP_309 : zPp := fun as σ o σ' => match as with
  | [a0, a1] => ∃ r, o = .inl (some (.int r)) ∧ p_309 (q_r a0) (q_i a1) σ r σ'
  | _ => True
set_option maxRecDepth 100000 in
theorem sp_309 {sx : zX}  : zEe sx 309 2 qP_309 := by
  refine zfle zJ_309 (sps := []) (fun q hq => absurd hq List.not_mem_nil) (fun as σ hl => ?_)
  match as, hl with
  | [a0, a1], _ =>
  refine ⟨[], 400, ?_, ?_⟩
  · exact fun q hq => absurd hq List.not_mem_nil
  · refine fun h1 => ?_
    refine fun h2 => ?_
    exact ⟨_, rfl, sp_309_e (q_r a0) (q_i a1) σ (q_inp h1) (q_inp h2)⟩
theorem zJ_254 : zJ3 254 z_m254 z_c254 z_h254 := ⟨rfl, rfl, rfl⟩
noncomputable def p_254 (a : Nat) (h o : Int32) (σ σ' : zSg) : Prop := a = 205 → ∀ A x y, rW σ A → h = Int32.ofNat x → x < 24 → o = Int32.ofNat y → y < 24 → σ' = q_w (q_w σ 206 (16 + x) (.int (A (16 + y)))) 206 (16 + y) (.int (A (16 + x)))
theorem sp_254_e (a0 : Nat) (a1 : Int32) (a2 : Int32) (σ : zSg) (τ1 : zSg) (r1 : Int32) (τ2 : zSg) (r2 : Int32) (g1 : p_186 a0 a1 σ r1 τ1) (g2 : p_186 a0 a2 τ1 r2 τ2) (h3 : 0 ≤ ((Int32.ofInt (16)) + a1).toInt ∧ ((Int32.ofInt (16)) + a1).toInt < (τ2.2.1 (q_r (τ1.1 a0 1)) : Int)) (h4 : 0 ≤ ((Int32.ofInt (16)) + a2).toInt ∧ ((Int32.ofInt (16)) + a2).toInt < ((q_w τ2 (q_r (τ1.1 a0 1)) ((Int32.ofInt (16)) + a1).toNatClampNeg (.int r2)).2.1 (q_r ((q_w τ2 (q_r (τ1.1 a0 1)) ((Int32.ofInt (16)) + a1).toNatClampNeg (.int r2)).1 a0 1)) : Int)) :
    p_254 (a0) (a1) (a2) σ (q_w (q_w τ2 (q_r (τ1.1 a0 1)) ((Int32.ofInt (16)) + a1).toNatClampNeg (.int r2)) (q_r ((q_w τ2 (q_r (τ1.1 a0 1)) ((Int32.ofInt (16)) + a1).toNatClampNeg (.int r2)).1 a0 1)) ((Int32.ofInt (16)) + a2).toNatClampNeg (.int r1)) := by
  rintro rfl A x y K rfl l1 rfl l2
  obtain ⟨rfl, g1⟩ := g1
  have x1 := g1 rfl A x K rfl l1
  obtain ⟨rfl, g2⟩ := g2
  have x2 := g2 rfl A y K rfl l2
  have K1 := K.ww (k := 16 + x) (v := A (16 + y))
  simp only [K.q, h16 l1, h16 l2, x1, x2, K1.q]
noncomputable def qP_254 : zPp := fun as σ o σ' => match as with
  | [a0, a1, a2] => o = .inl none ∧ p_254 (q_r a0) (q_i a1) (q_i a2) σ σ'
  | _ => True
set_option maxRecDepth 100000 in
theorem sp_254 {sx : zX} (S186 : zEe sx 186 2 qP_186) : zEe sx 254 3 qP_254 := by
  refine zfle zJ_254 (sps := [(186, 2, qP_186)]) (fun q hq => by
    simp only [List.mem_cons, List.not_mem_nil, or_false] at hq
    rcases hq with rfl
    · exact S186) (fun as σ hl => ?_)
  match as, hl with
  | [a0, a1, a2], _ =>
  refine ⟨[], 400, ?_, ?_⟩
  · exact fun q hq => absurd hq List.not_mem_nil
  · refine fun o1 τ1 g1 => ?_
    obtain ⟨r1, rfl, g1⟩ := g1
    refine fun o2 τ2 g2 => ?_
    obtain ⟨r2, rfl, g2⟩ := g2
    refine fun h3 => ?_
    refine fun h4 => ?_
    exact ⟨rfl, sp_254_e (q_r a0) (q_i a1) (q_i a2) σ τ1 r1 τ2 r2 g1 g2 (q_inp h3) (q_inp h4)⟩
theorem zJ_253 : zJ3 253 z_m253 z_c253 z_h253 := ⟨rfl, rfl, rfl⟩
noncomputable def p_253 (a : Nat) (h f : Int32) (σ : zSg) (r : Int32) (σ' : zSg) : Prop := a = 205 → ∀ A N nf, rJ σ A N → A 0 = Int32.ofNat nf → nf ≤ 6 → (¬ ((0 ≤ h.toInt ∧ h.toInt < 24) ∧ (0 ≤ f.toInt ∧ f.toInt < (nf : Int))) → r = Int32.ofInt 0 ∧ σ' = rTh σ 1) ∧ (∀ x F, h = Int32.ofNat x → x < 24 → f = Int32.ofNat F → F < nf → (¬ (A (16 + x) = Int32.ofInt (-1) ∧ (A 12).toInt ≤ (A (40 + 4 * F)).toInt) → r = Int32.ofInt 0 ∧ σ' = rTh σ 2) ∧ ((A (16 + x) = Int32.ofInt (-1) ∧ (A 12).toInt ≤ (A (40 + 4 * F)).toInt) → r = A (40 + 4 * F) - A 12 ∧ rAc σ σ' (aU (aU A (40 + 4 * F) (A (40 + 4 * F) - A 12)) (16 + x) (Int32.ofNat F)) N))
theorem sp_253_et (a0 : Nat) (a1 : Int32) (a2 : Int32) (σ : zSg) (τ1 : zSg) (r1 : Int32) (g1 : p_197 a1 (q_w σ a0 0 (.int (Int32.ofInt (0)))) r1 τ1) (h2 : r1.toInt ≠ (0 : Int)) :
    p_253 (a0) (a1) (a2) σ (Int32.ofInt (0)) (q_w τ1 a0 0 (.int (Int32.ofInt (1)))) := by
  rintro rfl A N nf K u0 u6
  have w0 := K.w
  obtain ⟨e0, e1⟩ := g1
  have e0 : τ1 = r0 σ := e0
  subst e0
  exact ⟨fun _ => ⟨rfl, r0_T⟩, fun x F ex lx eF lF => absurd (by rw [ex, o32 (by omega)]; omega) (e1.mp h2)⟩
theorem sp_253_eftt (a0 : Nat) (a1 : Int32) (a2 : Int32) (σ : zSg) (τ1 : zSg) (r1 : Int32) (τ5 : zSg) (r5 : Int32) (τ9 : zSg) (r9 : Int32) (g1 : p_197 a1 (q_w σ a0 0 (.int (Int32.ofInt (0)))) r1 τ1) (h2 : r1.toInt = (0 : Int)) (g5 : p_195 a0 a2 τ1 r5 τ5) (h6 : r5.toInt = (0 : Int)) (g9 : p_186 a0 a1 τ5 r9 τ9) (h10 : r9.toInt ≠ (-1 : Int)) :
    p_253 (a0) (a1) (a2) σ (Int32.ofInt (0)) (q_w τ9 a0 0 (.int (Int32.ofInt (2)))) := by
  rintro rfl A N nf K u0 u6
  have w0 := K.w
  obtain ⟨e0, e1⟩ := g1
  have e0 : τ1 = r0 σ := e0
  subst e0
  obtain ⟨e2, g2⟩ := g5
  subst e2
  have f2 := g2 rfl A w0 nf u0 u6
  have u : 0 ≤ a1.toInt ∧ a1.toInt < 24 := Decidable.byContradiction fun w => e1.mpr w h2
  have u' : 0 ≤ a2.toInt ∧ a2.toInt < (nf : Int) := Decidable.byContradiction fun w => f2.mpr w h6
  refine ⟨fun w => absurd ⟨u, u'⟩ w, fun x F ex lx eF lF => ?_⟩
  subst ex
  subst eF
  have l6 : F < 6 := by omega
  obtain ⟨e3, g3⟩ := g9
  subst e3
  have x3 := g3 rfl A x w0 rfl lx
  rw [x3] at h10
  exact ⟨fun _ => ⟨rfl, r0_T⟩, fun q => absurd (by rw [q.1]; rfl) h10⟩
theorem sp_253_eftft (a0 : Nat) (a1 : Int32) (a2 : Int32) (σ : zSg) (τ1 : zSg) (r1 : Int32) (τ5 : zSg) (r5 : Int32) (τ9 : zSg) (r9 : Int32) (τ13 : zSg) (r13 : Int32) (τ18 : zSg) (τ19 : zSg) (r19 : Int32) (τ24 : zSg) (r24 : Int32) (g1 : p_197 a1 (q_w σ a0 0 (.int (Int32.ofInt (0)))) r1 τ1) (h2 : r1.toInt = (0 : Int)) (g5 : p_195 a0 a2 τ1 r5 τ5) (h6 : r5.toInt = (0 : Int)) (g9 : p_186 a0 a1 τ5 r9 τ9) (h10 : r9.toInt = (-1 : Int)) (g13 : p_190 a0 a2 (Int32.ofInt (0)) τ9 r13 τ13) (h14 : 0 ≤ (Int32.ofInt (12)).toInt ∧ (Int32.ofInt (12)).toInt < (τ13.2.1 (q_r (τ13.1 a0 1)) : Int)) (h15 : r13.toInt ≥ (q_i (τ13.1 (q_r (τ13.1 a0 1)) (Int32.ofInt (12)).toNatClampNeg)).toInt) (g18 : p_182 a0 τ13 τ18) (g19 : p_189 a2 (Int32.ofInt (0)) τ18 r19 τ19) (h20 : 0 ≤ r19.toInt ∧ r19.toInt < (τ19.2.1 (q_r (τ18.1 a0 1)) : Int)) (h21 : 0 ≤ (Int32.ofInt (12)).toInt ∧ (Int32.ofInt (12)).toInt < (τ19.2.1 (q_r (τ19.1 a0 1)) : Int)) (h22 : 0 ≤ r19.toInt ∧ r19.toInt < (τ19.2.1 (q_r (τ18.1 a0 1)) : Int)) (h23 : 0 ≤ ((Int32.ofInt (16)) + a1).toInt ∧ ((Int32.ofInt (16)) + a1).toInt < ((q_w τ19 (q_r (τ18.1 a0 1)) r19.toNatClampNeg (.int ((q_i (τ19.1 (q_r (τ18.1 a0 1)) r19.toNatClampNeg)) - (q_i (τ19.1 (q_r (τ19.1 a0 1)) (Int32.ofInt (12)).toNatClampNeg))))).2.1 (q_r ((q_w τ19 (q_r (τ18.1 a0 1)) r19.toNatClampNeg (.int ((q_i (τ19.1 (q_r (τ18.1 a0 1)) r19.toNatClampNeg)) - (q_i (τ19.1 (q_r (τ19.1 a0 1)) (Int32.ofInt (12)).toNatClampNeg))))).1 a0 1)) : Int)) (g24 : p_190 a0 a2 (Int32.ofInt (0)) (q_w (q_w τ19 (q_r (τ18.1 a0 1)) r19.toNatClampNeg (.int ((q_i (τ19.1 (q_r (τ18.1 a0 1)) r19.toNatClampNeg)) - (q_i (τ19.1 (q_r (τ19.1 a0 1)) (Int32.ofInt (12)).toNatClampNeg))))) (q_r ((q_w τ19 (q_r (τ18.1 a0 1)) r19.toNatClampNeg (.int ((q_i (τ19.1 (q_r (τ18.1 a0 1)) r19.toNatClampNeg)) - (q_i (τ19.1 (q_r (τ19.1 a0 1)) (Int32.ofInt (12)).toNatClampNeg))))).1 a0 1)) ((Int32.ofInt (16)) + a1).toNatClampNeg (.int a2)) r24 τ24) :
    p_253 (a0) (a1) (a2) σ r24 τ24 := by
  rintro rfl A N nf K u0 u6
  have w0 := K.w
  obtain ⟨e0, e1⟩ := g1
  have e0 : τ1 = r0 σ := e0
  subst e0
  obtain ⟨e2, g2⟩ := g5
  subst e2
  have f2 := g2 rfl A w0 nf u0 u6
  have u : 0 ≤ a1.toInt ∧ a1.toInt < 24 := Decidable.byContradiction fun w => e1.mpr w h2
  have u' : 0 ≤ a2.toInt ∧ a2.toInt < (nf : Int) := Decidable.byContradiction fun w => f2.mpr w h6
  refine ⟨fun w => absurd ⟨u, u'⟩ w, fun x F ex lx eF lF => ?_⟩
  subst ex
  subst eF
  have l6 : F < 6 := by omega
  obtain ⟨e3, g3⟩ := g9
  subst e3
  have x3 := g3 rfl A x w0 rfl lx
  rw [x3] at h10
  obtain ⟨e4, g4⟩ := g13
  subst e4
  have x4 : r13 = A (40 + 4 * F) := g4 rfl A w0 F 0 rfl l6 rfl (by omega)
  have z12 : (Int32.ofInt 12).toNatClampNeg = 12 := rfl
  rw [x4, w0.q, z12, w0.i (k := 12) (by omega)] at h15
  refine ⟨fun q => absurd ⟨Int32.toInt_inj.mp h10, by omega⟩ q, fun _ => ?_⟩
  obtain ⟨R, ks⟩ := K.rm g18
  obtain ⟨e6, rfl⟩ := g19
  subst e6
  have R1 := R.w (k := 40 + 4 * F) (v := A (40 + 4 * F) - A 12) (by omega)
  have R2 := R1.w (k := 16 + x) (v := Int32.ofNat F) (by omega)
  simp only [R.2.2.q, at4_0 l6, z12, R.2.2.i (show 40 + 4 * F < 388 by omega), R.2.2.i (show 12 < 388 by omega), R1.2.2.q, h16 lx] at g24
  obtain ⟨e7, g7⟩ := g24
  subst e7
  have x7 : r24 = aU (aU A (40 + 4 * F) (A (40 + 4 * F) - A 12)) (16 + x) (Int32.ofNat F) (40 + 4 * F) := g7 rfl _ R2.2.2 F 0 rfl l6 rfl (by omega)
  rw [x7, aU_ne (by omega), aU_at]
  exact ⟨rfl, R2⟩
theorem sp_253_eftff (a0 : Nat) (a1 : Int32) (a2 : Int32) (σ : zSg) (τ1 : zSg) (r1 : Int32) (τ5 : zSg) (r5 : Int32) (τ9 : zSg) (r9 : Int32) (τ13 : zSg) (r13 : Int32) (g1 : p_197 a1 (q_w σ a0 0 (.int (Int32.ofInt (0)))) r1 τ1) (h2 : r1.toInt = (0 : Int)) (g5 : p_195 a0 a2 τ1 r5 τ5) (h6 : r5.toInt = (0 : Int)) (g9 : p_186 a0 a1 τ5 r9 τ9) (h10 : r9.toInt = (-1 : Int)) (g13 : p_190 a0 a2 (Int32.ofInt (0)) τ9 r13 τ13) (h14 : 0 ≤ (Int32.ofInt (12)).toInt ∧ (Int32.ofInt (12)).toInt < (τ13.2.1 (q_r (τ13.1 a0 1)) : Int)) (h15 : r13.toInt < (q_i (τ13.1 (q_r (τ13.1 a0 1)) (Int32.ofInt (12)).toNatClampNeg)).toInt) :
    p_253 (a0) (a1) (a2) σ (Int32.ofInt (0)) (q_w τ13 a0 0 (.int (Int32.ofInt (2)))) := by
  rintro rfl A N nf K u0 u6
  have w0 := K.w
  obtain ⟨e0, e1⟩ := g1
  have e0 : τ1 = r0 σ := e0
  subst e0
  obtain ⟨e2, g2⟩ := g5
  subst e2
  have f2 := g2 rfl A w0 nf u0 u6
  have u : 0 ≤ a1.toInt ∧ a1.toInt < 24 := Decidable.byContradiction fun w => e1.mpr w h2
  have u' : 0 ≤ a2.toInt ∧ a2.toInt < (nf : Int) := Decidable.byContradiction fun w => f2.mpr w h6
  refine ⟨fun w => absurd ⟨u, u'⟩ w, fun x F ex lx eF lF => ?_⟩
  subst ex
  subst eF
  have l6 : F < 6 := by omega
  obtain ⟨e3, g3⟩ := g9
  subst e3
  have x3 := g3 rfl A x w0 rfl lx
  rw [x3] at h10
  obtain ⟨e4, g4⟩ := g13
  subst e4
  have x4 : r13 = A (40 + 4 * F) := g4 rfl A w0 F 0 rfl l6 rfl (by omega)
  have z12 : (Int32.ofInt 12).toNatClampNeg = 12 := rfl
  rw [x4, w0.q, z12, w0.i (k := 12) (by omega)] at h15
  exact ⟨fun _ => ⟨rfl, r0_T⟩, fun q => absurd q.2 (by omega)⟩
theorem sp_253_eff (a0 : Nat) (a1 : Int32) (a2 : Int32) (σ : zSg) (τ1 : zSg) (r1 : Int32) (τ5 : zSg) (r5 : Int32) (g1 : p_197 a1 (q_w σ a0 0 (.int (Int32.ofInt (0)))) r1 τ1) (h2 : r1.toInt = (0 : Int)) (g5 : p_195 a0 a2 τ1 r5 τ5) (h6 : r5.toInt ≠ (0 : Int)) :
    p_253 (a0) (a1) (a2) σ (Int32.ofInt (0)) (q_w τ5 a0 0 (.int (Int32.ofInt (1)))) := by
  rintro rfl A N nf K u0 u6
  have w0 := K.w
  obtain ⟨e0, e1⟩ := g1
  have e0 : τ1 = r0 σ := e0
  subst e0
  obtain ⟨e2, g2⟩ := g5
  subst e2
  have f2 := g2 rfl A w0 nf u0 u6
  exact ⟨fun _ => ⟨rfl, r0_T⟩, fun x F ex lx eF lF => absurd (by rw [eF, o32 (by omega)]; omega) (f2.mp h6)⟩
noncomputable def qP_253 : zPp := fun as σ o σ' => match as with
  | [a0, a1, a2] => ∃ r, o = .inl (some (.int r)) ∧ p_253 (q_r a0) (q_i a1) (q_i a2) σ r σ'
  | _ => True
set_option maxRecDepth 100000 in
theorem sp_253 {sx : zX} (S197 : zEe sx 197 1 qP_197) (S176 : zEe sx 176 3 qP_176) (S195 : zEe sx 195 2 qP_195) (S186 : zEe sx 186 2 qP_186) (S190 : zEe sx 190 3 qP_190) (S182 : zEe sx 182 1 qP_182) (S189 : zEe sx 189 2 qP_189) : zEe sx 253 3 qP_253 := by
  refine zfle zJ_253 (sps := [(197, 1, qP_197), (176, 3, qP_176), (195, 2, qP_195), (186, 2, qP_186), (190, 3, qP_190), (182, 1, qP_182), (189, 2, qP_189)]) (fun q hq => by
    simp only [List.mem_cons, List.not_mem_nil, or_false] at hq
    rcases hq with rfl | rfl | rfl | rfl | rfl | rfl | rfl
    · exact S197
    · exact S176
    · exact S195
    · exact S186
    · exact S190
    · exact S182
    · exact S189) (fun as σ hl => ?_)
  match as, hl with
  | [a0, a1, a2], _ =>
  refine ⟨[], 400, ?_, ?_⟩
  · exact fun q hq => absurd hq List.not_mem_nil
  · refine fun o1 τ1 g1 => ?_
    obtain ⟨r1, rfl, g1⟩ := g1
    refine And.intro (fun h2 => ?_) (fun h2 => ?_)
    · refine fun o3 τ3 g3 => ?_
      obtain ⟨r3, rfl, rfl, y3, z3⟩ := g3
      have e3 := (y3 (by decide)).symm
      subst e3
      refine And.intro (fun _ => ?_) (fun h4 => absurd (show z_cmp 1 (Int32.ofInt (1)) 0 = false from h4) (by decide))
      exact ⟨_, rfl, sp_253_et (q_r a0) (q_i a1) (q_i a2) σ τ1 r1 g1 (cm1t h2)⟩
    · refine fun o5 τ5 g5 => ?_
      obtain ⟨r5, rfl, g5⟩ := g5
      refine And.intro (fun h6 => ?_) (fun h6 => ?_)
      · refine fun o7 τ7 g7 => ?_
        obtain ⟨r7, rfl, rfl, y7, z7⟩ := g7
        have e7 := (z7 rfl).symm
        subst e7
        refine And.intro (fun h8 => absurd (show z_cmp 1 (Int32.ofInt (0)) 0 = true from h8) (by decide)) (fun _ => ?_)
        refine fun o9 τ9 g9 => ?_
        obtain ⟨r9, rfl, g9⟩ := g9
        refine And.intro (fun h10 => ?_) (fun h10 => ?_)
        · refine fun o11 τ11 g11 => ?_
          obtain ⟨r11, rfl, rfl, y11, z11⟩ := g11
          have e11 := (y11 (by decide)).symm
          subst e11
          refine And.intro (fun h12 => absurd (show z_cmp 0 (Int32.ofInt (1)) 0 = true from h12) (by decide)) (fun _ => ?_)
          exact ⟨_, rfl, sp_253_eftt (q_r a0) (q_i a1) (q_i a2) σ τ1 r1 τ5 r5 τ9 r9 g1 (cm1f h2) g5 (cm0t h6) g9 (cm1t h10)⟩
        · refine fun o13 τ13 g13 => ?_
          obtain ⟨r13, rfl, g13⟩ := g13
          refine fun h14 => ?_
          refine And.intro (fun h15 => ?_) (fun h15 => ?_)
          · refine fun o16 τ16 g16 => ?_
            obtain ⟨r16, rfl, rfl, y16, z16⟩ := g16
            have e16 := (z16 rfl).symm
            subst e16
            refine And.intro (fun _ => ?_) (fun h17 => absurd (show z_cmp 0 (Int32.ofInt (0)) 0 = false from h17) (by decide))
            refine fun o18 τ18 g18 => ?_
            obtain ⟨rfl, g18⟩ := g18
            refine fun o19 τ19 g19 => ?_
            obtain ⟨r19, rfl, g19⟩ := g19
            refine fun h20 => ?_
            refine fun h21 => ?_
            refine fun h22 => ?_
            refine fun h23 => ?_
            refine fun o24 τ24 g24 => ?_
            obtain ⟨r24, rfl, g24⟩ := g24
            exact ⟨_, rfl, sp_253_eftft (q_r a0) (q_i a1) (q_i a2) σ τ1 r1 τ5 r5 τ9 r9 τ13 r13 τ18 τ19 r19 τ24 r24 g1 (cm1f h2) g5 (cm0t h6) g9 (cm1f h10) g13 (q_inp h14) (cm3t h15) g18 g19 (q_inp h20) (q_inp h21) (q_inp h22) (q_inp h23) g24⟩
          · refine fun o25 τ25 g25 => ?_
            obtain ⟨r25, rfl, rfl, y25, z25⟩ := g25
            have e25 := (y25 (by decide)).symm
            subst e25
            refine And.intro (fun h26 => absurd (show z_cmp 0 (Int32.ofInt (1)) 0 = true from h26) (by decide)) (fun _ => ?_)
            exact ⟨_, rfl, sp_253_eftff (q_r a0) (q_i a1) (q_i a2) σ τ1 r1 τ5 r5 τ9 r9 τ13 r13 g1 (cm1f h2) g5 (cm0t h6) g9 (cm1f h10) g13 (q_inp h14) (cm3f h15)⟩
      · refine fun o27 τ27 g27 => ?_
        obtain ⟨r27, rfl, rfl, y27, z27⟩ := g27
        have e27 := (y27 (by decide)).symm
        subst e27
        refine And.intro (fun _ => ?_) (fun h28 => absurd (show z_cmp 1 (Int32.ofInt (1)) 0 = false from h28) (by decide))
        exact ⟨_, rfl, sp_253_eff (q_r a0) (q_i a1) (q_i a2) σ τ1 r1 τ5 r5 g1 (cm1f h2) g5 (cm0f h6)⟩
theorem zJ_255 : zJ3 255 z_m255 z_c255 z_h255 := ⟨rfl, rfl, rfl⟩
noncomputable def p_255 (a : Nat) (h o : Int32) (σ : zSg) (r : Int32) (σ' : zSg) : Prop := a = 205 → ∀ A N, rJ σ A N → (¬ ((0 ≤ h.toInt ∧ h.toInt < 24) ∧ (0 ≤ o.toInt ∧ o.toInt < 24)) → r = Int32.ofInt 0 ∧ σ' = rTh σ 1) ∧ (∀ x y, h = Int32.ofNat x → x < 24 → o = Int32.ofNat y → y < 24 → (x = y → r = Int32.ofInt 0 ∧ σ' = rTh σ 2) ∧ (x ≠ y → (¬ (A (16 + x) ≠ Int32.ofInt (-1) ∧ A (16 + y) ≠ Int32.ofInt (-1) ∧ A (16 + x) ≠ A (16 + y)) → r = Int32.ofInt 0 ∧ σ' = rTh σ 3) ∧ ((A (16 + x) ≠ Int32.ofInt (-1) ∧ A (16 + y) ≠ Int32.ofInt (-1) ∧ A (16 + x) ≠ A (16 + y)) → r = A (16 + y) ∧ rAc σ σ' (aU (aU A (16 + x) (A (16 + y))) (16 + y) (A (16 + x))) N)))
theorem sp_255_et (a0 : Nat) (a1 : Int32) (a2 : Int32) (σ : zSg) (τ1 : zSg) (r1 : Int32) (g1 : p_197 a1 (q_w σ a0 0 (.int (Int32.ofInt (0)))) r1 τ1) (h2 : r1.toInt ≠ (0 : Int)) :
    p_255 (a0) (a1) (a2) σ (Int32.ofInt (0)) (q_w τ1 a0 0 (.int (Int32.ofInt (1)))) := by
  rintro rfl A N K
  have w0 := K.w
  obtain ⟨e0, e1⟩ := g1
  have e0 : τ1 = r0 σ := e0
  subst e0
  exact ⟨fun _ => ⟨rfl, r0_T⟩, fun x y ex lx ey ly => absurd (by rw [ex, o32 (by omega)]; omega) (e1.mp h2)⟩
theorem sp_255_efttt (a0 : Nat) (a1 : Int32) (a2 : Int32) (σ : zSg) (τ1 : zSg) (r1 : Int32) (τ5 : zSg) (r5 : Int32) (τ12 : zSg) (r12 : Int32) (g1 : p_197 a1 (q_w σ a0 0 (.int (Int32.ofInt (0)))) r1 τ1) (h2 : r1.toInt = (0 : Int)) (g5 : p_197 a2 τ1 r5 τ5) (h6 : r5.toInt = (0 : Int)) (h9 : a1.toInt ≠ a2.toInt) (g12 : p_186 a0 a1 τ5 r12 τ12) (h13 : r12.toInt = (-1 : Int)) :
    p_255 (a0) (a1) (a2) σ (Int32.ofInt (0)) (q_w τ12 a0 0 (.int (Int32.ofInt (3)))) := by
  rintro rfl A N K
  have w0 := K.w
  obtain ⟨e0, e1⟩ := g1
  have e0 : τ1 = r0 σ := e0
  subst e0
  obtain ⟨e2, f2⟩ := g5
  subst e2
  have u : 0 ≤ a1.toInt ∧ a1.toInt < 24 := Decidable.byContradiction fun w => e1.mpr w h2
  have u' : 0 ≤ a2.toInt ∧ a2.toInt < 24 := Decidable.byContradiction fun w => f2.mpr w h6
  refine ⟨fun w => absurd ⟨u, u'⟩ w, fun x y ex lx ey ly => ?_⟩
  subst ex
  subst ey
  rw [o32 (by omega), o32 (by omega)] at h9
  refine ⟨fun w => absurd (by rw [w]) h9, fun _ => ?_⟩
  obtain ⟨e3, g3⟩ := g12
  subst e3
  have x3 := g3 rfl A x w0 rfl lx
  rw [x3] at h13
  exact ⟨fun _ => ⟨rfl, r0_T⟩, fun q => absurd (Int32.toInt_inj.mp h13) q.1⟩
theorem sp_255_efttft (a0 : Nat) (a1 : Int32) (a2 : Int32) (σ : zSg) (τ1 : zSg) (r1 : Int32) (τ5 : zSg) (r5 : Int32) (τ12 : zSg) (r12 : Int32) (τ16 : zSg) (r16 : Int32) (g1 : p_197 a1 (q_w σ a0 0 (.int (Int32.ofInt (0)))) r1 τ1) (h2 : r1.toInt = (0 : Int)) (g5 : p_197 a2 τ1 r5 τ5) (h6 : r5.toInt = (0 : Int)) (h9 : a1.toInt ≠ a2.toInt) (g12 : p_186 a0 a1 τ5 r12 τ12) (h13 : r12.toInt ≠ (-1 : Int)) (g16 : p_186 a0 a2 τ12 r16 τ16) (h17 : r16.toInt = (-1 : Int)) :
    p_255 (a0) (a1) (a2) σ (Int32.ofInt (0)) (q_w τ16 a0 0 (.int (Int32.ofInt (3)))) := by
  rintro rfl A N K
  have w0 := K.w
  obtain ⟨e0, e1⟩ := g1
  have e0 : τ1 = r0 σ := e0
  subst e0
  obtain ⟨e2, f2⟩ := g5
  subst e2
  have u : 0 ≤ a1.toInt ∧ a1.toInt < 24 := Decidable.byContradiction fun w => e1.mpr w h2
  have u' : 0 ≤ a2.toInt ∧ a2.toInt < 24 := Decidable.byContradiction fun w => f2.mpr w h6
  refine ⟨fun w => absurd ⟨u, u'⟩ w, fun x y ex lx ey ly => ?_⟩
  subst ex
  subst ey
  rw [o32 (by omega), o32 (by omega)] at h9
  refine ⟨fun w => absurd (by rw [w]) h9, fun _ => ?_⟩
  obtain ⟨e3, g3⟩ := g12
  subst e3
  have x3 := g3 rfl A x w0 rfl lx
  rw [x3] at h13
  obtain ⟨e4, g4⟩ := g16
  subst e4
  have x4 := g4 rfl A y w0 rfl ly
  rw [x4] at h17
  exact ⟨fun _ => ⟨rfl, r0_T⟩, fun q => absurd (Int32.toInt_inj.mp h17) q.2.1⟩
theorem sp_255_efttfft (a0 : Nat) (a1 : Int32) (a2 : Int32) (σ : zSg) (τ1 : zSg) (r1 : Int32) (τ5 : zSg) (r5 : Int32) (τ12 : zSg) (r12 : Int32) (τ16 : zSg) (r16 : Int32) (τ20 : zSg) (r20 : Int32) (τ21 : zSg) (r21 : Int32) (τ25 : zSg) (τ26 : zSg) (τ27 : zSg) (r27 : Int32) (g1 : p_197 a1 (q_w σ a0 0 (.int (Int32.ofInt (0)))) r1 τ1) (h2 : r1.toInt = (0 : Int)) (g5 : p_197 a2 τ1 r5 τ5) (h6 : r5.toInt = (0 : Int)) (h9 : a1.toInt ≠ a2.toInt) (g12 : p_186 a0 a1 τ5 r12 τ12) (h13 : r12.toInt ≠ (-1 : Int)) (g16 : p_186 a0 a2 τ12 r16 τ16) (h17 : r16.toInt ≠ (-1 : Int)) (g20 : p_186 a0 a1 τ16 r20 τ20) (g21 : p_186 a0 a2 τ20 r21 τ21) (h22 : r20.toInt ≠ r21.toInt) (g25 : p_182 a0 τ21 τ25) (g26 : p_254 a0 a1 a2 τ25 τ26) (g27 : p_186 a0 a1 τ26 r27 τ27) :
    p_255 (a0) (a1) (a2) σ r27 τ27 := by
  rintro rfl A N K
  have w0 := K.w
  obtain ⟨e0, e1⟩ := g1
  have e0 : τ1 = r0 σ := e0
  subst e0
  obtain ⟨e2, f2⟩ := g5
  subst e2
  have u : 0 ≤ a1.toInt ∧ a1.toInt < 24 := Decidable.byContradiction fun w => e1.mpr w h2
  have u' : 0 ≤ a2.toInt ∧ a2.toInt < 24 := Decidable.byContradiction fun w => f2.mpr w h6
  refine ⟨fun w => absurd ⟨u, u'⟩ w, fun x y ex lx ey ly => ?_⟩
  subst ex
  subst ey
  rw [o32 (by omega), o32 (by omega)] at h9
  refine ⟨fun w => absurd (by rw [w]) h9, fun _ => ?_⟩
  obtain ⟨e3, g3⟩ := g12
  subst e3
  have x3 := g3 rfl A x w0 rfl lx
  rw [x3] at h13
  obtain ⟨e4, g4⟩ := g16
  subst e4
  have x4 := g4 rfl A y w0 rfl ly
  rw [x4] at h17
  obtain ⟨e5, g5⟩ := g20
  subst e5
  have x5 := g5 rfl A x w0 rfl lx
  obtain ⟨e6, g6⟩ := g21
  subst e6
  have x6 := g6 rfl A y w0 rfl ly
  rw [x5, x6] at h22
  refine ⟨fun q => absurd ⟨fun w => h13 (by rw [w]; rfl), fun w => h17 (by rw [w]; rfl), fun w => h22 (by rw [w])⟩ q, fun _ => ?_⟩
  obtain ⟨R, ks⟩ := K.rm g25
  have e8 := g26 rfl A x y R.2.2 rfl lx rfl ly
  have R1 := (R.w (k := 16 + x) (v := A (16 + y)) (by omega)).w (k := 16 + y) (v := A (16 + x)) (by omega)
  rw [← e8] at R1
  obtain ⟨e9, g9⟩ := g27
  subst e9
  have x9 := g9 rfl _ x R1.2.2 rfl lx
  rw [x9, aU_ne (by omega), aU_at]
  exact ⟨rfl, R1⟩
theorem sp_255_efttfff (a0 : Nat) (a1 : Int32) (a2 : Int32) (σ : zSg) (τ1 : zSg) (r1 : Int32) (τ5 : zSg) (r5 : Int32) (τ12 : zSg) (r12 : Int32) (τ16 : zSg) (r16 : Int32) (τ20 : zSg) (r20 : Int32) (τ21 : zSg) (r21 : Int32) (g1 : p_197 a1 (q_w σ a0 0 (.int (Int32.ofInt (0)))) r1 τ1) (h2 : r1.toInt = (0 : Int)) (g5 : p_197 a2 τ1 r5 τ5) (h6 : r5.toInt = (0 : Int)) (h9 : a1.toInt ≠ a2.toInt) (g12 : p_186 a0 a1 τ5 r12 τ12) (h13 : r12.toInt ≠ (-1 : Int)) (g16 : p_186 a0 a2 τ12 r16 τ16) (h17 : r16.toInt ≠ (-1 : Int)) (g20 : p_186 a0 a1 τ16 r20 τ20) (g21 : p_186 a0 a2 τ20 r21 τ21) (h22 : r20.toInt = r21.toInt) :
    p_255 (a0) (a1) (a2) σ (Int32.ofInt (0)) (q_w τ21 a0 0 (.int (Int32.ofInt (3)))) := by
  rintro rfl A N K
  have w0 := K.w
  obtain ⟨e0, e1⟩ := g1
  have e0 : τ1 = r0 σ := e0
  subst e0
  obtain ⟨e2, f2⟩ := g5
  subst e2
  have u : 0 ≤ a1.toInt ∧ a1.toInt < 24 := Decidable.byContradiction fun w => e1.mpr w h2
  have u' : 0 ≤ a2.toInt ∧ a2.toInt < 24 := Decidable.byContradiction fun w => f2.mpr w h6
  refine ⟨fun w => absurd ⟨u, u'⟩ w, fun x y ex lx ey ly => ?_⟩
  subst ex
  subst ey
  rw [o32 (by omega), o32 (by omega)] at h9
  refine ⟨fun w => absurd (by rw [w]) h9, fun _ => ?_⟩
  obtain ⟨e3, g3⟩ := g12
  subst e3
  have x3 := g3 rfl A x w0 rfl lx
  rw [x3] at h13
  obtain ⟨e4, g4⟩ := g16
  subst e4
  have x4 := g4 rfl A y w0 rfl ly
  rw [x4] at h17
  obtain ⟨e5, g5⟩ := g20
  subst e5
  have x5 := g5 rfl A x w0 rfl lx
  obtain ⟨e6, g6⟩ := g21
  subst e6
  have x6 := g6 rfl A y w0 rfl ly
  rw [x5, x6] at h22
  exact ⟨fun _ => ⟨rfl, r0_T⟩, fun q => absurd (Int32.toInt_inj.mp h22) q.2.2⟩
theorem sp_255_eftf (a0 : Nat) (a1 : Int32) (a2 : Int32) (σ : zSg) (τ1 : zSg) (r1 : Int32) (τ5 : zSg) (r5 : Int32) (g1 : p_197 a1 (q_w σ a0 0 (.int (Int32.ofInt (0)))) r1 τ1) (h2 : r1.toInt = (0 : Int)) (g5 : p_197 a2 τ1 r5 τ5) (h6 : r5.toInt = (0 : Int)) (h9 : a1.toInt = a2.toInt) :
    p_255 (a0) (a1) (a2) σ (Int32.ofInt (0)) (q_w τ5 a0 0 (.int (Int32.ofInt (2)))) := by
  rintro rfl A N K
  have w0 := K.w
  obtain ⟨e0, e1⟩ := g1
  have e0 : τ1 = r0 σ := e0
  subst e0
  obtain ⟨e2, f2⟩ := g5
  subst e2
  have u : 0 ≤ a1.toInt ∧ a1.toInt < 24 := Decidable.byContradiction fun w => e1.mpr w h2
  have u' : 0 ≤ a2.toInt ∧ a2.toInt < 24 := Decidable.byContradiction fun w => f2.mpr w h6
  refine ⟨fun w => absurd ⟨u, u'⟩ w, fun x y ex lx ey ly => ?_⟩
  subst ex
  subst ey
  rw [o32 (by omega), o32 (by omega)] at h9
  exact ⟨fun _ => ⟨rfl, r0_T⟩, fun w => absurd (by omega) w⟩
theorem sp_255_eff (a0 : Nat) (a1 : Int32) (a2 : Int32) (σ : zSg) (τ1 : zSg) (r1 : Int32) (τ5 : zSg) (r5 : Int32) (g1 : p_197 a1 (q_w σ a0 0 (.int (Int32.ofInt (0)))) r1 τ1) (h2 : r1.toInt = (0 : Int)) (g5 : p_197 a2 τ1 r5 τ5) (h6 : r5.toInt ≠ (0 : Int)) :
    p_255 (a0) (a1) (a2) σ (Int32.ofInt (0)) (q_w τ5 a0 0 (.int (Int32.ofInt (1)))) := by
  rintro rfl A N K
  have w0 := K.w
  obtain ⟨e0, e1⟩ := g1
  have e0 : τ1 = r0 σ := e0
  subst e0
  obtain ⟨e2, f2⟩ := g5
  subst e2
  exact ⟨fun _ => ⟨rfl, r0_T⟩, fun x y ex lx ey ly => absurd (by rw [ey, o32 (by omega)]; omega) (f2.mp h6)⟩
noncomputable def qP_255 : zPp := fun as σ o σ' => match as with
  | [a0, a1, a2] => ∃ r, o = .inl (some (.int r)) ∧ p_255 (q_r a0) (q_i a1) (q_i a2) σ r σ'
  | _ => True
set_option maxRecDepth 100000 in
theorem sp_255 {sx : zX} (S197 : zEe sx 197 1 qP_197) (S176 : zEe sx 176 3 qP_176) (S186 : zEe sx 186 2 qP_186) (S182 : zEe sx 182 1 qP_182) (S254 : zEe sx 254 3 qP_254) : zEe sx 255 3 qP_255 := by
  refine zfle zJ_255 (sps := [(197, 1, qP_197), (176, 3, qP_176), (186, 2, qP_186), (182, 1, qP_182), (254, 3, qP_254)]) (fun q hq => by
    simp only [List.mem_cons, List.not_mem_nil, or_false] at hq
    rcases hq with rfl | rfl | rfl | rfl | rfl
    · exact S197
    · exact S176
    · exact S186
    · exact S182
    · exact S254) (fun as σ hl => ?_)
  match as, hl with
  | [a0, a1, a2], _ =>
  refine ⟨[], 400, ?_, ?_⟩
  · exact fun q hq => absurd hq List.not_mem_nil
  · refine fun o1 τ1 g1 => ?_
    obtain ⟨r1, rfl, g1⟩ := g1
    refine And.intro (fun h2 => ?_) (fun h2 => ?_)
    · refine fun o3 τ3 g3 => ?_
      obtain ⟨r3, rfl, rfl, y3, z3⟩ := g3
      have e3 := (y3 (by decide)).symm
      subst e3
      refine And.intro (fun _ => ?_) (fun h4 => absurd (show z_cmp 1 (Int32.ofInt (1)) 0 = false from h4) (by decide))
      exact ⟨_, rfl, sp_255_et (q_r a0) (q_i a1) (q_i a2) σ τ1 r1 g1 (cm1t h2)⟩
    · refine fun o5 τ5 g5 => ?_
      obtain ⟨r5, rfl, g5⟩ := g5
      refine And.intro (fun h6 => ?_) (fun h6 => ?_)
      · refine fun o7 τ7 g7 => ?_
        obtain ⟨r7, rfl, rfl, y7, z7⟩ := g7
        have e7 := (z7 rfl).symm
        subst e7
        refine And.intro (fun h8 => absurd (show z_cmp 1 (Int32.ofInt (0)) 0 = true from h8) (by decide)) (fun _ => ?_)
        refine And.intro (fun h9 => ?_) (fun h9 => ?_)
        · refine fun o10 τ10 g10 => ?_
          obtain ⟨r10, rfl, rfl, y10, z10⟩ := g10
          have e10 := (z10 rfl).symm
          subst e10
          refine And.intro (fun _ => ?_) (fun h11 => absurd (show z_cmp 0 (Int32.ofInt (0)) 0 = false from h11) (by decide))
          refine fun o12 τ12 g12 => ?_
          obtain ⟨r12, rfl, g12⟩ := g12
          refine And.intro (fun h13 => ?_) (fun h13 => ?_)
          · refine fun o14 τ14 g14 => ?_
            obtain ⟨r14, rfl, rfl, y14, z14⟩ := g14
            have e14 := (y14 (by decide)).symm
            subst e14
            refine And.intro (fun h15 => absurd (show z_cmp 0 (Int32.ofInt (1)) 0 = true from h15) (by decide)) (fun _ => ?_)
            exact ⟨_, rfl, sp_255_efttt (q_r a0) (q_i a1) (q_i a2) σ τ1 r1 τ5 r5 τ12 r12 g1 (cm1f h2) g5 (cm0t h6) (cm1t h9) g12 (cm0t h13)⟩
          · refine fun o16 τ16 g16 => ?_
            obtain ⟨r16, rfl, g16⟩ := g16
            refine And.intro (fun h17 => ?_) (fun h17 => ?_)
            · refine fun o18 τ18 g18 => ?_
              obtain ⟨r18, rfl, rfl, y18, z18⟩ := g18
              have e18 := (y18 (by decide)).symm
              subst e18
              refine And.intro (fun h19 => absurd (show z_cmp 0 (Int32.ofInt (1)) 0 = true from h19) (by decide)) (fun _ => ?_)
              exact ⟨_, rfl, sp_255_efttft (q_r a0) (q_i a1) (q_i a2) σ τ1 r1 τ5 r5 τ12 r12 τ16 r16 g1 (cm1f h2) g5 (cm0t h6) (cm1t h9) g12 (cm0f h13) g16 (cm0t h17)⟩
            · refine fun o20 τ20 g20 => ?_
              obtain ⟨r20, rfl, g20⟩ := g20
              refine fun o21 τ21 g21 => ?_
              obtain ⟨r21, rfl, g21⟩ := g21
              refine And.intro (fun h22 => ?_) (fun h22 => ?_)
              · refine fun o23 τ23 g23 => ?_
                obtain ⟨r23, rfl, rfl, y23, z23⟩ := g23
                have e23 := (z23 rfl).symm
                subst e23
                refine And.intro (fun _ => ?_) (fun h24 => absurd (show z_cmp 0 (Int32.ofInt (0)) 0 = false from h24) (by decide))
                refine fun o25 τ25 g25 => ?_
                obtain ⟨rfl, g25⟩ := g25
                refine fun o26 τ26 g26 => ?_
                obtain ⟨rfl, g26⟩ := g26
                refine fun o27 τ27 g27 => ?_
                obtain ⟨r27, rfl, g27⟩ := g27
                exact ⟨_, rfl, sp_255_efttfft (q_r a0) (q_i a1) (q_i a2) σ τ1 r1 τ5 r5 τ12 r12 τ16 r16 τ20 r20 τ21 r21 τ25 τ26 τ27 r27 g1 (cm1f h2) g5 (cm0t h6) (cm1t h9) g12 (cm0f h13) g16 (cm0f h17) g20 g21 (cm1t h22) g25 g26 g27⟩
              · refine fun o28 τ28 g28 => ?_
                obtain ⟨r28, rfl, rfl, y28, z28⟩ := g28
                have e28 := (y28 (by decide)).symm
                subst e28
                refine And.intro (fun h29 => absurd (show z_cmp 0 (Int32.ofInt (1)) 0 = true from h29) (by decide)) (fun _ => ?_)
                exact ⟨_, rfl, sp_255_efttfff (q_r a0) (q_i a1) (q_i a2) σ τ1 r1 τ5 r5 τ12 r12 τ16 r16 τ20 r20 τ21 r21 g1 (cm1f h2) g5 (cm0t h6) (cm1t h9) g12 (cm0f h13) g16 (cm0f h17) g20 g21 (cm1f h22)⟩
        · refine fun o30 τ30 g30 => ?_
          obtain ⟨r30, rfl, rfl, y30, z30⟩ := g30
          have e30 := (y30 (by decide)).symm
          subst e30
          refine And.intro (fun h31 => absurd (show z_cmp 0 (Int32.ofInt (1)) 0 = true from h31) (by decide)) (fun _ => ?_)
          exact ⟨_, rfl, sp_255_eftf (q_r a0) (q_i a1) (q_i a2) σ τ1 r1 τ5 r5 g1 (cm1f h2) g5 (cm0t h6) (cm1f h9)⟩
      · refine fun o32 τ32 g32 => ?_
        obtain ⟨r32, rfl, rfl, y32, z32⟩ := g32
        have e32 := (y32 (by decide)).symm
        subst e32
        refine And.intro (fun _ => ?_) (fun h33 => absurd (show z_cmp 1 (Int32.ofInt (1)) 0 = false from h33) (by decide))
        exact ⟨_, rfl, sp_255_eff (q_r a0) (q_i a1) (q_i a2) σ τ1 r1 τ5 r5 g1 (cm1f h2) g5 (cm0f h6)⟩
theorem zJ_252 : zJ3 252 z_m252 z_c252 z_h252 := ⟨rfl, rfl, rfl⟩
noncomputable def p_252 (a : Nat) (h f : Int32) (σ : zSg) (r : Int32) (σ' : zSg) : Prop := a = 205 → ∀ A N nf, rJ σ A N → A 0 = Int32.ofNat nf → nf ≤ 6 → (¬ ((0 ≤ h.toInt ∧ h.toInt < 24) ∧ (0 ≤ f.toInt ∧ f.toInt < (nf : Int))) → r = Int32.ofInt 0 ∧ σ' = rTh σ 1) ∧ (∀ x F, h = Int32.ofNat x → x < 24 → f = Int32.ofNat F → F < nf → (A (16 + x) = Int32.ofNat F → r = Int32.ofInt 0 ∧ σ' = rTh σ 2) ∧ (A (16 + x) ≠ Int32.ofNat F → (¬ (A (16 + x) ≠ Int32.ofInt (-1) ∧ (A 12).toInt ≤ (A (40 + 4 * F)).toInt) → r = Int32.ofInt 0 ∧ σ' = rTh σ 3) ∧ ((A (16 + x) ≠ Int32.ofInt (-1) ∧ (A 12).toInt ≤ (A (40 + 4 * F)).toInt) → ∀ G, A (16 + x) = Int32.ofNat G → G < nf → r = aEn (A (40 + 4 * G)) (A 12) ∧ rAc σ σ' (aU (aU (aU A (40 + 4 * F) (A (40 + 4 * F) - A 12)) (40 + 4 * G) (aEn (A (40 + 4 * G)) (A 12))) (16 + x) (Int32.ofNat F)) N)))
theorem sp_252_et (a0 : Nat) (a1 : Int32) (a2 : Int32) (σ : zSg) (τ1 : zSg) (r1 : Int32) (g1 : p_197 a1 (q_w σ a0 0 (.int (Int32.ofInt (0)))) r1 τ1) (h2 : r1.toInt ≠ (0 : Int)) :
    p_252 (a0) (a1) (a2) σ (Int32.ofInt (0)) (q_w τ1 a0 0 (.int (Int32.ofInt (1)))) := by
  rintro rfl A N nf K u0 u6
  have w0 := K.w
  obtain ⟨e0, e1⟩ := g1
  have e0 : τ1 = r0 σ := e0
  subst e0
  exact ⟨fun _ => ⟨rfl, r0_T⟩, fun x F ex lx eF lF => absurd (by rw [ex, o32 (by omega)]; omega) (e1.mp h2)⟩
theorem sp_252_efttt (a0 : Nat) (a1 : Int32) (a2 : Int32) (σ : zSg) (τ1 : zSg) (r1 : Int32) (τ5 : zSg) (r5 : Int32) (τ9 : zSg) (r9 : Int32) (τ13 : zSg) (r13 : Int32) (g1 : p_197 a1 (q_w σ a0 0 (.int (Int32.ofInt (0)))) r1 τ1) (h2 : r1.toInt = (0 : Int)) (g5 : p_195 a0 a2 τ1 r5 τ5) (h6 : r5.toInt = (0 : Int)) (g9 : p_186 a0 a1 τ5 r9 τ9) (h10 : r9.toInt ≠ a2.toInt) (g13 : p_186 a0 a1 τ9 r13 τ13) (h14 : r13.toInt = (-1 : Int)) :
    p_252 (a0) (a1) (a2) σ (Int32.ofInt (0)) (q_w τ13 a0 0 (.int (Int32.ofInt (3)))) := by
  rintro rfl A N nf K u0 u6
  have w0 := K.w
  obtain ⟨e0, e1⟩ := g1
  have e0 : τ1 = r0 σ := e0
  subst e0
  obtain ⟨e2, g2⟩ := g5
  subst e2
  have f2 := g2 rfl A w0 nf u0 u6
  have u : 0 ≤ a1.toInt ∧ a1.toInt < 24 := Decidable.byContradiction fun w => e1.mpr w h2
  have u' : 0 ≤ a2.toInt ∧ a2.toInt < (nf : Int) := Decidable.byContradiction fun w => f2.mpr w h6
  refine ⟨fun w => absurd ⟨u, u'⟩ w, fun x F ex lx eF lF => ?_⟩
  subst ex
  subst eF
  have l6 : F < 6 := by omega
  obtain ⟨e3, g3⟩ := g9
  subst e3
  have x3 := g3 rfl A x w0 rfl lx
  rw [x3] at h10
  refine ⟨fun w => absurd (by rw [w]) h10, fun vn => ?_⟩
  obtain ⟨e4, g4⟩ := g13
  subst e4
  have x4 := g4 rfl A x w0 rfl lx
  rw [x4] at h14
  exact ⟨fun _ => ⟨rfl, r0_T⟩, fun q => absurd (Int32.toInt_inj.mp h14) q.1⟩
theorem sp_252_efttft (a0 : Nat) (a1 : Int32) (a2 : Int32) (σ : zSg) (τ1 : zSg) (r1 : Int32) (τ5 : zSg) (r5 : Int32) (τ9 : zSg) (r9 : Int32) (τ13 : zSg) (r13 : Int32) (τ17 : zSg) (r17 : Int32) (τ22 : zSg) (τ23 : zSg) (r23 : Int32) (τ24 : zSg) (r24 : Int32) (τ28 : zSg) (r28 : Int32) (τ29 : zSg) (r29 : Int32) (τ33 : zSg) (r33 : Int32) (g1 : p_197 a1 (q_w σ a0 0 (.int (Int32.ofInt (0)))) r1 τ1) (h2 : r1.toInt = (0 : Int)) (g5 : p_195 a0 a2 τ1 r5 τ5) (h6 : r5.toInt = (0 : Int)) (g9 : p_186 a0 a1 τ5 r9 τ9) (h10 : r9.toInt ≠ a2.toInt) (g13 : p_186 a0 a1 τ9 r13 τ13) (h14 : r13.toInt ≠ (-1 : Int)) (g17 : p_190 a0 a2 (Int32.ofInt (0)) τ13 r17 τ17) (h18 : 0 ≤ (Int32.ofInt (12)).toInt ∧ (Int32.ofInt (12)).toInt < (τ17.2.1 (q_r (τ17.1 a0 1)) : Int)) (h19 : r17.toInt ≥ (q_i (τ17.1 (q_r (τ17.1 a0 1)) (Int32.ofInt (12)).toNatClampNeg)).toInt) (g22 : p_182 a0 τ17 τ22) (g23 : p_186 a0 a1 τ22 r23 τ23) (g24 : p_189 a2 (Int32.ofInt (0)) τ23 r24 τ24) (h25 : 0 ≤ r24.toInt ∧ r24.toInt < (τ24.2.1 (q_r (τ23.1 a0 1)) : Int)) (h26 : 0 ≤ (Int32.ofInt (12)).toInt ∧ (Int32.ofInt (12)).toInt < (τ24.2.1 (q_r (τ24.1 a0 1)) : Int)) (h27 : 0 ≤ r24.toInt ∧ r24.toInt < (τ24.2.1 (q_r (τ23.1 a0 1)) : Int)) (g28 : p_189 r23 (Int32.ofInt (0)) (q_w τ24 (q_r (τ23.1 a0 1)) r24.toNatClampNeg (.int ((q_i (τ24.1 (q_r (τ23.1 a0 1)) r24.toNatClampNeg)) - (q_i (τ24.1 (q_r (τ24.1 a0 1)) (Int32.ofInt (12)).toNatClampNeg))))) r28 τ28) (g29 : p_190 a0 r23 (Int32.ofInt (0)) τ28 r29 τ29) (h30 : 0 ≤ (Int32.ofInt (12)).toInt ∧ (Int32.ofInt (12)).toInt < (τ29.2.1 (q_r (τ29.1 a0 1)) : Int)) (h31 : 0 ≤ r28.toInt ∧ r28.toInt < (τ29.2.1 (q_r ((q_w τ24 (q_r (τ23.1 a0 1)) r24.toNatClampNeg (.int ((q_i (τ24.1 (q_r (τ23.1 a0 1)) r24.toNatClampNeg)) - (q_i (τ24.1 (q_r (τ24.1 a0 1)) (Int32.ofInt (12)).toNatClampNeg))))).1 a0 1)) : Int)) (h32 : 0 ≤ ((Int32.ofInt (16)) + a1).toInt ∧ ((Int32.ofInt (16)) + a1).toInt < ((q_w τ29 (q_r ((q_w τ24 (q_r (τ23.1 a0 1)) r24.toNatClampNeg (.int ((q_i (τ24.1 (q_r (τ23.1 a0 1)) r24.toNatClampNeg)) - (q_i (τ24.1 (q_r (τ24.1 a0 1)) (Int32.ofInt (12)).toNatClampNeg))))).1 a0 1)) r28.toNatClampNeg (.int (if (r29 + (q_i (τ29.1 (q_r (τ29.1 a0 1)) (Int32.ofInt (12)).toNatClampNeg))) < (Int32.ofInt (9999)) then (r29 + (q_i (τ29.1 (q_r (τ29.1 a0 1)) (Int32.ofInt (12)).toNatClampNeg))) else (Int32.ofInt (9999))))).2.1 (q_r ((q_w τ29 (q_r ((q_w τ24 (q_r (τ23.1 a0 1)) r24.toNatClampNeg (.int ((q_i (τ24.1 (q_r (τ23.1 a0 1)) r24.toNatClampNeg)) - (q_i (τ24.1 (q_r (τ24.1 a0 1)) (Int32.ofInt (12)).toNatClampNeg))))).1 a0 1)) r28.toNatClampNeg (.int (if (r29 + (q_i (τ29.1 (q_r (τ29.1 a0 1)) (Int32.ofInt (12)).toNatClampNeg))) < (Int32.ofInt (9999)) then (r29 + (q_i (τ29.1 (q_r (τ29.1 a0 1)) (Int32.ofInt (12)).toNatClampNeg))) else (Int32.ofInt (9999))))).1 a0 1)) : Int)) (g33 : p_190 a0 r23 (Int32.ofInt (0)) (q_w (q_w τ29 (q_r ((q_w τ24 (q_r (τ23.1 a0 1)) r24.toNatClampNeg (.int ((q_i (τ24.1 (q_r (τ23.1 a0 1)) r24.toNatClampNeg)) - (q_i (τ24.1 (q_r (τ24.1 a0 1)) (Int32.ofInt (12)).toNatClampNeg))))).1 a0 1)) r28.toNatClampNeg (.int (if (r29 + (q_i (τ29.1 (q_r (τ29.1 a0 1)) (Int32.ofInt (12)).toNatClampNeg))) < (Int32.ofInt (9999)) then (r29 + (q_i (τ29.1 (q_r (τ29.1 a0 1)) (Int32.ofInt (12)).toNatClampNeg))) else (Int32.ofInt (9999))))) (q_r ((q_w τ29 (q_r ((q_w τ24 (q_r (τ23.1 a0 1)) r24.toNatClampNeg (.int ((q_i (τ24.1 (q_r (τ23.1 a0 1)) r24.toNatClampNeg)) - (q_i (τ24.1 (q_r (τ24.1 a0 1)) (Int32.ofInt (12)).toNatClampNeg))))).1 a0 1)) r28.toNatClampNeg (.int (if (r29 + (q_i (τ29.1 (q_r (τ29.1 a0 1)) (Int32.ofInt (12)).toNatClampNeg))) < (Int32.ofInt (9999)) then (r29 + (q_i (τ29.1 (q_r (τ29.1 a0 1)) (Int32.ofInt (12)).toNatClampNeg))) else (Int32.ofInt (9999))))).1 a0 1)) ((Int32.ofInt (16)) + a1).toNatClampNeg (.int a2)) r33 τ33) :
    p_252 (a0) (a1) (a2) σ r33 τ33 := by
  rintro rfl A N nf K u0 u6
  have w0 := K.w
  obtain ⟨e0, e1⟩ := g1
  have e0 : τ1 = r0 σ := e0
  subst e0
  obtain ⟨e2, g2⟩ := g5
  subst e2
  have f2 := g2 rfl A w0 nf u0 u6
  have u : 0 ≤ a1.toInt ∧ a1.toInt < 24 := Decidable.byContradiction fun w => e1.mpr w h2
  have u' : 0 ≤ a2.toInt ∧ a2.toInt < (nf : Int) := Decidable.byContradiction fun w => f2.mpr w h6
  refine ⟨fun w => absurd ⟨u, u'⟩ w, fun x F ex lx eF lF => ?_⟩
  subst ex
  subst eF
  have l6 : F < 6 := by omega
  obtain ⟨e3, g3⟩ := g9
  subst e3
  have x3 := g3 rfl A x w0 rfl lx
  rw [x3] at h10
  refine ⟨fun w => absurd (by rw [w]) h10, fun vn => ?_⟩
  obtain ⟨e4, g4⟩ := g13
  subst e4
  have x4 := g4 rfl A x w0 rfl lx
  rw [x4] at h14
  obtain ⟨e5, g5⟩ := g17
  subst e5
  have x5 : r17 = A (40 + 4 * F) := g5 rfl A w0 F 0 rfl l6 rfl (by omega)
  have z12 : (Int32.ofInt 12).toNatClampNeg = 12 := rfl
  rw [x5, w0.q, z12, w0.i (k := 12) (by omega)] at h19
  refine ⟨fun q => absurd ⟨fun w => h14 (by rw [w]; rfl), by omega⟩ q, fun _ G eG lG => ?_⟩
  have GF : G ≠ F := fun w => vn (by rw [eG, w])
  have lg : G < 6 := by omega
  obtain ⟨R, ks⟩ := K.rm g22
  obtain ⟨e7, g7⟩ := g23
  subst e7
  have x7 := (g7 rfl A x R.2.2 rfl lx).trans eG
  obtain ⟨e8, rfl⟩ := g24
  subst e8
  have R1 := R.w (k := 40 + 4 * F) (v := A (40 + 4 * F) - A 12) (by omega)
  simp only [R.2.2.q, at4_0 l6, z12, R.2.2.i (show 40 + 4 * F < 388 by omega), R.2.2.i (show 12 < 388 by omega), x7] at g28 g29 g33 ⊢
  obtain ⟨e9, rfl⟩ := g28
  subst e9
  obtain ⟨e10, g10⟩ := g29
  subst e10
  have x10 : r29 = A (40 + 4 * G) := (g10 rfl _ R1.2.2 G 0 rfl lg rfl (by omega)).trans (aU_ne (by omega))
  have i12 := (R1.2.2.i (k := 12) (by omega)).trans (aU_ne (by omega))
  have R2 := R1.w (k := 40 + 4 * G) (v := aEn (A (40 + 4 * G)) (A 12)) (by omega)
  have R3 := R2.w (k := 16 + x) (v := Int32.ofNat F) (by omega)
  simp only [R1.2.2.q, at4_0 lg, z12, x10, i12] at g33 ⊢
  rw [show (if A (40 + 4 * G) + A 12 < Int32.ofInt 9999 then A (40 + 4 * G) + A 12 else Int32.ofInt 9999) = aEn (A (40 + 4 * G)) (A 12) from rfl] at g33
  simp only [R2.2.2.q, h16 lx] at g33 ⊢
  obtain ⟨e11, g11⟩ := g33
  subst e11
  have x11 := g11 rfl _ R3.2.2 G 0 rfl lg rfl (by omega)
  rw [x11]
  exact ⟨(aU_ne (by omega)).trans aU_at, R3⟩
theorem sp_252_efttff (a0 : Nat) (a1 : Int32) (a2 : Int32) (σ : zSg) (τ1 : zSg) (r1 : Int32) (τ5 : zSg) (r5 : Int32) (τ9 : zSg) (r9 : Int32) (τ13 : zSg) (r13 : Int32) (τ17 : zSg) (r17 : Int32) (g1 : p_197 a1 (q_w σ a0 0 (.int (Int32.ofInt (0)))) r1 τ1) (h2 : r1.toInt = (0 : Int)) (g5 : p_195 a0 a2 τ1 r5 τ5) (h6 : r5.toInt = (0 : Int)) (g9 : p_186 a0 a1 τ5 r9 τ9) (h10 : r9.toInt ≠ a2.toInt) (g13 : p_186 a0 a1 τ9 r13 τ13) (h14 : r13.toInt ≠ (-1 : Int)) (g17 : p_190 a0 a2 (Int32.ofInt (0)) τ13 r17 τ17) (h18 : 0 ≤ (Int32.ofInt (12)).toInt ∧ (Int32.ofInt (12)).toInt < (τ17.2.1 (q_r (τ17.1 a0 1)) : Int)) (h19 : r17.toInt < (q_i (τ17.1 (q_r (τ17.1 a0 1)) (Int32.ofInt (12)).toNatClampNeg)).toInt) :
    p_252 (a0) (a1) (a2) σ (Int32.ofInt (0)) (q_w τ17 a0 0 (.int (Int32.ofInt (3)))) := by
  rintro rfl A N nf K u0 u6
  have w0 := K.w
  obtain ⟨e0, e1⟩ := g1
  have e0 : τ1 = r0 σ := e0
  subst e0
  obtain ⟨e2, g2⟩ := g5
  subst e2
  have f2 := g2 rfl A w0 nf u0 u6
  have u : 0 ≤ a1.toInt ∧ a1.toInt < 24 := Decidable.byContradiction fun w => e1.mpr w h2
  have u' : 0 ≤ a2.toInt ∧ a2.toInt < (nf : Int) := Decidable.byContradiction fun w => f2.mpr w h6
  refine ⟨fun w => absurd ⟨u, u'⟩ w, fun x F ex lx eF lF => ?_⟩
  subst ex
  subst eF
  have l6 : F < 6 := by omega
  obtain ⟨e3, g3⟩ := g9
  subst e3
  have x3 := g3 rfl A x w0 rfl lx
  rw [x3] at h10
  refine ⟨fun w => absurd (by rw [w]) h10, fun vn => ?_⟩
  obtain ⟨e4, g4⟩ := g13
  subst e4
  have x4 := g4 rfl A x w0 rfl lx
  rw [x4] at h14
  obtain ⟨e5, g5⟩ := g17
  subst e5
  have x5 : r17 = A (40 + 4 * F) := g5 rfl A w0 F 0 rfl l6 rfl (by omega)
  have z12 : (Int32.ofInt 12).toNatClampNeg = 12 := rfl
  rw [x5, w0.q, z12, w0.i (k := 12) (by omega)] at h19
  exact ⟨fun _ => ⟨rfl, r0_T⟩, fun q => absurd q.2 (by omega)⟩
theorem sp_252_eftf (a0 : Nat) (a1 : Int32) (a2 : Int32) (σ : zSg) (τ1 : zSg) (r1 : Int32) (τ5 : zSg) (r5 : Int32) (τ9 : zSg) (r9 : Int32) (g1 : p_197 a1 (q_w σ a0 0 (.int (Int32.ofInt (0)))) r1 τ1) (h2 : r1.toInt = (0 : Int)) (g5 : p_195 a0 a2 τ1 r5 τ5) (h6 : r5.toInt = (0 : Int)) (g9 : p_186 a0 a1 τ5 r9 τ9) (h10 : r9.toInt = a2.toInt) :
    p_252 (a0) (a1) (a2) σ (Int32.ofInt (0)) (q_w τ9 a0 0 (.int (Int32.ofInt (2)))) := by
  rintro rfl A N nf K u0 u6
  have w0 := K.w
  obtain ⟨e0, e1⟩ := g1
  have e0 : τ1 = r0 σ := e0
  subst e0
  obtain ⟨e2, g2⟩ := g5
  subst e2
  have f2 := g2 rfl A w0 nf u0 u6
  have u : 0 ≤ a1.toInt ∧ a1.toInt < 24 := Decidable.byContradiction fun w => e1.mpr w h2
  have u' : 0 ≤ a2.toInt ∧ a2.toInt < (nf : Int) := Decidable.byContradiction fun w => f2.mpr w h6
  refine ⟨fun w => absurd ⟨u, u'⟩ w, fun x F ex lx eF lF => ?_⟩
  subst ex
  subst eF
  have l6 : F < 6 := by omega
  obtain ⟨e3, g3⟩ := g9
  subst e3
  have x3 := g3 rfl A x w0 rfl lx
  rw [x3] at h10
  exact ⟨fun _ => ⟨rfl, r0_T⟩, fun w => absurd (Int32.toInt_inj.mp h10) w⟩
theorem sp_252_eff (a0 : Nat) (a1 : Int32) (a2 : Int32) (σ : zSg) (τ1 : zSg) (r1 : Int32) (τ5 : zSg) (r5 : Int32) (g1 : p_197 a1 (q_w σ a0 0 (.int (Int32.ofInt (0)))) r1 τ1) (h2 : r1.toInt = (0 : Int)) (g5 : p_195 a0 a2 τ1 r5 τ5) (h6 : r5.toInt ≠ (0 : Int)) :
    p_252 (a0) (a1) (a2) σ (Int32.ofInt (0)) (q_w τ5 a0 0 (.int (Int32.ofInt (1)))) := by
  rintro rfl A N nf K u0 u6
  have w0 := K.w
  obtain ⟨e0, e1⟩ := g1
  have e0 : τ1 = r0 σ := e0
  subst e0
  obtain ⟨e2, g2⟩ := g5
  subst e2
  have f2 := g2 rfl A w0 nf u0 u6
  exact ⟨fun _ => ⟨rfl, r0_T⟩, fun x F ex lx eF lF => absurd (by rw [eF, o32 (by omega)]; omega) (f2.mp h6)⟩
noncomputable def qP_252 : zPp := fun as σ o σ' => match as with
  | [a0, a1, a2] => ∃ r, o = .inl (some (.int r)) ∧ p_252 (q_r a0) (q_i a1) (q_i a2) σ r σ'
  | _ => True
set_option maxRecDepth 100000 in
theorem sp_252 {sx : zX} (S197 : zEe sx 197 1 qP_197) (S176 : zEe sx 176 3 qP_176) (S195 : zEe sx 195 2 qP_195) (S186 : zEe sx 186 2 qP_186) (S190 : zEe sx 190 3 qP_190) (S182 : zEe sx 182 1 qP_182) (S189 : zEe sx 189 2 qP_189) : zEe sx 252 3 qP_252 := by
  refine zfle zJ_252 (sps := [(197, 1, qP_197), (176, 3, qP_176), (195, 2, qP_195), (186, 2, qP_186), (190, 3, qP_190), (182, 1, qP_182), (189, 2, qP_189)]) (fun q hq => by
    simp only [List.mem_cons, List.not_mem_nil, or_false] at hq
    rcases hq with rfl | rfl | rfl | rfl | rfl | rfl | rfl
    · exact S197
    · exact S176
    · exact S195
    · exact S186
    · exact S190
    · exact S182
    · exact S189) (fun as σ hl => ?_)
  match as, hl with
  | [a0, a1, a2], _ =>
  refine ⟨[], 400, ?_, ?_⟩
  · exact fun q hq => absurd hq List.not_mem_nil
  · refine fun o1 τ1 g1 => ?_
    obtain ⟨r1, rfl, g1⟩ := g1
    refine And.intro (fun h2 => ?_) (fun h2 => ?_)
    · refine fun o3 τ3 g3 => ?_
      obtain ⟨r3, rfl, rfl, y3, z3⟩ := g3
      have e3 := (y3 (by decide)).symm
      subst e3
      refine And.intro (fun _ => ?_) (fun h4 => absurd (show z_cmp 1 (Int32.ofInt (1)) 0 = false from h4) (by decide))
      exact ⟨_, rfl, sp_252_et (q_r a0) (q_i a1) (q_i a2) σ τ1 r1 g1 (cm1t h2)⟩
    · refine fun o5 τ5 g5 => ?_
      obtain ⟨r5, rfl, g5⟩ := g5
      refine And.intro (fun h6 => ?_) (fun h6 => ?_)
      · refine fun o7 τ7 g7 => ?_
        obtain ⟨r7, rfl, rfl, y7, z7⟩ := g7
        have e7 := (z7 rfl).symm
        subst e7
        refine And.intro (fun h8 => absurd (show z_cmp 1 (Int32.ofInt (0)) 0 = true from h8) (by decide)) (fun _ => ?_)
        refine fun o9 τ9 g9 => ?_
        obtain ⟨r9, rfl, g9⟩ := g9
        refine And.intro (fun h10 => ?_) (fun h10 => ?_)
        · refine fun o11 τ11 g11 => ?_
          obtain ⟨r11, rfl, rfl, y11, z11⟩ := g11
          have e11 := (z11 rfl).symm
          subst e11
          refine And.intro (fun h12 => absurd (show z_cmp 1 (Int32.ofInt (0)) 0 = true from h12) (by decide)) (fun _ => ?_)
          refine fun o13 τ13 g13 => ?_
          obtain ⟨r13, rfl, g13⟩ := g13
          refine And.intro (fun h14 => ?_) (fun h14 => ?_)
          · refine fun o15 τ15 g15 => ?_
            obtain ⟨r15, rfl, rfl, y15, z15⟩ := g15
            have e15 := (y15 (by decide)).symm
            subst e15
            refine And.intro (fun h16 => absurd (show z_cmp 0 (Int32.ofInt (1)) 0 = true from h16) (by decide)) (fun _ => ?_)
            exact ⟨_, rfl, sp_252_efttt (q_r a0) (q_i a1) (q_i a2) σ τ1 r1 τ5 r5 τ9 r9 τ13 r13 g1 (cm1f h2) g5 (cm0t h6) g9 (cm1t h10) g13 (cm0t h14)⟩
          · refine fun o17 τ17 g17 => ?_
            obtain ⟨r17, rfl, g17⟩ := g17
            refine fun h18 => ?_
            refine And.intro (fun h19 => ?_) (fun h19 => ?_)
            · refine fun o20 τ20 g20 => ?_
              obtain ⟨r20, rfl, rfl, y20, z20⟩ := g20
              have e20 := (z20 rfl).symm
              subst e20
              refine And.intro (fun _ => ?_) (fun h21 => absurd (show z_cmp 0 (Int32.ofInt (0)) 0 = false from h21) (by decide))
              refine fun o22 τ22 g22 => ?_
              obtain ⟨rfl, g22⟩ := g22
              refine fun o23 τ23 g23 => ?_
              obtain ⟨r23, rfl, g23⟩ := g23
              refine fun o24 τ24 g24 => ?_
              obtain ⟨r24, rfl, g24⟩ := g24
              refine fun h25 => ?_
              refine fun h26 => ?_
              refine fun h27 => ?_
              refine fun o28 τ28 g28 => ?_
              obtain ⟨r28, rfl, g28⟩ := g28
              refine fun o29 τ29 g29 => ?_
              obtain ⟨r29, rfl, g29⟩ := g29
              refine fun h30 => ?_
              refine fun h31 => ?_
              refine fun h32 => ?_
              refine fun o33 τ33 g33 => ?_
              obtain ⟨r33, rfl, g33⟩ := g33
              exact ⟨_, rfl, sp_252_efttft (q_r a0) (q_i a1) (q_i a2) σ τ1 r1 τ5 r5 τ9 r9 τ13 r13 τ17 r17 τ22 τ23 r23 τ24 r24 τ28 r28 τ29 r29 τ33 r33 g1 (cm1f h2) g5 (cm0t h6) g9 (cm1t h10) g13 (cm0f h14) g17 (q_inp h18) (cm3t h19) g22 g23 g24 (q_inp h25) (q_inp h26) (q_inp h27) g28 g29 (q_inp h30) (q_inp h31) (q_inp h32) g33⟩
            · refine fun o34 τ34 g34 => ?_
              obtain ⟨r34, rfl, rfl, y34, z34⟩ := g34
              have e34 := (y34 (by decide)).symm
              subst e34
              refine And.intro (fun h35 => absurd (show z_cmp 0 (Int32.ofInt (1)) 0 = true from h35) (by decide)) (fun _ => ?_)
              exact ⟨_, rfl, sp_252_efttff (q_r a0) (q_i a1) (q_i a2) σ τ1 r1 τ5 r5 τ9 r9 τ13 r13 τ17 r17 g1 (cm1f h2) g5 (cm0t h6) g9 (cm1t h10) g13 (cm0f h14) g17 (q_inp h18) (cm3f h19)⟩
        · refine fun o36 τ36 g36 => ?_
          obtain ⟨r36, rfl, rfl, y36, z36⟩ := g36
          have e36 := (y36 (by decide)).symm
          subst e36
          refine And.intro (fun _ => ?_) (fun h37 => absurd (show z_cmp 1 (Int32.ofInt (1)) 0 = false from h37) (by decide))
          exact ⟨_, rfl, sp_252_eftf (q_r a0) (q_i a1) (q_i a2) σ τ1 r1 τ5 r5 τ9 r9 g1 (cm1f h2) g5 (cm0t h6) g9 (cm1f h10)⟩
      · refine fun o38 τ38 g38 => ?_
        obtain ⟨r38, rfl, rfl, y38, z38⟩ := g38
        have e38 := (y38 (by decide)).symm
        subst e38
        refine And.intro (fun _ => ?_) (fun h39 => absurd (show z_cmp 1 (Int32.ofInt (1)) 0 = false from h39) (by decide))
        exact ⟨_, rfl, sp_252_eff (q_r a0) (q_i a1) (q_i a2) σ τ1 r1 τ5 r5 g1 (cm1f h2) g5 (cm0f h6)⟩
noncomputable def aLo (A : Nat → Int32) : Nat → Int32
  | 0 => Int32.ofInt 0
  | n + 1 => aLo A n ||| (if A (66 + 3 * n) = Int32.ofInt 1 then Int32.ofInt 1 <<< (Int32.ofNat n &&& 31) else Int32.ofInt 0)
theorem btb_0 (k : Int32) : btb (Int32.ofInt 0) k = false := by
  have h := btb_and (Int32.ofInt 0) (Int32.ofInt (-1)) k
  rw [btb_g, show (Int32.ofInt 0) >>> (k &&& 31) = Int32.ofInt 0 from Int32.zero_shiftRight]
  rfl
theorem aLo_b {A : Nat → Int32} {t : Nat} (ht : t < 32) : ∀ n, n ≤ 8 → btb (aLo A n) (Int32.ofNat t) = (decide (t < n) && decide (A (66 + 3 * t) = Int32.ofInt 1))
  | 0, _ => by
    show btb (Int32.ofInt 0) _ = _
    rw [btb_0, decide_eq_false (Nat.not_lt_zero t)]
    rfl
  | n + 1, hn => by
    show btb (aLo A n ||| _) _ = _
    rw [btb_or, aLo_b ht n (by omega)]
    by_cases h1 : A (66 + 3 * n) = Int32.ofInt 1
    · rw [if_pos h1, btb_1 (by omega) ht]
      by_cases h2 : n = t
      · subst h2
        rw [decide_eq_true rfl, Bool.or_true, decide_eq_true h1, decide_eq_true (by omega : n < n + 1)]
        rfl
      · rw [decide_eq_false h2, Bool.or_false]
        by_cases h3 : t < n
        · rw [decide_eq_true h3, decide_eq_true (by omega : t < n + 1)]
        · rw [decide_eq_false h3, decide_eq_false (by omega : ¬ t < n + 1)]
    · rw [if_neg h1, btb_0, Bool.or_false]
      by_cases h3 : t < n
      · rw [decide_eq_true h3, decide_eq_true (by omega : t < n + 1)]
      · by_cases h4 : t = n
        · subst h4
          rw [decide_eq_false h1, Bool.and_false, Bool.and_false]
        · rw [decide_eq_false h3, decide_eq_false (by omega : ¬ t < n + 1)]
noncomputable def aBs (A : Nat → Int32) (q : Int32) (n : Nat) : Int32 := aSm (fun t => if btb q (Int32.ofNat t) = true then A (65 + 3 * t) else Int32.ofInt 0) n
theorem aBs_lo {A : Nat → Int32} {nt : Nat} (hn : nt ≤ 8) (ho : ∀ t, t < nt → A (64 + 3 * t) ≠ Int32.ofInt (-1)) : aBs A (aLo A nt) nt = aBo A (Int32.ofInt (-1)) nt := by
  unfold aBs aBo
  refine aSm_cg nt (fun t ht => ?_)
  unfold aB1
  rw [aLo_b (by omega) nt hn, decide_eq_true ht, Bool.true_and]
  by_cases h : A (66 + 3 * t) = Int32.ofInt 1
  · rw [if_pos (decide_eq_true h), if_pos ⟨h, ho t ht⟩]
  · rw [if_neg (fun q => h (of_decide_eq_true q)), if_neg (fun q => h q.1)]
theorem zJ_233 : zJ3 233 z_m233 z_c233 z_h233 := ⟨rfl, rfl, rfl⟩
noncomputable def p_233 (a : Nat) (σ : zSg) (r : Int32) (σ' : zSg) : Prop := a = 205 → ∀ A nt, rW σ A → A 1 = Int32.ofNat nt → nt ≤ 8 → σ' = σ ∧ r = aLo A nt
noncomputable def i_233 (a : Nat) (σ : zSg) (l0 : Nat) (l1 l2 : Int32) (τ : zSg) : Prop := l0 = a ∧ (a = 205 → ∀ A nt, rW σ A → A 1 = Int32.ofNat nt → nt ≤ 8 → τ = σ ∧ ∃ n, n ≤ nt ∧ l2 = Int32.ofNat n ∧ l1 = aLo A n)
theorem sp_233_e (a0 : Nat) (σ : zSg)  :
    i_233 a0 σ a0 (Int32.ofInt (0)) (Int32.ofInt (0)) σ := by
  exact ⟨rfl, fun _ A nt _ _ _ => ⟨rfl, 0, by omega, rfl, rfl⟩⟩
theorem sp_233_c4_t (a0 : Nat) (σ : zSg) (l0 : Nat) (l1 : Int32) (l2 : Int32) (τ : zSg) (τ1 : zSg) (r1 : Int32) (hI : i_233 a0 σ l0 l1 l2 τ) (g1 : p_185 l0 τ r1 τ1) (h2 : l2.toInt ≥ r1.toInt) :
    p_233 (a0) σ l1 τ1 := by
  obtain ⟨rfl, hI⟩ := hI
  rintro rfl A nt K u1 u8
  obtain ⟨rfl, n, hn, rfl, rfl⟩ := hI rfl A nt K u1 u8
  obtain ⟨rfl, gc⟩ := g1
  have xc := (gc rfl A K).trans u1
  rw [xc, o32 (by omega), o32 (by omega)] at h2
  exact ⟨rfl, by rw [show n = nt by omega]⟩
theorem sp_233_c4_ft (a0 : Nat) (σ : zSg) (l0 : Nat) (l1 : Int32) (l2 : Int32) (τ : zSg) (τ1 : zSg) (r1 : Int32) (τ3 : zSg) (r3 : Int32) (hI : i_233 a0 σ l0 l1 l2 τ) (g1 : p_185 l0 τ r1 τ1) (h2 : l2.toInt < r1.toInt) (g3 : p_194 l0 l2 τ1 r3 τ3) (h4 : r3.toInt = (0 : Int)) :
    i_233 a0 σ l0 (l1 ||| (Int32.ofInt (0))) (l2 + Int32.ofInt (1)) τ3 := by
  obtain ⟨rfl, hI⟩ := hI
  refine ⟨rfl, ?_⟩
  rintro rfl A nt K u1 u8
  obtain ⟨rfl, n, hn, rfl, rfl⟩ := hI rfl A nt K u1 u8
  obtain ⟨rfl, gc⟩ := g1
  have xc := (gc rfl A K).trans u1
  rw [xc, o32 (by omega), o32 (by omega)] at h2
  obtain ⟨rfl, g2⟩ := g3
  have x2 := g2 rfl A K n rfl (by omega)
  refine ⟨rfl, n + 1, by omega, o32i (by omega), ?_⟩
  show _ = aLo A n ||| _
  rw [if_neg]
  intro q
  rw [x2, if_pos q] at h4
  exact absurd h4 (by decide)
theorem sp_233_c4_ff (a0 : Nat) (σ : zSg) (l0 : Nat) (l1 : Int32) (l2 : Int32) (τ : zSg) (τ1 : zSg) (r1 : Int32) (τ3 : zSg) (r3 : Int32) (hI : i_233 a0 σ l0 l1 l2 τ) (g1 : p_185 l0 τ r1 τ1) (h2 : l2.toInt < r1.toInt) (g3 : p_194 l0 l2 τ1 r3 τ3) (h4 : r3.toInt ≠ (0 : Int)) :
    i_233 a0 σ l0 (l1 ||| ((Int32.ofInt (1)) <<< (l2 &&& 31))) (l2 + Int32.ofInt (1)) τ3 := by
  obtain ⟨rfl, hI⟩ := hI
  refine ⟨rfl, ?_⟩
  rintro rfl A nt K u1 u8
  obtain ⟨rfl, n, hn, rfl, rfl⟩ := hI rfl A nt K u1 u8
  obtain ⟨rfl, gc⟩ := g1
  have xc := (gc rfl A K).trans u1
  rw [xc, o32 (by omega), o32 (by omega)] at h2
  obtain ⟨rfl, g2⟩ := g3
  have x2 := g2 rfl A K n rfl (by omega)
  refine ⟨rfl, n + 1, by omega, o32i (by omega), ?_⟩
  show _ = aLo A n ||| _
  rw [if_pos]
  refine Decidable.byContradiction fun q => ?_
  rw [x2, if_neg q] at h4
  exact absurd rfl h4
noncomputable def qP_233 : zPp := fun as σ o σ' => match as with
  | [a0] => ∃ r, o = .inl (some (.int r)) ∧ p_233 (q_r a0) σ r σ'
  | _ => True
set_option maxRecDepth 100000 in
theorem sp_233 {sx : zX} (S185 : zEe sx 185 1 qP_185) (S194 : zEe sx 194 2 qP_194) : zEe sx 233 1 qP_233 := by
  refine zfle zJ_233 (sps := [(185, 1, qP_185), (194, 2, qP_194)]) (fun q hq => by
    simp only [List.mem_cons, List.not_mem_nil, or_false] at hq
    rcases hq with rfl | rfl
    · exact S185
    · exact S194) (fun as σ hl => ?_)
  match as, hl with
  | [a0], _ =>
  refine ⟨[(4, fun lo st τ => st = [] ∧ i_233 (q_r a0) σ (q_r (lo 0)) (q_i (lo 1)) (q_i (lo 2)) τ)], 400, ?_, ?_⟩
  · intro q hq
    simp only [List.mem_cons, List.not_mem_nil, or_false] at hq
    rcases hq with rfl
    · rintro lo st τ ⟨rfl, hI⟩
      refine ⟨400, ?_⟩
      refine fun o1 τ1 g1 => ?_
      obtain ⟨r1, rfl, g1⟩ := g1
      refine And.intro (fun h2 => ?_) (fun h2 => ?_)
      · exact ⟨_, rfl, sp_233_c4_t (q_r a0) σ (q_r (lo 0)) (q_i (lo 1)) (q_i (lo 2)) τ τ1 r1 hI g1 (cm3t h2)⟩
      · refine fun o3 τ3 g3 => ?_
        obtain ⟨r3, rfl, g3⟩ := g3
        refine And.intro (fun h4 => ?_) (fun h4 => ?_)
        · exact ⟨rfl, sp_233_c4_ft (q_r a0) σ (q_r (lo 0)) (q_i (lo 1)) (q_i (lo 2)) τ τ1 r1 τ3 r3 hI g1 (cm3f h2) g3 (cm0t h4)⟩
        · exact ⟨rfl, sp_233_c4_ff (q_r a0) σ (q_r (lo 0)) (q_i (lo 1)) (q_i (lo 2)) τ τ1 r1 τ3 r3 hI g1 (cm3f h2) g3 (cm0f h4)⟩
  · exact ⟨rfl, sp_233_e (q_r a0) σ ⟩
theorem zJ_234 : zJ3 234 z_m234 z_c234 z_h234 := ⟨rfl, rfl, rfl⟩
noncomputable def p_234 (a : Nat) (q : Int32) (σ : zSg) (r : Int32) (σ' : zSg) : Prop := a = 205 → ∀ A nt, rW σ A → A 1 = Int32.ofNat nt → nt ≤ 8 → σ' = σ ∧ r = aBs A q nt
noncomputable def i_234 (a : Nat) (q : Int32) (σ : zSg) (l0 : Nat) (l1 l2 l3 : Int32) (τ : zSg) : Prop := l0 = a ∧ l1 = q ∧ (a = 205 → ∀ A nt, rW σ A → A 1 = Int32.ofNat nt → nt ≤ 8 → τ = σ ∧ ∃ n, n ≤ nt ∧ l3 = Int32.ofNat n ∧ l2 = aBs A q n)
theorem sp_234_e (a0 : Nat) (a1 : Int32) (σ : zSg)  :
    i_234 a0 a1 σ a0 a1 (Int32.ofInt (0)) (Int32.ofInt (0)) σ := by
  exact ⟨rfl, rfl, fun _ A nt _ _ _ => ⟨rfl, 0, by omega, rfl, rfl⟩⟩
theorem sp_234_c4_t (a0 : Nat) (a1 : Int32) (σ : zSg) (l0 : Nat) (l1 : Int32) (l2 : Int32) (l3 : Int32) (τ : zSg) (τ1 : zSg) (r1 : Int32) (hI : i_234 a0 a1 σ l0 l1 l2 l3 τ) (g1 : p_185 l0 τ r1 τ1) (h2 : l3.toInt ≥ r1.toInt) :
    p_234 (a0) (a1) σ l2 τ1 := by
  obtain ⟨rfl, rfl, hI⟩ := hI
  rintro rfl A nt K u1 u8
  obtain ⟨rfl, n, hn, rfl, rfl⟩ := hI rfl A nt K u1 u8
  obtain ⟨rfl, gc⟩ := g1
  have xc := (gc rfl A K).trans u1
  rw [xc, o32 (by omega), o32 (by omega)] at h2
  exact ⟨rfl, by rw [show n = nt by omega]⟩
theorem sp_234_c4_ft (a0 : Nat) (a1 : Int32) (σ : zSg) (l0 : Nat) (l1 : Int32) (l2 : Int32) (l3 : Int32) (τ : zSg) (τ1 : zSg) (r1 : Int32) (τ3 : zSg) (r3 : Int32) (hI : i_234 a0 a1 σ l0 l1 l2 l3 τ) (g1 : p_185 l0 τ r1 τ1) (h2 : l3.toInt < r1.toInt) (g3 : p_178 l1 l3 τ1 r3 τ3) (h4 : r3.toInt = (0 : Int)) :
    i_234 a0 a1 σ l0 l1 (l2 + (Int32.ofInt (0))) (l3 + Int32.ofInt (1)) τ3 := by
  obtain ⟨rfl, rfl, hI⟩ := hI
  refine ⟨rfl, rfl, ?_⟩
  rintro rfl A nt K u1 u8
  obtain ⟨rfl, n, hn, rfl, rfl⟩ := hI rfl A nt K u1 u8
  obtain ⟨rfl, gc⟩ := g1
  have xc := (gc rfl A K).trans u1
  rw [xc, o32 (by omega), o32 (by omega)] at h2
  obtain ⟨rfl, x2⟩ := g3
  refine ⟨rfl, n + 1, by omega, o32i (by omega), ?_⟩
  show _ = aBs A l1 n + (if btb l1 (Int32.ofNat n) = true then A (65 + 3 * n) else Int32.ofInt 0)
  rw [if_neg]
  intro w
  rw [x2, if_pos w] at h4
  exact absurd h4 (by decide)
theorem sp_234_c4_ff (a0 : Nat) (a1 : Int32) (σ : zSg) (l0 : Nat) (l1 : Int32) (l2 : Int32) (l3 : Int32) (τ : zSg) (τ1 : zSg) (r1 : Int32) (τ3 : zSg) (r3 : Int32) (τ5 : zSg) (r5 : Int32) (hI : i_234 a0 a1 σ l0 l1 l2 l3 τ) (g1 : p_185 l0 τ r1 τ1) (h2 : l3.toInt < r1.toInt) (g3 : p_178 l1 l3 τ1 r3 τ3) (h4 : r3.toInt ≠ (0 : Int)) (g5 : p_193 l0 l3 (Int32.ofInt (1)) τ3 r5 τ5) :
    i_234 a0 a1 σ l0 l1 (l2 + r5) (l3 + Int32.ofInt (1)) τ5 := by
  obtain ⟨rfl, rfl, hI⟩ := hI
  refine ⟨rfl, rfl, ?_⟩
  rintro rfl A nt K u1 u8
  obtain ⟨rfl, n, hn, rfl, rfl⟩ := hI rfl A nt K u1 u8
  obtain ⟨rfl, gc⟩ := g1
  have xc := (gc rfl A K).trans u1
  rw [xc, o32 (by omega), o32 (by omega)] at h2
  obtain ⟨rfl, x2⟩ := g3
  obtain ⟨rfl, g3⟩ := g5
  have x3 := g3 rfl A K n 1 rfl (by omega) rfl (by omega)
  refine ⟨rfl, n + 1, by omega, o32i (by omega), ?_⟩
  show _ = aBs A l1 n + (if btb l1 (Int32.ofNat n) = true then A (65 + 3 * n) else Int32.ofInt 0)
  rw [if_pos, x3]
  refine Decidable.byContradiction fun w => ?_
  rw [x2, if_neg w] at h4
  exact absurd rfl h4
noncomputable def qP_234 : zPp := fun as σ o σ' => match as with
  | [a0, a1] => ∃ r, o = .inl (some (.int r)) ∧ p_234 (q_r a0) (q_i a1) σ r σ'
  | _ => True
set_option maxRecDepth 100000 in
theorem sp_234 {sx : zX} (S185 : zEe sx 185 1 qP_185) (S178 : zEe sx 178 2 qP_178) (S193 : zEe sx 193 3 qP_193) : zEe sx 234 2 qP_234 := by
  refine zfle zJ_234 (sps := [(185, 1, qP_185), (178, 2, qP_178), (193, 3, qP_193)]) (fun q hq => by
    simp only [List.mem_cons, List.not_mem_nil, or_false] at hq
    rcases hq with rfl | rfl | rfl
    · exact S185
    · exact S178
    · exact S193) (fun as σ hl => ?_)
  match as, hl with
  | [a0, a1], _ =>
  refine ⟨[(4, fun lo st τ => st = [] ∧ i_234 (q_r a0) (q_i a1) σ (q_r (lo 0)) (q_i (lo 1)) (q_i (lo 2)) (q_i (lo 3)) τ)], 400, ?_, ?_⟩
  · intro q hq
    simp only [List.mem_cons, List.not_mem_nil, or_false] at hq
    rcases hq with rfl
    · rintro lo st τ ⟨rfl, hI⟩
      refine ⟨400, ?_⟩
      refine fun o1 τ1 g1 => ?_
      obtain ⟨r1, rfl, g1⟩ := g1
      refine And.intro (fun h2 => ?_) (fun h2 => ?_)
      · exact ⟨_, rfl, sp_234_c4_t (q_r a0) (q_i a1) σ (q_r (lo 0)) (q_i (lo 1)) (q_i (lo 2)) (q_i (lo 3)) τ τ1 r1 hI g1 (cm3t h2)⟩
      · refine fun o3 τ3 g3 => ?_
        obtain ⟨r3, rfl, g3⟩ := g3
        refine And.intro (fun h4 => ?_) (fun h4 => ?_)
        · exact ⟨rfl, sp_234_c4_ft (q_r a0) (q_i a1) σ (q_r (lo 0)) (q_i (lo 1)) (q_i (lo 2)) (q_i (lo 3)) τ τ1 r1 τ3 r3 hI g1 (cm3f h2) g3 (cm0t h4)⟩
        · refine fun o5 τ5 g5 => ?_
          obtain ⟨r5, rfl, g5⟩ := g5
          exact ⟨rfl, sp_234_c4_ff (q_r a0) (q_i a1) σ (q_r (lo 0)) (q_i (lo 1)) (q_i (lo 2)) (q_i (lo 3)) τ τ1 r1 τ3 r3 τ5 r5 hI g1 (cm3f h2) g3 (cm0f h4) g5⟩
  · exact ⟨rfl, sp_234_e (q_r a0) (q_i a1) σ ⟩
theorem zJ_257 : zJ3 257 z_m257 z_c257 z_h257 := ⟨rfl, rfl, rfl⟩
noncomputable def p_257 (a : Nat) (t l : Int32) (σ : zSg) (r : Int32) (σ' : zSg) : Prop := a = 205 → ∀ σ0 A N nt x, σ = r0 σ0 → rJ σ0 A N → A 1 = Int32.ofNat nt → nt ≤ 8 → t = Int32.ofNat x → x < 8 → rAc σ0 σ' (aU A (66 + 3 * x) l) N ∧ r = aBs (aU A (66 + 3 * x) l) (aLo (aU A (66 + 3 * x) l) nt) nt
theorem sp_257_e (a0 : Nat) (a1 : Int32) (a2 : Int32) (σ : zSg) (τ1 : zSg) (τ2 : zSg) (r2 : Int32) (τ4 : zSg) (r4 : Int32) (τ5 : zSg) (r5 : Int32) (g1 : p_182 a0 σ τ1) (g2 : p_192 a1 (Int32.ofInt (2)) τ1 r2 τ2) (h3 : 0 ≤ r2.toInt ∧ r2.toInt < (τ2.2.1 (q_r (τ1.1 a0 1)) : Int)) (g4 : p_233 a0 (q_w τ2 (q_r (τ1.1 a0 1)) r2.toNatClampNeg (.int a2)) r4 τ4) (g5 : p_234 a0 r4 τ4 r5 τ5) :
    p_257 (a0) (a1) (a2) σ r5 τ5 := by
  rintro rfl σ0 A N nt x rfl K u1 u8 rfl lx
  obtain ⟨R, ks⟩ := K.rm g1
  obtain ⟨e2, rfl⟩ := g2
  subst e2
  have R1 := R.w (k := 66 + 3 * x) (v := a2) (by omega)
  simp only [R.2.2.q, at3_2 lx] at g4
  have v1 : aU A (66 + 3 * x) a2 1 = Int32.ofNat nt := (aU_ne (by omega)).trans u1
  obtain ⟨e3, x3⟩ := g4 rfl _ nt R1.2.2 v1 u8
  subst e3
  obtain ⟨e4, x4⟩ := g5 rfl _ nt R1.2.2 v1 u8
  subst e4
  exact ⟨R1, by rw [x4, x3]⟩
noncomputable def qP_257 : zPp := fun as σ o σ' => match as with
  | [a0, a1, a2] => ∃ r, o = .inl (some (.int r)) ∧ p_257 (q_r a0) (q_i a1) (q_i a2) σ r σ'
  | _ => True
set_option maxRecDepth 100000 in
theorem sp_257 {sx : zX} (S182 : zEe sx 182 1 qP_182) (S192 : zEe sx 192 2 qP_192) (S233 : zEe sx 233 1 qP_233) (S234 : zEe sx 234 2 qP_234) : zEe sx 257 3 qP_257 := by
  refine zfle zJ_257 (sps := [(182, 1, qP_182), (192, 2, qP_192), (233, 1, qP_233), (234, 2, qP_234)]) (fun q hq => by
    simp only [List.mem_cons, List.not_mem_nil, or_false] at hq
    rcases hq with rfl | rfl | rfl | rfl
    · exact S182
    · exact S192
    · exact S233
    · exact S234) (fun as σ hl => ?_)
  match as, hl with
  | [a0, a1, a2], _ =>
  refine ⟨[], 400, ?_, ?_⟩
  · exact fun q hq => absurd hq List.not_mem_nil
  · refine fun o1 τ1 g1 => ?_
    obtain ⟨rfl, g1⟩ := g1
    refine fun o2 τ2 g2 => ?_
    obtain ⟨r2, rfl, g2⟩ := g2
    refine fun h3 => ?_
    refine fun o4 τ4 g4 => ?_
    obtain ⟨r4, rfl, g4⟩ := g4
    refine fun o5 τ5 g5 => ?_
    obtain ⟨r5, rfl, g5⟩ := g5
    exact ⟨_, rfl, sp_257_e (q_r a0) (q_i a1) (q_i a2) σ τ1 τ2 r2 τ4 r4 τ5 r5 g1 g2 (q_inp h3) g4 g5⟩
theorem zJ_258 : zJ3 258 z_m258 z_c258 z_h258 := ⟨rfl, rfl, rfl⟩
noncomputable def p_258 (a : Nat) (t : Int32) (σ : zSg) (r : Int32) (σ' : zSg) : Prop := a = 205 → ∀ A N nt, rJ σ A N → A 1 = Int32.ofNat nt → nt ≤ 8 → (¬ (0 ≤ t.toInt ∧ t.toInt < (nt : Int)) → r = Int32.ofInt 0 ∧ σ' = rTh σ 1) ∧ (∀ x, t = Int32.ofNat x → x < nt → ∀ i4, A 4 = Int32.ofNat i4 → i4 < 24 → (¬ (A (64 + 3 * x) = A (16 + i4) ∧ A (66 + 3 * x) ≠ Int32.ofInt 1) → r = Int32.ofInt 0 ∧ σ' = rTh σ 2) ∧ ((A (64 + 3 * x) = A (16 + i4) ∧ A (66 + 3 * x) ≠ Int32.ofInt 1) → rAc σ σ' (aU A (66 + 3 * x) (Int32.ofInt 1)) N ∧ r = aBs (aU A (66 + 3 * x) (Int32.ofInt 1)) (aLo (aU A (66 + 3 * x) (Int32.ofInt 1)) nt) nt))
theorem sp_258_et (a0 : Nat) (a1 : Int32) (σ : zSg) (τ1 : zSg) (r1 : Int32) (τ2 : zSg) (r2 : Int32) (g1 : p_196 a0 a1 (q_w σ a0 0 (.int (Int32.ofInt (0)))) r1 τ1) (g2 : p_176 a0 r1 (Int32.ofInt (1)) τ1 r2 τ2) (h3 : r2.toInt ≠ (0 : Int)) :
    p_258 (a0) (a1) σ (Int32.ofInt (0)) τ2 := by
  rintro rfl A N nt K u1 u8
  have w0 := K.w
  obtain ⟨e0, e1⟩ := g1
  have e0 : τ1 = r0 σ := e0
  subst e0
  have f1 := e1 rfl A w0 nt u1 u8
  obtain ⟨x0, y0, n0⟩ := g2
  rw [x0] at h3
  have m2 := y0 h3
  subst m2
  exact ⟨fun _ => ⟨rfl, r0_T⟩, fun x ex lx i4 e4 l4 => absurd (by rw [ex, o32 (by omega)]; omega) (f1.mp h3)⟩
theorem sp_258_eft (a0 : Nat) (a1 : Int32) (σ : zSg) (τ1 : zSg) (r1 : Int32) (τ2 : zSg) (r2 : Int32) (τ4 : zSg) (r4 : Int32) (τ5 : zSg) (r5 : Int32) (g1 : p_196 a0 a1 (q_w σ a0 0 (.int (Int32.ofInt (0)))) r1 τ1) (g2 : p_176 a0 r1 (Int32.ofInt (1)) τ1 r2 τ2) (h3 : r2.toInt = (0 : Int)) (g4 : p_193 a0 a1 (Int32.ofInt (0)) τ2 r4 τ4) (g5 : p_188 a0 τ4 r5 τ5) (h6 : r4.toInt ≠ r5.toInt) :
    p_258 (a0) (a1) σ (Int32.ofInt (0)) (q_w τ5 a0 0 (.int (Int32.ofInt (2)))) := by
  rintro rfl A N nt K u1 u8
  have w0 := K.w
  obtain ⟨e0, e1⟩ := g1
  have e0 : τ1 = r0 σ := e0
  subst e0
  have f1 := e1 rfl A w0 nt u1 u8
  obtain ⟨x0, y0, n0⟩ := g2
  rw [x0] at h3
  have m2 := n0 h3
  subst m2
  have u : 0 ≤ a1.toInt ∧ a1.toInt < (nt : Int) := Decidable.byContradiction fun w => f1.mpr w h3
  refine ⟨fun w => absurd u w, fun x ex lx i4 e4 l4 => ?_⟩
  subst ex
  have l8 : x < 8 := by omega
  obtain ⟨e2, g2⟩ := g4
  subst e2
  have x2 : r4 = A (64 + 3 * x) := g2 rfl A w0 x 0 rfl l8 rfl (by omega)
  obtain ⟨e3, g3⟩ := g5
  subst e3
  have x3 := g3 rfl A w0 i4 e4 l4
  rw [x2, x3] at h6
  exact ⟨fun _ => ⟨rfl, r0_T⟩, fun q => absurd (by rw [q.1]) h6⟩
theorem sp_258_efft (a0 : Nat) (a1 : Int32) (σ : zSg) (τ1 : zSg) (r1 : Int32) (τ2 : zSg) (r2 : Int32) (τ4 : zSg) (r4 : Int32) (τ5 : zSg) (r5 : Int32) (τ9 : zSg) (r9 : Int32) (τ13 : zSg) (r13 : Int32) (g1 : p_196 a0 a1 (q_w σ a0 0 (.int (Int32.ofInt (0)))) r1 τ1) (g2 : p_176 a0 r1 (Int32.ofInt (1)) τ1 r2 τ2) (h3 : r2.toInt = (0 : Int)) (g4 : p_193 a0 a1 (Int32.ofInt (0)) τ2 r4 τ4) (g5 : p_188 a0 τ4 r5 τ5) (h6 : r4.toInt = r5.toInt) (g9 : p_194 a0 a1 τ5 r9 τ9) (h10 : r9.toInt = (0 : Int)) (g13 : p_257 a0 a1 (Int32.ofInt (1)) τ9 r13 τ13) :
    p_258 (a0) (a1) σ r13 τ13 := by
  rintro rfl A N nt K u1 u8
  have w0 := K.w
  obtain ⟨e0, e1⟩ := g1
  have e0 : τ1 = r0 σ := e0
  subst e0
  have f1 := e1 rfl A w0 nt u1 u8
  obtain ⟨x0, y0, n0⟩ := g2
  rw [x0] at h3
  have m2 := n0 h3
  subst m2
  have u : 0 ≤ a1.toInt ∧ a1.toInt < (nt : Int) := Decidable.byContradiction fun w => f1.mpr w h3
  refine ⟨fun w => absurd u w, fun x ex lx i4 e4 l4 => ?_⟩
  subst ex
  have l8 : x < 8 := by omega
  obtain ⟨e2, g2⟩ := g4
  subst e2
  have x2 : r4 = A (64 + 3 * x) := g2 rfl A w0 x 0 rfl l8 rfl (by omega)
  obtain ⟨e3, g3⟩ := g5
  subst e3
  have x3 := g3 rfl A w0 i4 e4 l4
  rw [x2, x3] at h6
  obtain ⟨e4', g4⟩ := g9
  subst e4'
  have x4 := g4 rfl A w0 x rfl l8
  refine ⟨fun q => absurd ⟨Int32.toInt_inj.mp h6, fun w => by rw [x4, if_pos w] at h10; exact absurd h10 (by decide)⟩ q, fun _ => ?_⟩
  exact g13 rfl σ A N nt x rfl K u1 u8 rfl l8
theorem sp_258_efff (a0 : Nat) (a1 : Int32) (σ : zSg) (τ1 : zSg) (r1 : Int32) (τ2 : zSg) (r2 : Int32) (τ4 : zSg) (r4 : Int32) (τ5 : zSg) (r5 : Int32) (τ9 : zSg) (r9 : Int32) (g1 : p_196 a0 a1 (q_w σ a0 0 (.int (Int32.ofInt (0)))) r1 τ1) (g2 : p_176 a0 r1 (Int32.ofInt (1)) τ1 r2 τ2) (h3 : r2.toInt = (0 : Int)) (g4 : p_193 a0 a1 (Int32.ofInt (0)) τ2 r4 τ4) (g5 : p_188 a0 τ4 r5 τ5) (h6 : r4.toInt = r5.toInt) (g9 : p_194 a0 a1 τ5 r9 τ9) (h10 : r9.toInt ≠ (0 : Int)) :
    p_258 (a0) (a1) σ (Int32.ofInt (0)) (q_w τ9 a0 0 (.int (Int32.ofInt (2)))) := by
  rintro rfl A N nt K u1 u8
  have w0 := K.w
  obtain ⟨e0, e1⟩ := g1
  have e0 : τ1 = r0 σ := e0
  subst e0
  have f1 := e1 rfl A w0 nt u1 u8
  obtain ⟨x0, y0, n0⟩ := g2
  rw [x0] at h3
  have m2 := n0 h3
  subst m2
  have u : 0 ≤ a1.toInt ∧ a1.toInt < (nt : Int) := Decidable.byContradiction fun w => f1.mpr w h3
  refine ⟨fun w => absurd u w, fun x ex lx i4 e4 l4 => ?_⟩
  subst ex
  have l8 : x < 8 := by omega
  obtain ⟨e2, g2⟩ := g4
  subst e2
  have x2 : r4 = A (64 + 3 * x) := g2 rfl A w0 x 0 rfl l8 rfl (by omega)
  obtain ⟨e3, g3⟩ := g5
  subst e3
  have x3 := g3 rfl A w0 i4 e4 l4
  rw [x2, x3] at h6
  obtain ⟨e4', g4⟩ := g9
  subst e4'
  have x4 := g4 rfl A w0 x rfl l8
  exact ⟨fun _ => ⟨rfl, r0_T⟩, fun q => (by rw [x4, if_neg q.2] at h10; exact absurd rfl h10)⟩
noncomputable def qP_258 : zPp := fun as σ o σ' => match as with
  | [a0, a1] => ∃ r, o = .inl (some (.int r)) ∧ p_258 (q_r a0) (q_i a1) σ r σ'
  | _ => True
set_option maxRecDepth 100000 in
theorem sp_258 {sx : zX} (S196 : zEe sx 196 2 qP_196) (S176 : zEe sx 176 3 qP_176) (S193 : zEe sx 193 3 qP_193) (S188 : zEe sx 188 1 qP_188) (S194 : zEe sx 194 2 qP_194) (S257 : zEe sx 257 3 qP_257) : zEe sx 258 2 qP_258 := by
  refine zfle zJ_258 (sps := [(196, 2, qP_196), (176, 3, qP_176), (193, 3, qP_193), (188, 1, qP_188), (194, 2, qP_194), (257, 3, qP_257)]) (fun q hq => by
    simp only [List.mem_cons, List.not_mem_nil, or_false] at hq
    rcases hq with rfl | rfl | rfl | rfl | rfl | rfl
    · exact S196
    · exact S176
    · exact S193
    · exact S188
    · exact S194
    · exact S257) (fun as σ hl => ?_)
  match as, hl with
  | [a0, a1], _ =>
  refine ⟨[], 400, ?_, ?_⟩
  · exact fun q hq => absurd hq List.not_mem_nil
  · refine fun o1 τ1 g1 => ?_
    obtain ⟨r1, rfl, g1⟩ := g1
    refine fun o2 τ2 g2 => ?_
    obtain ⟨r2, rfl, g2⟩ := g2
    refine And.intro (fun h3 => ?_) (fun h3 => ?_)
    · exact ⟨_, rfl, sp_258_et (q_r a0) (q_i a1) σ τ1 r1 τ2 r2 g1 g2 (cm1t h3)⟩
    · refine fun o4 τ4 g4 => ?_
      obtain ⟨r4, rfl, g4⟩ := g4
      refine fun o5 τ5 g5 => ?_
      obtain ⟨r5, rfl, g5⟩ := g5
      refine And.intro (fun h6 => ?_) (fun h6 => ?_)
      · refine fun o7 τ7 g7 => ?_
        obtain ⟨r7, rfl, rfl, y7, z7⟩ := g7
        have e7 := (y7 (by decide)).symm
        subst e7
        refine And.intro (fun h8 => absurd (show z_cmp 0 (Int32.ofInt (1)) 0 = true from h8) (by decide)) (fun _ => ?_)
        exact ⟨_, rfl, sp_258_eft (q_r a0) (q_i a1) σ τ1 r1 τ2 r2 τ4 r4 τ5 r5 g1 g2 (cm1f h3) g4 g5 (cm1t h6)⟩
      · refine fun o9 τ9 g9 => ?_
        obtain ⟨r9, rfl, g9⟩ := g9
        refine And.intro (fun h10 => ?_) (fun h10 => ?_)
        · refine fun o11 τ11 g11 => ?_
          obtain ⟨r11, rfl, rfl, y11, z11⟩ := g11
          have e11 := (z11 rfl).symm
          subst e11
          refine And.intro (fun _ => ?_) (fun h12 => absurd (show z_cmp 0 (Int32.ofInt (0)) 0 = false from h12) (by decide))
          refine fun o13 τ13 g13 => ?_
          obtain ⟨r13, rfl, g13⟩ := g13
          exact ⟨_, rfl, sp_258_efft (q_r a0) (q_i a1) σ τ1 r1 τ2 r2 τ4 r4 τ5 r5 τ9 r9 τ13 r13 g1 g2 (cm1f h3) g4 g5 (cm1f h6) g9 (cm0t h10) g13⟩
        · refine fun o14 τ14 g14 => ?_
          obtain ⟨r14, rfl, rfl, y14, z14⟩ := g14
          have e14 := (y14 (by decide)).symm
          subst e14
          refine And.intro (fun h15 => absurd (show z_cmp 0 (Int32.ofInt (1)) 0 = true from h15) (by decide)) (fun _ => ?_)
          exact ⟨_, rfl, sp_258_efff (q_r a0) (q_i a1) σ τ1 r1 τ2 r2 τ4 r4 τ5 r5 τ9 r9 g1 g2 (cm1f h3) g4 g5 (cm1f h6) g9 (cm0f h10)⟩
theorem zJ_259 : zJ3 259 z_m259 z_c259 z_h259 := ⟨rfl, rfl, rfl⟩
noncomputable def p_259 (a : Nat) (t : Int32) (σ : zSg) (r : Int32) (σ' : zSg) : Prop := a = 205 → ∀ A N nt, rJ σ A N → A 1 = Int32.ofNat nt → nt ≤ 8 → (¬ (0 ≤ t.toInt ∧ t.toInt < (nt : Int)) → r = Int32.ofInt 0 ∧ σ' = rTh σ 1) ∧ (∀ x, t = Int32.ofNat x → x < nt → ∀ i4, A 4 = Int32.ofNat i4 → i4 < 24 → (¬ (A (64 + 3 * x) = A (16 + i4) ∧ A (66 + 3 * x) = Int32.ofInt 1) → r = Int32.ofInt 0 ∧ σ' = rTh σ 2) ∧ ((A (64 + 3 * x) = A (16 + i4) ∧ A (66 + 3 * x) = Int32.ofInt 1) → rAc σ σ' (aU A (66 + 3 * x) (Int32.ofInt 0)) N ∧ r = aBs (aU A (66 + 3 * x) (Int32.ofInt 0)) (aLo (aU A (66 + 3 * x) (Int32.ofInt 0)) nt) nt))
theorem sp_259_et (a0 : Nat) (a1 : Int32) (σ : zSg) (τ1 : zSg) (r1 : Int32) (τ2 : zSg) (r2 : Int32) (g1 : p_196 a0 a1 (q_w σ a0 0 (.int (Int32.ofInt (0)))) r1 τ1) (g2 : p_176 a0 r1 (Int32.ofInt (1)) τ1 r2 τ2) (h3 : r2.toInt ≠ (0 : Int)) :
    p_259 (a0) (a1) σ (Int32.ofInt (0)) τ2 := by
  rintro rfl A N nt K u1 u8
  have w0 := K.w
  obtain ⟨e0, e1⟩ := g1
  have e0 : τ1 = r0 σ := e0
  subst e0
  have f1 := e1 rfl A w0 nt u1 u8
  obtain ⟨x0, y0, n0⟩ := g2
  rw [x0] at h3
  have m2 := y0 h3
  subst m2
  exact ⟨fun _ => ⟨rfl, r0_T⟩, fun x ex lx i4 e4 l4 => absurd (by rw [ex, o32 (by omega)]; omega) (f1.mp h3)⟩
theorem sp_259_eft (a0 : Nat) (a1 : Int32) (σ : zSg) (τ1 : zSg) (r1 : Int32) (τ2 : zSg) (r2 : Int32) (τ4 : zSg) (r4 : Int32) (τ5 : zSg) (r5 : Int32) (g1 : p_196 a0 a1 (q_w σ a0 0 (.int (Int32.ofInt (0)))) r1 τ1) (g2 : p_176 a0 r1 (Int32.ofInt (1)) τ1 r2 τ2) (h3 : r2.toInt = (0 : Int)) (g4 : p_193 a0 a1 (Int32.ofInt (0)) τ2 r4 τ4) (g5 : p_188 a0 τ4 r5 τ5) (h6 : r4.toInt ≠ r5.toInt) :
    p_259 (a0) (a1) σ (Int32.ofInt (0)) (q_w τ5 a0 0 (.int (Int32.ofInt (2)))) := by
  rintro rfl A N nt K u1 u8
  have w0 := K.w
  obtain ⟨e0, e1⟩ := g1
  have e0 : τ1 = r0 σ := e0
  subst e0
  have f1 := e1 rfl A w0 nt u1 u8
  obtain ⟨x0, y0, n0⟩ := g2
  rw [x0] at h3
  have m2 := n0 h3
  subst m2
  have u : 0 ≤ a1.toInt ∧ a1.toInt < (nt : Int) := Decidable.byContradiction fun w => f1.mpr w h3
  refine ⟨fun w => absurd u w, fun x ex lx i4 e4 l4 => ?_⟩
  subst ex
  have l8 : x < 8 := by omega
  obtain ⟨e2, g2⟩ := g4
  subst e2
  have x2 : r4 = A (64 + 3 * x) := g2 rfl A w0 x 0 rfl l8 rfl (by omega)
  obtain ⟨e3, g3⟩ := g5
  subst e3
  have x3 := g3 rfl A w0 i4 e4 l4
  rw [x2, x3] at h6
  exact ⟨fun _ => ⟨rfl, r0_T⟩, fun q => absurd (by rw [q.1]) h6⟩
theorem sp_259_efft (a0 : Nat) (a1 : Int32) (σ : zSg) (τ1 : zSg) (r1 : Int32) (τ2 : zSg) (r2 : Int32) (τ4 : zSg) (r4 : Int32) (τ5 : zSg) (r5 : Int32) (τ9 : zSg) (r9 : Int32) (τ13 : zSg) (r13 : Int32) (g1 : p_196 a0 a1 (q_w σ a0 0 (.int (Int32.ofInt (0)))) r1 τ1) (g2 : p_176 a0 r1 (Int32.ofInt (1)) τ1 r2 τ2) (h3 : r2.toInt = (0 : Int)) (g4 : p_193 a0 a1 (Int32.ofInt (0)) τ2 r4 τ4) (g5 : p_188 a0 τ4 r5 τ5) (h6 : r4.toInt = r5.toInt) (g9 : p_194 a0 a1 τ5 r9 τ9) (h10 : r9.toInt ≠ (0 : Int)) (g13 : p_257 a0 a1 (Int32.ofInt (0)) τ9 r13 τ13) :
    p_259 (a0) (a1) σ r13 τ13 := by
  rintro rfl A N nt K u1 u8
  have w0 := K.w
  obtain ⟨e0, e1⟩ := g1
  have e0 : τ1 = r0 σ := e0
  subst e0
  have f1 := e1 rfl A w0 nt u1 u8
  obtain ⟨x0, y0, n0⟩ := g2
  rw [x0] at h3
  have m2 := n0 h3
  subst m2
  have u : 0 ≤ a1.toInt ∧ a1.toInt < (nt : Int) := Decidable.byContradiction fun w => f1.mpr w h3
  refine ⟨fun w => absurd u w, fun x ex lx i4 e4 l4 => ?_⟩
  subst ex
  have l8 : x < 8 := by omega
  obtain ⟨e2, g2⟩ := g4
  subst e2
  have x2 : r4 = A (64 + 3 * x) := g2 rfl A w0 x 0 rfl l8 rfl (by omega)
  obtain ⟨e3, g3⟩ := g5
  subst e3
  have x3 := g3 rfl A w0 i4 e4 l4
  rw [x2, x3] at h6
  obtain ⟨e4', g4⟩ := g9
  subst e4'
  have x4 := g4 rfl A w0 x rfl l8
  refine ⟨fun q => absurd ⟨Int32.toInt_inj.mp h6, Decidable.byContradiction fun w => by rw [x4, if_neg w] at h10; exact absurd rfl h10⟩ q, fun _ => ?_⟩
  exact g13 rfl σ A N nt x rfl K u1 u8 rfl l8
theorem sp_259_efff (a0 : Nat) (a1 : Int32) (σ : zSg) (τ1 : zSg) (r1 : Int32) (τ2 : zSg) (r2 : Int32) (τ4 : zSg) (r4 : Int32) (τ5 : zSg) (r5 : Int32) (τ9 : zSg) (r9 : Int32) (g1 : p_196 a0 a1 (q_w σ a0 0 (.int (Int32.ofInt (0)))) r1 τ1) (g2 : p_176 a0 r1 (Int32.ofInt (1)) τ1 r2 τ2) (h3 : r2.toInt = (0 : Int)) (g4 : p_193 a0 a1 (Int32.ofInt (0)) τ2 r4 τ4) (g5 : p_188 a0 τ4 r5 τ5) (h6 : r4.toInt = r5.toInt) (g9 : p_194 a0 a1 τ5 r9 τ9) (h10 : r9.toInt = (0 : Int)) :
    p_259 (a0) (a1) σ (Int32.ofInt (0)) (q_w τ9 a0 0 (.int (Int32.ofInt (2)))) := by
  rintro rfl A N nt K u1 u8
  have w0 := K.w
  obtain ⟨e0, e1⟩ := g1
  have e0 : τ1 = r0 σ := e0
  subst e0
  have f1 := e1 rfl A w0 nt u1 u8
  obtain ⟨x0, y0, n0⟩ := g2
  rw [x0] at h3
  have m2 := n0 h3
  subst m2
  have u : 0 ≤ a1.toInt ∧ a1.toInt < (nt : Int) := Decidable.byContradiction fun w => f1.mpr w h3
  refine ⟨fun w => absurd u w, fun x ex lx i4 e4 l4 => ?_⟩
  subst ex
  have l8 : x < 8 := by omega
  obtain ⟨e2, g2⟩ := g4
  subst e2
  have x2 : r4 = A (64 + 3 * x) := g2 rfl A w0 x 0 rfl l8 rfl (by omega)
  obtain ⟨e3, g3⟩ := g5
  subst e3
  have x3 := g3 rfl A w0 i4 e4 l4
  rw [x2, x3] at h6
  obtain ⟨e4', g4⟩ := g9
  subst e4'
  have x4 := g4 rfl A w0 x rfl l8
  exact ⟨fun _ => ⟨rfl, r0_T⟩, fun q => (by rw [x4, if_pos q.2] at h10; exact absurd h10 (by decide))⟩
noncomputable def qP_259 : zPp := fun as σ o σ' => match as with
  | [a0, a1] => ∃ r, o = .inl (some (.int r)) ∧ p_259 (q_r a0) (q_i a1) σ r σ'
  | _ => True
set_option maxRecDepth 100000 in
theorem sp_259 {sx : zX} (S196 : zEe sx 196 2 qP_196) (S176 : zEe sx 176 3 qP_176) (S193 : zEe sx 193 3 qP_193) (S188 : zEe sx 188 1 qP_188) (S194 : zEe sx 194 2 qP_194) (S257 : zEe sx 257 3 qP_257) : zEe sx 259 2 qP_259 := by
  refine zfle zJ_259 (sps := [(196, 2, qP_196), (176, 3, qP_176), (193, 3, qP_193), (188, 1, qP_188), (194, 2, qP_194), (257, 3, qP_257)]) (fun q hq => by
    simp only [List.mem_cons, List.not_mem_nil, or_false] at hq
    rcases hq with rfl | rfl | rfl | rfl | rfl | rfl
    · exact S196
    · exact S176
    · exact S193
    · exact S188
    · exact S194
    · exact S257) (fun as σ hl => ?_)
  match as, hl with
  | [a0, a1], _ =>
  refine ⟨[], 400, ?_, ?_⟩
  · exact fun q hq => absurd hq List.not_mem_nil
  · refine fun o1 τ1 g1 => ?_
    obtain ⟨r1, rfl, g1⟩ := g1
    refine fun o2 τ2 g2 => ?_
    obtain ⟨r2, rfl, g2⟩ := g2
    refine And.intro (fun h3 => ?_) (fun h3 => ?_)
    · exact ⟨_, rfl, sp_259_et (q_r a0) (q_i a1) σ τ1 r1 τ2 r2 g1 g2 (cm1t h3)⟩
    · refine fun o4 τ4 g4 => ?_
      obtain ⟨r4, rfl, g4⟩ := g4
      refine fun o5 τ5 g5 => ?_
      obtain ⟨r5, rfl, g5⟩ := g5
      refine And.intro (fun h6 => ?_) (fun h6 => ?_)
      · refine fun o7 τ7 g7 => ?_
        obtain ⟨r7, rfl, rfl, y7, z7⟩ := g7
        have e7 := (y7 (by decide)).symm
        subst e7
        refine And.intro (fun h8 => absurd (show z_cmp 0 (Int32.ofInt (1)) 0 = true from h8) (by decide)) (fun _ => ?_)
        exact ⟨_, rfl, sp_259_eft (q_r a0) (q_i a1) σ τ1 r1 τ2 r2 τ4 r4 τ5 r5 g1 g2 (cm1f h3) g4 g5 (cm1t h6)⟩
      · refine fun o9 τ9 g9 => ?_
        obtain ⟨r9, rfl, g9⟩ := g9
        refine And.intro (fun h10 => ?_) (fun h10 => ?_)
        · refine fun o11 τ11 g11 => ?_
          obtain ⟨r11, rfl, rfl, y11, z11⟩ := g11
          have e11 := (z11 rfl).symm
          subst e11
          refine And.intro (fun _ => ?_) (fun h12 => absurd (show z_cmp 0 (Int32.ofInt (0)) 0 = false from h12) (by decide))
          refine fun o13 τ13 g13 => ?_
          obtain ⟨r13, rfl, g13⟩ := g13
          exact ⟨_, rfl, sp_259_efft (q_r a0) (q_i a1) σ τ1 r1 τ2 r2 τ4 r4 τ5 r5 τ9 r9 τ13 r13 g1 g2 (cm1f h3) g4 g5 (cm1f h6) g9 (cm1t h10) g13⟩
        · refine fun o14 τ14 g14 => ?_
          obtain ⟨r14, rfl, rfl, y14, z14⟩ := g14
          have e14 := (y14 (by decide)).symm
          subst e14
          refine And.intro (fun h15 => absurd (show z_cmp 0 (Int32.ofInt (1)) 0 = true from h15) (by decide)) (fun _ => ?_)
          exact ⟨_, rfl, sp_259_efff (q_r a0) (q_i a1) σ τ1 r1 τ2 r2 τ4 r4 τ5 r5 τ9 r9 g1 g2 (cm1f h3) g4 g5 (cm1f h6) g9 (cm1f h10)⟩
theorem zJ_260 : zJ3 260 z_m260 z_c260 z_h260 := ⟨rfl, rfl, rfl⟩
noncomputable def p_260 (a : Nat) (σ : zSg) (r : Int32) (σ' : zSg) : Prop := a = 205 → ∀ A N, rJ σ A N → ∀ i4, A 4 = Int32.ofNat i4 → i4 < 24 → (A (16 + i4) = Int32.ofInt (-1) → r = Int32.ofInt 0 ∧ σ' = rTh σ 1) ∧ (∀ F, A (16 + i4) = Int32.ofNat F → F < 6 → (¬ ((A 8).toInt ≠ 0 ∧ (A 8).toInt ≤ (A (40 + 4 * F)).toInt) → r = Int32.ofInt 0 ∧ σ' = rTh σ 1) ∧ (((A 8).toInt ≠ 0 ∧ (A 8).toInt ≤ (A (40 + 4 * F)).toInt) → r = A (40 + 4 * F) - A 8 ∧ rAc σ σ' (aU (aU A (40 + 4 * F) (A (40 + 4 * F) - A 8)) 8 (Int32.ofInt 0)) N))
theorem sp_260_et (a0 : Nat) (σ : zSg) (τ1 : zSg) (r1 : Int32) (g1 : p_188 a0 (q_w σ a0 0 (.int (Int32.ofInt (0)))) r1 τ1) (h2 : r1.toInt = (-1 : Int)) :
    p_260 (a0) σ (Int32.ofInt (0)) (q_w τ1 a0 0 (.int (Int32.ofInt (1)))) := by
  rintro rfl A N K i4 e4 l4
  have w0 := K.w
  obtain ⟨e0, g1⟩ := g1
  have e0 : τ1 = r0 σ := e0
  subst e0
  have xf := g1 rfl A w0 i4 e4 l4
  rw [xf] at h2
  refine ⟨fun _ => ⟨rfl, r0_T⟩, fun F eF lF => ?_⟩
  rw [eF, o32 (by omega)] at h2
  exact absurd h2 (by omega)
theorem sp_260_eft (a0 : Nat) (σ : zSg) (τ1 : zSg) (r1 : Int32) (g1 : p_188 a0 (q_w σ a0 0 (.int (Int32.ofInt (0)))) r1 τ1) (h2 : r1.toInt ≠ (-1 : Int)) (h5 : 0 ≤ (Int32.ofInt (8)).toInt ∧ (Int32.ofInt (8)).toInt < (τ1.2.1 (q_r (τ1.1 a0 1)) : Int)) (h6 : (q_i (τ1.1 (q_r (τ1.1 a0 1)) (Int32.ofInt (8)).toNatClampNeg)).toInt = (0 : Int)) :
    p_260 (a0) σ (Int32.ofInt (0)) (q_w τ1 a0 0 (.int (Int32.ofInt (1)))) := by
  rintro rfl A N K i4 e4 l4
  have w0 := K.w
  obtain ⟨e0, g1⟩ := g1
  have e0 : τ1 = r0 σ := e0
  subst e0
  have xf := g1 rfl A w0 i4 e4 l4
  rw [xf] at h2
  refine ⟨fun w => absurd (by rw [w]; rfl) h2, fun F eF lF => ?_⟩
  have z8 : (Int32.ofInt 8).toNatClampNeg = 8 := rfl
  rw [w0.q, z8, w0.i (k := 8) (by omega)] at h6
  exact ⟨fun _ => ⟨rfl, r0_T⟩, fun q => absurd h6 q.1⟩
theorem sp_260_efft (a0 : Nat) (σ : zSg) (τ1 : zSg) (r1 : Int32) (τ9 : zSg) (r9 : Int32) (τ14 : zSg) (τ15 : zSg) (r15 : Int32) (τ20 : zSg) (r20 : Int32) (g1 : p_188 a0 (q_w σ a0 0 (.int (Int32.ofInt (0)))) r1 τ1) (h2 : r1.toInt ≠ (-1 : Int)) (h5 : 0 ≤ (Int32.ofInt (8)).toInt ∧ (Int32.ofInt (8)).toInt < (τ1.2.1 (q_r (τ1.1 a0 1)) : Int)) (h6 : (q_i (τ1.1 (q_r (τ1.1 a0 1)) (Int32.ofInt (8)).toNatClampNeg)).toInt ≠ (0 : Int)) (g9 : p_190 a0 r1 (Int32.ofInt (0)) τ1 r9 τ9) (h10 : 0 ≤ (Int32.ofInt (8)).toInt ∧ (Int32.ofInt (8)).toInt < (τ9.2.1 (q_r (τ9.1 a0 1)) : Int)) (h11 : r9.toInt ≥ (q_i (τ9.1 (q_r (τ9.1 a0 1)) (Int32.ofInt (8)).toNatClampNeg)).toInt) (g14 : p_182 a0 τ9 τ14) (g15 : p_189 r1 (Int32.ofInt (0)) τ14 r15 τ15) (h16 : 0 ≤ r15.toInt ∧ r15.toInt < (τ15.2.1 (q_r (τ14.1 a0 1)) : Int)) (h17 : 0 ≤ (Int32.ofInt (8)).toInt ∧ (Int32.ofInt (8)).toInt < (τ15.2.1 (q_r (τ15.1 a0 1)) : Int)) (h18 : 0 ≤ r15.toInt ∧ r15.toInt < (τ15.2.1 (q_r (τ14.1 a0 1)) : Int)) (h19 : 0 ≤ (Int32.ofInt (8)).toInt ∧ (Int32.ofInt (8)).toInt < ((q_w τ15 (q_r (τ14.1 a0 1)) r15.toNatClampNeg (.int ((q_i (τ15.1 (q_r (τ14.1 a0 1)) r15.toNatClampNeg)) - (q_i (τ15.1 (q_r (τ15.1 a0 1)) (Int32.ofInt (8)).toNatClampNeg))))).2.1 (q_r ((q_w τ15 (q_r (τ14.1 a0 1)) r15.toNatClampNeg (.int ((q_i (τ15.1 (q_r (τ14.1 a0 1)) r15.toNatClampNeg)) - (q_i (τ15.1 (q_r (τ15.1 a0 1)) (Int32.ofInt (8)).toNatClampNeg))))).1 a0 1)) : Int)) (g20 : p_190 a0 r1 (Int32.ofInt (0)) (q_w (q_w τ15 (q_r (τ14.1 a0 1)) r15.toNatClampNeg (.int ((q_i (τ15.1 (q_r (τ14.1 a0 1)) r15.toNatClampNeg)) - (q_i (τ15.1 (q_r (τ15.1 a0 1)) (Int32.ofInt (8)).toNatClampNeg))))) (q_r ((q_w τ15 (q_r (τ14.1 a0 1)) r15.toNatClampNeg (.int ((q_i (τ15.1 (q_r (τ14.1 a0 1)) r15.toNatClampNeg)) - (q_i (τ15.1 (q_r (τ15.1 a0 1)) (Int32.ofInt (8)).toNatClampNeg))))).1 a0 1)) (Int32.ofInt (8)).toNatClampNeg (.int (Int32.ofInt (0)))) r20 τ20) :
    p_260 (a0) σ r20 τ20 := by
  rintro rfl A N K i4 e4 l4
  have w0 := K.w
  obtain ⟨e0, g1⟩ := g1
  have e0 : τ1 = r0 σ := e0
  subst e0
  have xf := g1 rfl A w0 i4 e4 l4
  rw [xf] at h2
  refine ⟨fun w => absurd (by rw [w]; rfl) h2, fun F eF lF => ?_⟩
  have z8 : (Int32.ofInt 8).toNatClampNeg = 8 := rfl
  rw [w0.q, z8, w0.i (k := 8) (by omega)] at h6
  rw [xf, eF] at g9
  obtain ⟨e2, g2⟩ := g9
  subst e2
  have x2 : r9 = A (40 + 4 * F) := g2 rfl A w0 F 0 rfl lF rfl (by omega)
  rw [x2, w0.q, z8, w0.i (k := 8) (by omega)] at h11
  refine ⟨fun q => absurd ⟨h6, by omega⟩ q, fun _ => ?_⟩
  obtain ⟨R, ks⟩ := K.rm g14
  rw [xf, eF] at g15
  obtain ⟨e4', rfl⟩ := g15
  subst e4'
  have R1 := R.w (k := 40 + 4 * F) (v := A (40 + 4 * F) - A 8) (by omega)
  have R2 := R1.w (k := 8) (v := Int32.ofInt 0) (by omega)
  simp only [R.2.2.q, at4_0 lF, z8, R.2.2.i (show 40 + 4 * F < 388 by omega), R.2.2.i (show 8 < 388 by omega), R1.2.2.q, xf, eF] at g20
  obtain ⟨e5, g5⟩ := g20
  subst e5
  have x5 := g5 rfl _ R2.2.2 F 0 rfl lF rfl (by omega)
  rw [x5]
  exact ⟨(aU_ne (by omega)).trans aU_at, R2⟩
theorem sp_260_efff (a0 : Nat) (σ : zSg) (τ1 : zSg) (r1 : Int32) (τ9 : zSg) (r9 : Int32) (g1 : p_188 a0 (q_w σ a0 0 (.int (Int32.ofInt (0)))) r1 τ1) (h2 : r1.toInt ≠ (-1 : Int)) (h5 : 0 ≤ (Int32.ofInt (8)).toInt ∧ (Int32.ofInt (8)).toInt < (τ1.2.1 (q_r (τ1.1 a0 1)) : Int)) (h6 : (q_i (τ1.1 (q_r (τ1.1 a0 1)) (Int32.ofInt (8)).toNatClampNeg)).toInt ≠ (0 : Int)) (g9 : p_190 a0 r1 (Int32.ofInt (0)) τ1 r9 τ9) (h10 : 0 ≤ (Int32.ofInt (8)).toInt ∧ (Int32.ofInt (8)).toInt < (τ9.2.1 (q_r (τ9.1 a0 1)) : Int)) (h11 : r9.toInt < (q_i (τ9.1 (q_r (τ9.1 a0 1)) (Int32.ofInt (8)).toNatClampNeg)).toInt) :
    p_260 (a0) σ (Int32.ofInt (0)) (q_w τ9 a0 0 (.int (Int32.ofInt (1)))) := by
  rintro rfl A N K i4 e4 l4
  have w0 := K.w
  obtain ⟨e0, g1⟩ := g1
  have e0 : τ1 = r0 σ := e0
  subst e0
  have xf := g1 rfl A w0 i4 e4 l4
  rw [xf] at h2
  refine ⟨fun w => absurd (by rw [w]; rfl) h2, fun F eF lF => ?_⟩
  have z8 : (Int32.ofInt 8).toNatClampNeg = 8 := rfl
  rw [w0.q, z8, w0.i (k := 8) (by omega)] at h6
  rw [xf, eF] at g9
  obtain ⟨e2, g2⟩ := g9
  subst e2
  have x2 : r9 = A (40 + 4 * F) := g2 rfl A w0 F 0 rfl lF rfl (by omega)
  rw [x2, w0.q, z8, w0.i (k := 8) (by omega)] at h11
  exact ⟨fun _ => ⟨rfl, r0_T⟩, fun q => absurd q.2 (by omega)⟩
noncomputable def qP_260 : zPp := fun as σ o σ' => match as with
  | [a0] => ∃ r, o = .inl (some (.int r)) ∧ p_260 (q_r a0) σ r σ'
  | _ => True
set_option maxRecDepth 100000 in
theorem sp_260 {sx : zX} (S188 : zEe sx 188 1 qP_188) (S176 : zEe sx 176 3 qP_176) (S190 : zEe sx 190 3 qP_190) (S182 : zEe sx 182 1 qP_182) (S189 : zEe sx 189 2 qP_189) : zEe sx 260 1 qP_260 := by
  refine zfle zJ_260 (sps := [(188, 1, qP_188), (176, 3, qP_176), (190, 3, qP_190), (182, 1, qP_182), (189, 2, qP_189)]) (fun q hq => by
    simp only [List.mem_cons, List.not_mem_nil, or_false] at hq
    rcases hq with rfl | rfl | rfl | rfl | rfl
    · exact S188
    · exact S176
    · exact S190
    · exact S182
    · exact S189) (fun as σ hl => ?_)
  match as, hl with
  | [a0], _ =>
  refine ⟨[], 400, ?_, ?_⟩
  · exact fun q hq => absurd hq List.not_mem_nil
  · refine fun o1 τ1 g1 => ?_
    obtain ⟨r1, rfl, g1⟩ := g1
    refine And.intro (fun h2 => ?_) (fun h2 => ?_)
    · refine fun o3 τ3 g3 => ?_
      obtain ⟨r3, rfl, rfl, y3, z3⟩ := g3
      have e3 := (y3 (by decide)).symm
      subst e3
      refine And.intro (fun h4 => absurd (show z_cmp 0 (Int32.ofInt (1)) 0 = true from h4) (by decide)) (fun _ => ?_)
      exact ⟨_, rfl, sp_260_et (q_r a0) σ τ1 r1 g1 (cm0t h2)⟩
    · refine fun h5 => ?_
      refine And.intro (fun h6 => ?_) (fun h6 => ?_)
      · refine fun o7 τ7 g7 => ?_
        obtain ⟨r7, rfl, rfl, y7, z7⟩ := g7
        have e7 := (y7 (by decide)).symm
        subst e7
        refine And.intro (fun h8 => absurd (show z_cmp 0 (Int32.ofInt (1)) 0 = true from h8) (by decide)) (fun _ => ?_)
        exact ⟨_, rfl, sp_260_eft (q_r a0) σ τ1 r1 g1 (cm0f h2) (q_inp h5) (cm0t h6)⟩
      · refine fun o9 τ9 g9 => ?_
        obtain ⟨r9, rfl, g9⟩ := g9
        refine fun h10 => ?_
        refine And.intro (fun h11 => ?_) (fun h11 => ?_)
        · refine fun o12 τ12 g12 => ?_
          obtain ⟨r12, rfl, rfl, y12, z12⟩ := g12
          have e12 := (z12 rfl).symm
          subst e12
          refine And.intro (fun _ => ?_) (fun h13 => absurd (show z_cmp 0 (Int32.ofInt (0)) 0 = false from h13) (by decide))
          refine fun o14 τ14 g14 => ?_
          obtain ⟨rfl, g14⟩ := g14
          refine fun o15 τ15 g15 => ?_
          obtain ⟨r15, rfl, g15⟩ := g15
          refine fun h16 => ?_
          refine fun h17 => ?_
          refine fun h18 => ?_
          refine fun h19 => ?_
          refine fun o20 τ20 g20 => ?_
          obtain ⟨r20, rfl, g20⟩ := g20
          exact ⟨_, rfl, sp_260_efft (q_r a0) σ τ1 r1 τ9 r9 τ14 τ15 r15 τ20 r20 g1 (cm0f h2) (q_inp h5) (cm0f h6) g9 (q_inp h10) (cm3t h11) g14 g15 (q_inp h16) (q_inp h17) (q_inp h18) (q_inp h19) g20⟩
        · refine fun o21 τ21 g21 => ?_
          obtain ⟨r21, rfl, rfl, y21, z21⟩ := g21
          have e21 := (y21 (by decide)).symm
          subst e21
          refine And.intro (fun h22 => absurd (show z_cmp 0 (Int32.ofInt (1)) 0 = true from h22) (by decide)) (fun _ => ?_)
          exact ⟨_, rfl, sp_260_efff (q_r a0) σ τ1 r1 τ9 r9 g1 (cm0f h2) (q_inp h5) (cm0f h6) g9 (q_inp h10) (cm3f h11)⟩
end
section
/-! A LAW'S EVALUATION, pure: steps (0 to 7 what is seen, 8 a number, 9 plus, 10 less, 11 more, 12 not, 13 and, 14 or) over a stack; typed (true: 0 or 1), at most 32 deep; what the grammar reads is typed -/
noncomputable def eV (fa : Nat → Int32) (x : Nat × Nat) : Int32 := if x.1 = 8 then Int32.ofNat x.2 else fa x.1
noncomputable def eJ (k : Nat) (a b : Int32) : Int32 := if k = 9 then a + b else if k = 10 then (if a < b then Int32.ofInt 1 else Int32.ofInt 0) else if k = 11 then (if b < a then Int32.ofInt 1 else Int32.ofInt 0) else if k = 13 then a &&& b else a ||| b
noncomputable def eS (fa : Nat → Int32) (x : Nat × Nat) : List Int32 → List Int32
  | [] => [eV fa x]
  | a :: r => if x.1 ≤ 8 then eV fa x :: a :: r else if x.1 = 12 then (Int32.ofInt 1 - a) :: r else (match r with
    | [] => [a]
    | b :: q => eJ x.1 b a :: q)
noncomputable def eT (x : Nat × Nat) (s : List Bool) : Option (List Bool) :=
  if x.1 ≤ 8 then (if s.length < 32 ∧ x.2 ≤ 999 then some ((decide (x.1 = 6) || decide (x.1 = 7)) :: s) else none) else (match s with
    | [] => none
    | a :: r => if x.1 = 12 then (if a = true then some (true :: r) else none) else (match r with
      | [] => none
      | b :: q => if x.1 = 9 then (if a = false ∧ b = false then some (false :: q) else none) else if x.1 = 10 ∨ x.1 = 11 then (if a = false ∧ b = false then some (true :: q) else none) else if x.1 = 13 ∨ x.1 = 14 then (if a = true ∧ b = true then some (true :: q) else none) else none))
/-- from place i on, n steps -/
noncomputable def eRn (fa : Nat → Int32) (l : zSs) : Nat → Nat → List Int32 → List Int32
  | 0, _, v => v
  | n + 1, i, v => match l[i]? with
    | some x => eRn fa l n (i + 1) (eS fa x v)
    | none => v
noncomputable def eTn (l : zSs) : Nat → Nat → List Bool → Option (List Bool)
  | 0, _, s => some s
  | n + 1, i, s => match l[i]? with
    | some x => (match eT x s with
      | some s' => eTn l n (i + 1) s'
      | none => none)
    | none => none
noncomputable def eTs : zSs → List Bool → Option (List Bool)
  | [], s => some s
  | x :: l, s => match eT x s with
    | some s' => eTs l s'
    | none => none
noncomputable def eK : List Bool → List Int32 → Prop
  | [], [] => True
  | t :: s, a :: v => (t = true → a = Int32.ofInt 0 ∨ a = Int32.ofInt 1) ∧ eK s v
  | _, _ => False
theorem eK.len : ∀ {s : List Bool} {v : List Int32}, eK s v → s.length = v.length
  | [], [], _ => rfl
  | _ :: s, _ :: v, h => congrArg (· + 1) (eK.len h.2)
  | [], _ :: _, h => h.elim
  | _ :: _, [], h => h.elim
noncomputable def eF (fa : Nat → Int32) : Prop := (fa 6 = Int32.ofInt 0 ∨ fa 6 = Int32.ofInt 1) ∧ (fa 7 = Int32.ofInt 0 ∨ fa 7 = Int32.ofInt 1)
theorem eS_push {fa : Nat → Int32} {x : Nat × Nat} (h : x.1 ≤ 8) : ∀ v, eS fa x v = eV fa x :: v
  | [] => rfl
  | a :: r => by show (if x.1 ≤ 8 then _ else _) = _; rw [if_pos h]
theorem eT_push {x : Nat × Nat} {s s' : List Bool} (h : x.1 ≤ 8) (e : eT x s = some s') : s.length < 32 ∧ x.2 ≤ 999 ∧ s' = (decide (x.1 = 6) || decide (x.1 = 7)) :: s := by
  unfold eT at e
  rw [if_pos h] at e
  by_cases g : s.length < 32 ∧ x.2 ≤ 999
  · rw [if_pos g] at e
    exact ⟨g.1, g.2, (Option.some.inj e).symm⟩
  · rw [if_neg g] at e; cases e
theorem eT_not {x : Nat × Nat} {s s' : List Bool} (h : x.1 = 12) (e : eT x s = some s') : ∃ r, s = true :: r ∧ s' = true :: r := by
  unfold eT at e
  rw [if_neg (by omega)] at e
  cases s with
  | nil => cases e
  | cons a r =>
    dsimp only at e
    rw [if_pos h] at e
    cases a
    · rw [if_neg (by decide)] at e; cases e
    · rw [if_pos rfl] at e
      exact ⟨r, rfl, (Option.some.inj e).symm⟩
theorem eT_join {x : Nat × Nat} {s s' : List Bool} (h : ¬ x.1 ≤ 8) (h2 : x.1 ≠ 12) (e : eT x s = some s') : ∃ q, (x.1 = 9 ∧ s = false :: false :: q ∧ s' = false :: q) ∨ ((x.1 = 10 ∨ x.1 = 11) ∧ s = false :: false :: q ∧ s' = true :: q) ∨ ((x.1 = 13 ∨ x.1 = 14) ∧ s = true :: true :: q ∧ s' = true :: q) := by
  unfold eT at e
  rw [if_neg h] at e
  cases s with
  | nil => cases e
  | cons a r =>
    dsimp only at e
    rw [if_neg h2] at e
    cases r with
    | nil => cases e
    | cons b q =>
      dsimp only at e
      by_cases c1 : x.1 = 9
      · rw [if_pos c1] at e
        by_cases c : a = false ∧ b = false
        · rw [if_pos c] at e
          exact ⟨q, Or.inl ⟨c1, by rw [c.1, c.2], (Option.some.inj e).symm⟩⟩
        · rw [if_neg c] at e; cases e
      rw [if_neg c1] at e
      by_cases c2 : x.1 = 10 ∨ x.1 = 11
      · rw [if_pos c2] at e
        by_cases c : a = false ∧ b = false
        · rw [if_pos c] at e
          exact ⟨q, Or.inr (Or.inl ⟨c2, by rw [c.1, c.2], (Option.some.inj e).symm⟩)⟩
        · rw [if_neg c] at e; cases e
      rw [if_neg c2] at e
      by_cases c3 : x.1 = 13 ∨ x.1 = 14
      · rw [if_pos c3] at e
        by_cases c : a = true ∧ b = true
        · rw [if_pos c] at e
          exact ⟨q, Or.inr (Or.inr ⟨c3, by rw [c.1, c.2], (Option.some.inj e).symm⟩)⟩
        · rw [if_neg c] at e; cases e
      rw [if_neg c3] at e
      cases e
theorem eK.step {fa : Nat → Int32} (hf : eF fa) {x : Nat × Nat} {s s' : List Bool} {v : List Int32} (k : eK s v) (e : eT x s = some s') : eK s' (eS fa x v) := by
  by_cases h8 : x.1 ≤ 8
  · obtain ⟨-, -, rfl⟩ := eT_push h8 e
    rw [eS_push h8]
    refine ⟨fun q => ?_, k⟩
    rw [Bool.or_eq_true, decide_eq_true_eq, decide_eq_true_eq] at q
    unfold eV
    rw [if_neg (by omega)]
    rcases q with q | q <;> rw [q]
    · exact hf.1
    · exact hf.2
  by_cases h12 : x.1 = 12
  · obtain ⟨r, rfl, rfl⟩ := eT_not h12 e
    cases v with
    | nil => exact k.elim
    | cons a v =>
      show eK (true :: r) (if x.1 ≤ 8 then _ else if x.1 = 12 then _ else _)
      rw [if_neg h8, if_pos h12]
      refine ⟨fun _ => ?_, k.2⟩
      rcases k.1 rfl with rfl | rfl
      · exact Or.inr (by decide)
      · exact Or.inl (by decide)
  obtain ⟨q, hq⟩ := eT_join h8 h12 e
  have two : ∃ t1 t2 t3, s = t1 :: t2 :: q ∧ s' = t3 :: q := by
    rcases hq with ⟨-, a, b⟩ | ⟨-, a, b⟩ | ⟨-, a, b⟩ <;> exact ⟨_, _, _, a, b⟩
  obtain ⟨t1, t2, t3, rfl, rfl⟩ := two
  match v, k with
  | a :: b :: v, k =>
    show eK (t3 :: q) (if x.1 ≤ 8 then _ else if x.1 = 12 then _ else _)
    rw [if_neg h8, if_neg h12]
    refine ⟨fun ht => ?_, k.2.2⟩
    rcases hq with ⟨-, a1, b1⟩ | ⟨c, a1, b1⟩ | ⟨c, a1, b1⟩
    · cases b1; cases ht
    · unfold eJ
      rcases c with c | c
      · rw [if_neg (by omega), if_pos c]
        by_cases g : b < a
        · rw [if_pos g]; exact Or.inr rfl
        · rw [if_neg g]; exact Or.inl rfl
      · rw [if_neg (by omega), if_neg (by omega), if_pos c]
        by_cases g : a < b
        · rw [if_pos g]; exact Or.inr rfl
        · rw [if_neg g]; exact Or.inl rfl
    · cases a1
      unfold eJ
      rw [if_neg (by omega), if_neg (by omega), if_neg (by omega)]
      have ha := k.1 rfl
      have hb := k.2.1 rfl
      rcases c with c | c
      · rw [if_pos c]
        rcases ha with rfl | rfl <;> rcases hb with rfl | rfl <;> decide
      · rw [if_neg (by omega)]
        rcases ha with rfl | rfl <;> rcases hb with rfl | rfl <;> decide
/-! lists of steps -/
theorem eTs_app : ∀ (l m : zSs) (s : List Bool), eTs (l ++ m) s = (match eTs l s with | some s' => eTs m s' | none => none)
  | [], _, _ => rfl
  | x :: l, m, s => by
    show (match eT x s with | some s' => eTs (l ++ m) s' | none => none) = (match (match eT x s with | some s' => eTs l s' | none => none) with | some s' => eTs m s' | none => none)
    cases eT x s with
    | none => rfl
    | some s' => exact eTs_app l m s'
theorem eTs_ap {l m : zSs} {s s' : List Bool} (h : eTs l s = some s') : eTs (l ++ m) s = eTs m s' := by rw [eTs_app, h]
theorem eTs_1 {x : Nat × Nat} {s : List Bool} : eTs [x] s = eT x s := by
  show (match eT x s with | some s' => some s' | none => none) = _
  cases eT x s <;> rfl
theorem tws_lt {b : Nat → Int} {E A A1 c : Nat} : ∀ (ws : List (List Int)) (c0 : Nat), tws b E A ws c0 = some (A1, c) → c < c0 + ws.length
  | [], _, h => by cases h
  | w :: ws, c0, h => by
    unfold tws at h
    cases h1 : tw b E w A with
    | some A2 =>
      rw [h1] at h
      injection h with h
      injection h with h h'
      subst h'
      show c0 < c0 + (ws.length + 1)
      omega
    | none =>
      rw [h1] at h
      have := tws_lt ws (c0 + 1) h
      show c < c0 + (ws.length + 1)
      omega
theorem gPart_ty {b : Nat → Int} {E A A1 : Nat} {l : zSs} (h : gPart b E A = .inl (A1, l)) {s : List Bool} (hs : s.length + 1 ≤ 32) : eTs l s = some (false :: s) := by
  unfold gPart at h
  by_cases c : A < E ∧ 48 ≤ b A ∧ b A ≤ 57
  · rw [if_pos c] at h
    cases h1 : tn b E 0 999 A with
    | none => rw [h1] at h; cases h
    | some q =>
      obtain ⟨A2, v⟩ := q
      rw [h1] at h
      injection h with h
      injection h with h h'
      subst h'
      have := tn_rg h1
      rw [eTs_1]
      unfold eT
      rw [if_pos (by show 8 ≤ 8; omega), if_pos (by show s.length < 32 ∧ v ≤ 999; omega)]
      rfl
  · rw [if_neg c] at h
    cases h1 : tws b E A [wFamily, wHour, wHeat, wDirt, wQuarrel, wLeft] 0 with
    | none => rw [h1] at h; cases h
    | some q =>
      obtain ⟨A2, k⟩ := q
      rw [h1] at h
      injection h with h
      injection h with h h'
      subst h'
      have hk := tws_lt _ _ h1
      have hk : k < 6 := by simpa using hk
      rw [eTs_1]
      unfold eT
      rw [if_pos (by show k ≤ 8; omega), if_pos (by show s.length < 32 ∧ 0 ≤ 999; omega)]
      show some ((decide (k = 6) || decide (k = 7)) :: s) = _
      rw [decide_eq_false (by omega), decide_eq_false (by omega)]
      rfl
theorem gSumL_ty {b : Nat → Int} {E : Nat} {s : List Bool} (hs : s.length + 2 ≤ 32) : ∀ {n A A1 : Nat} {l l' : zSs}, gSumL b E n A l = some (.inl (A1, l')) → eTs l s = some (false :: s) → eTs l' s = some (false :: s)
  | 0, _, _, _, _, h, _ => by cases h
  | n + 1, A, A1, l, l', h, hl => by
    unfold gSumL at h
    cases h1 : ts b E 43 A with
    | none =>
      rw [h1] at h
      injection h with h
      injection h with h
      injection h with h h'
      rw [← h']; exact hl
    | some A2 =>
      rw [h1] at h
      dsimp only at h
      cases h2 : gPart b E A2 with
      | inr F => rw [h2] at h; injection h with h; cases h
      | inl q =>
        obtain ⟨A3, m⟩ := q
        rw [h2] at h
        refine gSumL_ty hs h ?_
        rw [eTs_ap (show eTs (l ++ m) s = some (false :: false :: s) by rw [eTs_ap hl]; exact gPart_ty h2 (by show s.length + 1 + 1 ≤ 32; omega)), eTs_1]
        rfl
theorem gSum_ty {b : Nat → Int} {E : Nat} {s : List Bool} (hs : s.length + 2 ≤ 32) {n A A1 : Nat} {l : zSs} (h : gSum b E n A = some (.inl (A1, l))) : eTs l s = some (false :: s) := by
  unfold gSum at h
  cases h2 : gPart b E A with
  | inr F => rw [h2] at h; injection h with h; cases h
  | inl q =>
    obtain ⟨A3, m⟩ := q
    rw [h2] at h
    exact gSumL_ty hs h (gPart_ty h2 (by omega))
theorem gBase_ty {b : Nat → Int} {E : Nat} {s : List Bool} (hs : s.length + 3 ≤ 32) {n A A1 : Nat} {l : zSs} (h : gBase b E n A = some (.inl (A1, l))) : eTs l s = some (true :: s) := by
  have tg : ∀ k, k = 6 ∨ k = 7 → eTs [(k, 0)] s = some (true :: s) := by
    intro k hk
    rw [eTs_1]
    unfold eT
    rw [if_pos (by show k ≤ 8; omega), if_pos (by show s.length < 32 ∧ 0 ≤ 999; omega)]
    rcases hk with rfl | rfl <;> rfl
  have cm : ∀ {A2 A3 A4 : Nat} {l1 m : zSs} {k : Nat}, k = 10 ∨ k = 11 → gSum b E n A = some (.inl (A2, l1)) → gSum b E n A3 = some (.inl (A4, m)) → eTs (l1 ++ m ++ [(k, 0)]) s = some (true :: s) := by
    intro A2 A3 A4 l1 m k hk g1 g2
    rw [eTs_ap (show eTs (l1 ++ m) s = some (false :: false :: s) by rw [eTs_ap (gSum_ty (by omega) g1)]; exact gSum_ty (by show s.length + 1 + 2 ≤ 32; omega) g2), eTs_1]
    rcases hk with rfl | rfl <;> rfl
  unfold gBase at h
  cases h1 : tw b E wNight A with
  | some A2 =>
    rw [h1] at h
    injection h with h
    injection h with h
    injection h with h h'
    rw [← h']; exact tg 6 (Or.inl rfl)
  | none =>
  rw [h1] at h
  dsimp only at h
  cases h2 : tw b E wWished A with
  | some A2 =>
    rw [h2] at h
    injection h with h
    injection h with h
    injection h with h h'
    rw [← h']; exact tg 7 (Or.inr rfl)
  | none =>
  rw [h2] at h
  dsimp only at h
  cases h3 : gSum b E n A with
  | none => rw [h3] at h; cases h
  | some q =>
  rw [h3] at h
  cases q with
  | inr F => injection h with h; cases h
  | inl q =>
  obtain ⟨A2, l1⟩ := q
  dsimp only at h
  cases h4 : ts b E 60 A2 with
  | some A3 =>
    rw [h4] at h
    dsimp only at h
    cases h5 : gSum b E n A3 with
    | none => rw [h5] at h; cases h
    | some q =>
    rw [h5] at h
    cases q with
    | inr F => injection h with h; cases h
    | inl q =>
    obtain ⟨A4, m⟩ := q
    injection h with h
    injection h with h
    injection h with h h'
    rw [← h']; exact cm (Or.inl rfl) h3 h5
  | none =>
  rw [h4] at h
  dsimp only at h
  cases h6 : ts b E 62 A2 with
  | none => rw [h6] at h; injection h with h; cases h
  | some A3 =>
    rw [h6] at h
    dsimp only at h
    cases h5 : gSum b E n A3 with
    | none => rw [h5] at h; cases h
    | some q =>
    rw [h5] at h
    cases q with
    | inr F => injection h with h; cases h
    | inl q =>
    obtain ⟨A4, m⟩ := q
    injection h with h
    injection h with h
    injection h with h h'
    rw [← h']; exact cm (Or.inr rfl) h3 h5
theorem gLoop_ty {b : Nat → Int} {E N : Nat} {f : Nat → Option zRs} (hf : ∀ A A1 l, f A = some (.inl (A1, l)) → ∀ s : List Bool, s.length + N ≤ 32 → eTs l s = some (true :: s)) {s : List Bool} (hs : s.length + N + 2 ≤ 32) : ∀ {n A A1 : Nat} {w : Bool} {l l' : zSs}, gLoop b E f n A w l = some (.inl (A1, l')) → eTs l s = some (bif w then true :: true :: s else true :: s) → eTs l' s = some (true :: s)
  | 0, _, _, _, _, _, h, _ => by cases h
  | n + 1, A, A1, w, l, l', h, hl => by
    have fin : eTs (bif w then l ++ [(14, 0)] else l) s = some (true :: s) := by
      cases w
      · exact hl
      · show eTs (l ++ [(14, 0)]) s = _
        rw [eTs_ap hl, eTs_1]; rfl
    unfold gLoop at h
    cases h1 : tw b E wAnd A with
    | some A2 =>
      rw [h1] at h
      dsimp only at h
      cases h2 : f A2 with
      | none => rw [h2] at h; cases h
      | some q =>
      rw [h2] at h
      cases q with
      | inr F => injection h with h; cases h
      | inl q =>
      obtain ⟨A3, m⟩ := q
      dsimp only at h
      refine gLoop_ty hf hs h ?_
      cases w
      · rw [eTs_ap (show eTs (l ++ m) s = some (true :: true :: s) by rw [eTs_ap hl]; exact hf _ _ _ h2 _ (by show s.length + 1 + N ≤ 32; omega)), eTs_1]; rfl
      · rw [eTs_ap (show eTs (l ++ m) s = some (true :: true :: true :: s) by rw [eTs_ap hl]; exact hf _ _ _ h2 _ (by show s.length + 1 + 1 + N ≤ 32; omega)), eTs_1]; rfl
    | none =>
      rw [h1] at h
      dsimp only at h
      cases h3 : tw b E wOr A with
      | none =>
        rw [h3] at h
        injection h with h
        injection h with h
        injection h with h h'
        rw [← h']; exact fin
      | some A2 =>
        rw [h3] at h
        dsimp only at h
        cases h2 : f A2 with
        | none => rw [h2] at h; cases h
        | some q =>
        rw [h2] at h
        cases q with
        | inr F => injection h with h; cases h
        | inl q =>
        obtain ⟨A3, m⟩ := q
        dsimp only at h
        refine gLoop_ty hf hs h ?_
        rw [eTs_ap fin]
        exact hf _ _ _ h2 _ (by show s.length + 1 + N ≤ 32; omega)
theorem gCond_ty {b : Nat → Int} {E N : Nat} {f : Nat → Option zRs} (hf : ∀ A A1 l, f A = some (.inl (A1, l)) → ∀ s : List Bool, s.length + N ≤ 32 → eTs l s = some (true :: s)) {s : List Bool} (hs : s.length + N + 2 ≤ 32) {n A A1 : Nat} {l : zSs} (h : gCond b E f n A = some (.inl (A1, l))) : eTs l s = some (true :: s) := by
  unfold gCond at h
  cases h2 : f A with
  | none => rw [h2] at h; cases h
  | some q =>
  rw [h2] at h
  cases q with
  | inr F => injection h with h; cases h
  | inl q =>
  obtain ⟨A3, m⟩ := q
  exact gLoop_ty hf hs h (hf _ _ _ h2 _ (by omega))
theorem gAtom_ty {b : Nat → Int} {E : Nat} : ∀ (n D A A1 : Nat) (l : zSs), D ≤ 6 → gAtom b E n D A = some (.inl (A1, l)) → ∀ s : List Bool, s.length + (15 - 2 * D) ≤ 32 → eTs l s = some (true :: s)
  | 0, _, _, _, _, _, h, _, _ => by cases h
  | n + 1, D, A, A1, l, hD, h, s, hs => by
    unfold gAtom at h
    cases h1 : ts b E 40 A with
    | some A2 =>
      rw [h1] at h
      dsimp only at h
      by_cases c : D = 6
      · rw [if_pos c] at h; injection h with h; cases h
      rw [if_neg c] at h
      cases h2 : gCond b E (gAtom b E n (D + 1)) n A2 with
      | none => rw [h2] at h; cases h
      | some q =>
      rw [h2] at h
      cases q with
      | inr F => injection h with h; cases h
      | inl q =>
      obtain ⟨A3, m⟩ := q
      dsimp only at h
      cases h3 : ts b E 41 A3 with
      | none => rw [h3] at h; injection h with h; cases h
      | some A4 =>
      rw [h3] at h
      injection h with h
      injection h with h
      injection h with h h'
      rw [← h']
      exact gCond_ty (N := 15 - 2 * (D + 1)) (fun A A1 l g s hs => gAtom_ty n (D + 1) A A1 l (by omega) g s hs) (by omega) h2
    | none =>
    rw [h1] at h
    dsimp only at h
    cases h4 : tw b E wNot A with
    | none =>
      rw [h4] at h
      exact gBase_ty (by omega) h
    | some A2 =>
    rw [h4] at h
    dsimp only at h
    by_cases c : D = 6
    · rw [if_pos c] at h; injection h with h; cases h
    rw [if_neg c] at h
    cases h2 : gAtom b E n (D + 1) A2 with
    | none => rw [h2] at h; cases h
    | some q =>
    rw [h2] at h
    cases q with
    | inr F => injection h with h; cases h
    | inl q =>
    obtain ⟨A3, m⟩ := q
    injection h with h
    injection h with h
    injection h with h h'
    rw [← h', eTs_ap (gAtom_ty n (D + 1) A2 A3 m (by omega) h2 s (by omega)), eTs_1]
    rfl
theorem gLine_ty {b : Nat → Int} {E n A A1 c v : Nat} {m : zSs} (h : gLine b E n A = some (.inl (A1, c, v, m))) : c ≤ 2 ∧ v ≤ 20 ∧ (m = [] ∨ eTs m [] = some [true]) := by
  unfold gLine at h
  cases h1 : tws b E A [wWarm, wDust, wFine] 0 with
  | none => rw [h1] at h; injection h with h; cases h
  | some q =>
  obtain ⟨A2, k⟩ := q
  have hk := tws_lt _ _ h1
  have hk : k < 3 := by simpa using hk
  rw [h1] at h
  dsimp only at h
  cases h2 : tn b E 0 20 A2 with
  | none => rw [h2] at h; injection h with h; cases h
  | some q =>
  obtain ⟨A3, v'⟩ := q
  have hv := tn_rg h2
  rw [h2] at h
  dsimp only at h
  cases h3 : tw b E wIf A3 with
  | none =>
    rw [h3] at h
    injection h with h
    injection h with h
    injection h with _ h
    injection h with e1 h
    injection h with e2 e3
    subst e1 e2 e3
    exact ⟨by omega, by omega, Or.inl rfl⟩
  | some A4 =>
  rw [h3] at h
  dsimp only at h
  cases h4 : gCond b E (gAtom b E n 0) n A4 with
  | none => rw [h4] at h; cases h
  | some q =>
  rw [h4] at h
  cases q with
  | inr F => injection h with h; cases h
  | inl q =>
  obtain ⟨A5, m'⟩ := q
  injection h with h
  injection h with h
  injection h with _ h
  injection h with e1 h
  injection h with e2 e3
  subst e1 e2 e3
  exact ⟨by omega, by omega, Or.inr (gCond_ty (N := 15) (fun A A1 l g s hs => gAtom_ty n 0 A A1 l (by omega) g s hs) (by show 0 + 15 + 2 ≤ 32; omega) h4)⟩
/-! places in one list of steps -/
theorem eTn_app {l m : zSs} : ∀ {n i : Nat} {s : List Bool}, i + n ≤ l.length → eTn (l ++ m) n i s = eTn l n i s
  | 0, _, _, _ => rfl
  | n + 1, i, s, h => by
    unfold eTn
    rw [List.getElem?_append_left (by omega)]
    cases l[i]? with
    | none => rfl
    | some x =>
      dsimp only
      cases eT x s with
      | none => rfl
      | some s' => exact eTn_app (by omega)
theorem eTn_s : ∀ (m l : zSs) (s : List Bool), eTn (l ++ m) m.length l.length s = eTs m s
  | [], _, _ => rfl
  | x :: m, l, s => by
    rw [List.length_cons]
    unfold eTn eTs
    rw [List.getElem?_append_right (Nat.le_refl _), Nat.sub_self]
    dsimp only [List.getElem?_cons_zero]
    cases eT x s with
    | none => rfl
    | some s' =>
      dsimp only
      have := eTn_s m (l ++ [x]) s'
      rw [List.append_assoc, List.length_append] at this
      exact this
noncomputable def gE (ls : List gLn4) (i : Nat) : Nat := match i with
  | 0 => 0
  | k + 1 => (match ls[k]? with
    | some x => x.2.2.2
    | none => 0)
/-- a law's lines and steps hang together -/
noncomputable def gW (ls : List gLn4) (l : zSs) : Prop := ls.length ≤ 12 ∧ l.length ≤ 400 ∧ l.length = gE ls ls.length ∧ ∀ i x, ls[i]? = some x → x.1 ≤ 2 ∧ x.2.1 ≤ 20 ∧ x.2.2.1 = gE ls i ∧ x.2.2.1 ≤ x.2.2.2 ∧ x.2.2.2 ≤ l.length ∧ (x.2.2.1 = x.2.2.2 ∨ eTn l (x.2.2.2 - x.2.2.1) x.2.2.1 [] = some [true])
noncomputable def gW0 (ls : List gLn4) (l : zSs) : Prop := l.length = gE ls ls.length ∧ ∀ i x, ls[i]? = some x → x.1 ≤ 2 ∧ x.2.1 ≤ 20 ∧ x.2.2.1 = gE ls i ∧ x.2.2.1 ≤ x.2.2.2 ∧ x.2.2.2 ≤ l.length ∧ (x.2.2.1 = x.2.2.2 ∨ eTn l (x.2.2.2 - x.2.2.1) x.2.2.1 [] = some [true])
theorem gE_app {ls : List gLn4} {x : gLn4} {i : Nat} (h : i ≤ ls.length) : gE (ls ++ [x]) i = gE ls i := by
  cases i with
  | zero => rfl
  | succ k =>
    show (match (ls ++ [x])[k]? with | some y => y.2.2.2 | none => 0) = (match ls[k]? with | some y => y.2.2.2 | none => 0)
    rw [List.getElem?_append_left (show k < ls.length by omega)]
theorem gW0.app {ls : List gLn4} {l m : zSs} {c v : Nat} (h : gW0 ls l) (hc : c ≤ 2) (hv : v ≤ 20) (hm : m = [] ∨ eTs m [] = some [true]) : gW0 (ls ++ [(c, v, l.length, (l ++ m).length)]) (l ++ m) := by
  obtain ⟨h1, h2⟩ := h
  constructor
  · have hlen : (ls ++ [(c, v, l.length, (l ++ m).length)]).length = ls.length + 1 := by rw [List.length_append]; rfl
    rw [hlen]
    show (l ++ m).length = (match (ls ++ [(c, v, l.length, (l ++ m).length)])[ls.length]? with | some x => x.2.2.2 | none => 0)
    rw [List.getElem?_append_right (Nat.le_refl _), Nat.sub_self]
    rfl
  · intro i x hx
    by_cases hi : i < ls.length
    · rw [List.getElem?_append_left hi] at hx
      obtain ⟨a1, a2, a3, a4, a5, a6⟩ := h2 i x hx
      refine ⟨a1, a2, by rw [gE_app (by omega)]; exact a3, a4, by rw [List.length_append]; omega, ?_⟩
      rcases a6 with a6 | a6
      · exact Or.inl a6
      · right
        rw [eTn_app (by omega)]; exact a6
    · have hi' : i = ls.length := by
        have := (List.getElem?_eq_some_iff.mp hx).1
        rw [List.length_append] at this
        have : i < ls.length + 1 := this
        omega
      subst hi'
      rw [List.getElem?_append_right (Nat.le_refl _), Nat.sub_self] at hx
      dsimp only [List.getElem?_cons_zero] at hx
      cases hx
      refine ⟨hc, hv, by rw [gE_app (Nat.le_refl _)]; exact h1, by rw [List.length_append]; exact Nat.le_add_right _ _, Nat.le_refl _, ?_⟩
      rcases hm with rfl | hm
      · left
        show l.length = (l ++ []).length
        rw [List.append_nil]
      · right
        show eTn (l ++ m) ((l ++ m).length - l.length) l.length [] = _
        rw [List.length_append, Nat.add_sub_cancel_left, eTn_s]
        exact hm
theorem gText_ty {b : Nat → Int} {E : Nat} : ∀ {n A : Nat} {ls ls' : List gLn4} {l l' : zSs}, gText b E n A ls l = some (.inl (ls', l')) → gW0 ls l → gW0 ls' l'
  | 0, _, _, _, _, _, h, _ => by cases h
  | n + 1, A, ls, ls', l, l', h, hw => by
    unfold gText at h
    by_cases h0 : ls.length = 12
    · rw [if_pos h0] at h; injection h with h; cases h
    rw [if_neg h0] at h
    cases h1 : gLine b E n A with
    | none => rw [h1] at h; cases h
    | some q =>
    rw [h1] at h
    cases q with
    | inr F => injection h with h; cases h
    | inl q =>
    obtain ⟨A1, c, v, m⟩ := q
    obtain ⟨t1, t2, t3⟩ := gLine_ty h1
    have hw' := hw.app t1 t2 t3
    dsimp only at h
    by_cases h2 : A1 = E
    · rw [if_pos h2] at h
      injection h with h
      injection h with h
      injection h with e1 e2
      rw [← e1, ← e2]; exact hw'
    rw [if_neg h2] at h
    cases h3 : ts b E 59 A1 with
    | none => rw [h3] at h; injection h with h; cases h
    | some A2 =>
      rw [h3] at h
      exact gText_ty h hw'
theorem GLaw.wf {b : Nat → Int} {E : Nat} {ls : List gLn4} {l : zSs} (h : GLaw b E (.inl (ls, l))) (h1 : ls.length ≤ 12) (h2 : l.length ≤ 400) : gW ls l := by
  have w0 : gW0 [] [] := ⟨rfl, fun i x hx => by cases hx⟩
  have w : gW0 ls l := by
    rcases h with ⟨-, e⟩ | ⟨-, n, e⟩
    · injection e with e
      injection e with e1 e2
      rw [e1, e2]; exact w0
    · exact gText_ty e w0
  exact ⟨h1, h2, w.1, w.2⟩
/-- whether a line holds; the sum of the first n lines of a kind -/
noncomputable def eH (l : zSs) (fa : Nat → Int32) (x : gLn4) : Bool := decide (x.2.2.1 = x.2.2.2) || decide ((eRn fa l (x.2.2.2 - x.2.2.1) x.2.2.1 []).headD 0 = Int32.ofInt 1)
noncomputable def eL (ls : List gLn4) (l : zSs) (fa : Nat → Int32) (kd i : Nat) : Int32 := match ls[i]? with
  | some x => if x.1 = kd ∧ eH l fa x = true then Int32.ofNat x.2.1 else Int32.ofInt 0
  | none => Int32.ofInt 0
noncomputable def eSum (ls : List gLn4) (l : zSs) (fa : Nat → Int32) (kd n : Nat) : Int32 := aSm (eL ls l fa kd) n
/-- a stack in an array -/
noncomputable def eA (σ : zSg) (c : Nat) : List Int32 → Prop
  | [] => True
  | a :: v => σ.1 c v.length = .int a ∧ eA σ c v
theorem eA.w {σ : zSg} {c k : Nat} {x : Value} : ∀ {v : List Int32}, eA σ c v → v.length ≤ k → eA (q_w σ c k x) c v
  | [], _, _ => trivial
  | a :: v, h, hk => by
    have hk : v.length + 1 ≤ k := hk
    exact ⟨by rw [q_w_ne (fun _ q => by omega)]; exact h.1, eA.w h.2 (by omega)⟩
theorem eA.fr {σ σ' : zSg} {c : Nat} (h : ∀ k, σ'.1 c k = σ.1 c k) : ∀ {v : List Int32}, eA σ c v → eA σ' c v
  | [], _ => trivial
  | a :: v, g => ⟨by rw [h]; exact g.1, eA.fr h g.2⟩
/-- one step of a typed line -/
theorem eTn_st {l : zSs} {n i : Nat} {s r : List Bool} (h : eTn l (n + 1) i s = some r) : ∃ x s', l[i]? = some x ∧ eT x s = some s' ∧ eTn l n (i + 1) s' = some r := by
  unfold eTn at h
  cases h1 : l[i]? with
  | none => rw [h1] at h; cases h
  | some x =>
    rw [h1] at h
    dsimp only at h
    cases h2 : eT x s with
    | none => rw [h2] at h; cases h
    | some s' => rw [h2] at h; exact ⟨x, s', rfl, h2, h⟩
theorem eRn_st {fa : Nat → Int32} {l : zSs} {n i : Nat} {v : List Int32} {x : Nat × Nat} (h : l[i]? = some x) : eRn fa l (n + 1) i v = eRn fa l n (i + 1) (eS fa x v) := by
  show (match l[i]? with | some x => eRn fa l n (i + 1) (eS fa x v) | none => v) = _
  rw [h]
theorem eT_lt {x : Nat × Nat} {s s' : List Bool} (e : eT x s = some s') : x.1 ≤ 14 := by
  by_cases h8 : x.1 ≤ 8
  · omega
  by_cases h12 : x.1 = 12
  · omega
  obtain ⟨q, h | h | h⟩ := eT_join h8 h12 e <;> omega
end
