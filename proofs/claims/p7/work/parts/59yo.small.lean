/-! small methods of both sides, exact; printed with wip/gen/gen_dc.py -/
theorem p_9.of {σ τ : zSg} {b nf F : Nat} {f r : Int32} {H : Nat → Int32} (G : p_9 (b + 2) f σ r τ) (K : hH σ b H) (h0 : H 0 = Int32.ofNat nf) (h6 : nf ≤ 6) : τ = σ ∧ (r.toInt ≠ 0 ↔ 0 ≤ f.toInt ∧ f.toInt < (nf : Int)) := by
  obtain ⟨g1, g2⟩ := G
  have p0 : q_i (σ.1 (b + 2) 4) = H 0 := K.p hp_0
  rw [p0, h0, o32 (by omega)] at g2
  exact ⟨g1, g2.trans ⟨fun h => ⟨h.1, h.2.1⟩, fun h => ⟨h.1, h.2, by omega⟩⟩⟩
theorem zJ_14 : zJ3 14 z_m14 z_c14 z_h14 := ⟨rfl, rfl, rfl⟩
noncomputable def p_14 (a : Nat) (f h : Int32) (σ : zSg) (r : Int32) (σ' : zSg) : Prop := σ' = σ ∧ ∀ b H nf, a = b + 2 → hH σ b H → H 0 = Int32.ofNat nf → nf ≤ 6 → ∀ F, f = Int32.ofNat F → F < nf → r = if btb (H (43 + 4 * F)) h = true then Int32.ofInt 1 else Int32.ofInt 0
theorem sp_14_et (a0 : Nat) (a1 : Int32) (a2 : Int32) (σ : zSg) (τ1 : zSg) (r1 : Int32) (g1 : p_9 a0 a1 σ r1 τ1) (h2 : r1.toInt = (0 : Int)) :
    p_14 (a0) (a1) (a2) σ (Int32.ofInt (0)) τ1 := by
  obtain ⟨rfl, g⟩ := g1
  refine ⟨rfl, ?_⟩
  rintro b H nf rfl K h0 h6 F rfl hF
  have p0 : q_i (τ1.1 (b + 2) 4) = H 0 := K.p hp_0
  rw [p0, h0, o32 (by omega), o32 (by omega)] at g
  have nF : (Int32.ofNat F).toNatClampNeg = F := o32n (by omega)
  exact absurd h2 (g.mpr (by omega))
theorem sp_14_eft (a0 : Nat) (a1 : Int32) (a2 : Int32) (σ : zSg) (τ1 : zSg) (r1 : Int32) (g1 : p_9 a0 a1 σ r1 τ1) (h2 : r1.toInt ≠ (0 : Int)) (h3 : 0 ≤ a1.toInt ∧ a1.toInt < (τ1.2.1 (q_r (τ1.1 a0 3)) : Int)) (h4 : (((q_i (τ1.1 (q_r (τ1.1 a0 3)) a1.toNatClampNeg)) >>> (a2 &&& 31)) &&& (Int32.ofInt (1))).toInt ≠ (1 : Int)) :
    p_14 (a0) (a1) (a2) σ (Int32.ofInt (0)) τ1 := by
  obtain ⟨rfl, g⟩ := g1
  refine ⟨rfl, ?_⟩
  rintro b H nf rfl K h0 h6 F rfl hF
  have p0 : q_i (τ1.1 (b + 2) 4) = H 0 := K.p hp_0
  rw [p0, h0, o32 (by omega), o32 (by omega)] at g
  have nF : (Int32.ofNat F).toNatClampNeg = F := o32n (by omega)
  have d3 := K.k hk_f3
  have p3 := K.p (hp_f3 (f := F) (by omega))
  simp only [d3, nF, p3] at h4
  exact (if_neg (fun q => h4 (of_decide_eq_true q))).symm
theorem sp_14_eff (a0 : Nat) (a1 : Int32) (a2 : Int32) (σ : zSg) (τ1 : zSg) (r1 : Int32) (g1 : p_9 a0 a1 σ r1 τ1) (h2 : r1.toInt ≠ (0 : Int)) (h3 : 0 ≤ a1.toInt ∧ a1.toInt < (τ1.2.1 (q_r (τ1.1 a0 3)) : Int)) (h4 : (((q_i (τ1.1 (q_r (τ1.1 a0 3)) a1.toNatClampNeg)) >>> (a2 &&& 31)) &&& (Int32.ofInt (1))).toInt = (1 : Int)) :
    p_14 (a0) (a1) (a2) σ (Int32.ofInt (1)) τ1 := by
  obtain ⟨rfl, g⟩ := g1
  refine ⟨rfl, ?_⟩
  rintro b H nf rfl K h0 h6 F rfl hF
  have p0 : q_i (τ1.1 (b + 2) 4) = H 0 := K.p hp_0
  rw [p0, h0, o32 (by omega), o32 (by omega)] at g
  have nF : (Int32.ofNat F).toNatClampNeg = F := o32n (by omega)
  have d3 := K.k hk_f3
  have p3 := K.p (hp_f3 (f := F) (by omega))
  simp only [d3, nF, p3] at h4
  exact (if_pos (decide_eq_true h4)).symm
noncomputable def qP_14 : zPp := fun as σ o σ' => match as with
  | [a0, a1, a2] => ∃ r, o = .inl (some (.int r)) ∧ p_14 (q_r a0) (q_i a1) (q_i a2) σ r σ'
  | _ => True
set_option maxRecDepth 100000 in
theorem sp_14 {sx : zX} (S9 : zEe sx 9 2 qP_9) : zEe sx 14 3 qP_14 := by
  refine zfle zJ_14 (sps := [(9, 2, qP_9)]) (fun q hq => by
    simp only [List.mem_cons, List.not_mem_nil, or_false] at hq
    rcases hq with rfl
    · exact S9) (fun as σ hl => ?_)
  match as, hl with
  | [a0, a1, a2], _ =>
  refine ⟨[], 400, ?_, ?_⟩
  · exact fun q hq => absurd hq List.not_mem_nil
  · refine fun o1 τ1 g1 => ?_
    obtain ⟨r1, rfl, g1⟩ := g1
    refine And.intro (fun h2 => ?_) (fun h2 => ?_)
    · exact ⟨_, rfl, sp_14_et (q_r a0) (q_i a1) (q_i a2) σ τ1 r1 g1 (cm0t h2)⟩
    · refine fun h3 => ?_
      refine And.intro (fun h4 => ?_) (fun h4 => ?_)
      · exact ⟨_, rfl, sp_14_eft (q_r a0) (q_i a1) (q_i a2) σ τ1 r1 g1 (cm0f h2) (q_inp h3) (cm1t h4)⟩
      · exact ⟨_, rfl, sp_14_eff (q_r a0) (q_i a1) (q_i a2) σ τ1 r1 g1 (cm0f h2) (q_inp h3) (cm1f h4)⟩
theorem zJ_16 : zJ3 16 z_m16 z_c16 z_h16 := ⟨rfl, rfl, rfl⟩
noncomputable def p_16 (a : Nat) (f : Int32) (σ : zSg) (r : Int32) (σ' : zSg) : Prop := σ' = σ ∧ ∀ b H nf, a = b + 2 → hH σ b H → H 0 = Int32.ofNat nf → nf ≤ 6 → ∀ F, f = Int32.ofNat F → F < nf → r = H (40 + 4 * F)
theorem sp_16_et (a0 : Nat) (a1 : Int32) (σ : zSg) (τ1 : zSg) (r1 : Int32) (g1 : p_9 a0 a1 σ r1 τ1) (h2 : r1.toInt = (0 : Int)) :
    p_16 (a0) (a1) σ (Int32.ofInt (0)) τ1 := by
  obtain ⟨rfl, g⟩ := g1
  refine ⟨rfl, ?_⟩
  rintro b H nf rfl K h0 h6 F rfl hF
  have p0 : q_i (τ1.1 (b + 2) 4) = H 0 := K.p hp_0
  rw [p0, h0, o32 (by omega), o32 (by omega)] at g
  have nF : (Int32.ofNat F).toNatClampNeg = F := o32n (by omega)
  exact absurd h2 (g.mpr (by omega))
theorem sp_16_ef (a0 : Nat) (a1 : Int32) (σ : zSg) (τ1 : zSg) (r1 : Int32) (g1 : p_9 a0 a1 σ r1 τ1) (h2 : r1.toInt ≠ (0 : Int)) (h3 : 0 ≤ a1.toInt ∧ a1.toInt < (τ1.2.1 (q_r (τ1.1 a0 0)) : Int)) :
    p_16 (a0) (a1) σ (q_i (τ1.1 (q_r (τ1.1 a0 0)) a1.toNatClampNeg)) τ1 := by
  obtain ⟨rfl, g⟩ := g1
  refine ⟨rfl, ?_⟩
  rintro b H nf rfl K h0 h6 F rfl hF
  have p0 : q_i (τ1.1 (b + 2) 4) = H 0 := K.p hp_0
  rw [p0, h0, o32 (by omega), o32 (by omega)] at g
  have nF : (Int32.ofNat F).toNatClampNeg = F := o32n (by omega)
  have d3 := K.k hk_f0
  have p3 := K.p (hp_f0 (f := F) (by omega))
  simp only [d3, nF, p3]
noncomputable def qP_16 : zPp := fun as σ o σ' => match as with
  | [a0, a1] => ∃ r, o = .inl (some (.int r)) ∧ p_16 (q_r a0) (q_i a1) σ r σ'
  | _ => True
set_option maxRecDepth 100000 in
theorem sp_16 {sx : zX} (S9 : zEe sx 9 2 qP_9) : zEe sx 16 2 qP_16 := by
  refine zfle zJ_16 (sps := [(9, 2, qP_9)]) (fun q hq => by
    simp only [List.mem_cons, List.not_mem_nil, or_false] at hq
    rcases hq with rfl
    · exact S9) (fun as σ hl => ?_)
  match as, hl with
  | [a0, a1], _ =>
  refine ⟨[], 400, ?_, ?_⟩
  · exact fun q hq => absurd hq List.not_mem_nil
  · refine fun o1 τ1 g1 => ?_
    obtain ⟨r1, rfl, g1⟩ := g1
    refine And.intro (fun h2 => ?_) (fun h2 => ?_)
    · exact ⟨_, rfl, sp_16_et (q_r a0) (q_i a1) σ τ1 r1 g1 (cm0t h2)⟩
    · refine fun h3 => ?_
      exact ⟨_, rfl, sp_16_ef (q_r a0) (q_i a1) σ τ1 r1 g1 (cm0f h2) (q_inp h3)⟩
noncomputable def aPy (p s : Int32) : Int32 := if Int32.ofInt 0 < p - s then p - s else Int32.ofInt 0
noncomputable def aEn (p s : Int32) : Int32 := if p + s < Int32.ofInt 9999 then p + s else Int32.ofInt 9999
theorem zJ_17 : zJ3 17 z_m17 z_c17 z_h17 := ⟨rfl, rfl, rfl⟩
noncomputable def p_17 (a : Nat) (f s : Int32) (σ σ' : zSg) : Prop := ∀ b H nf, a = b + 2 → hH σ b H → H 0 = Int32.ofNat nf → nf ≤ 6 → ∀ F, f = Int32.ofNat F → F < nf → hHF b σ σ' ∧ hH σ' b (aU H (40 + 4 * F) (aPy (H (40 + 4 * F)) s))
theorem sp_17_et (a0 : Nat) (a1 : Int32) (a2 : Int32) (σ : zSg) (τ1 : zSg) (r1 : Int32) (g1 : p_9 a0 a1 σ r1 τ1) (h2 : r1.toInt = (0 : Int)) :
    p_17 (a0) (a1) (a2) σ τ1 := by
  obtain ⟨rfl, g⟩ := g1
  rintro b H nf rfl K h0 h6 F rfl hF
  have p0 : q_i (τ1.1 (b + 2) 4) = H 0 := K.p hp_0
  rw [p0, h0, o32 (by omega), o32 (by omega)] at g
  have nF : (Int32.ofNat F).toNatClampNeg = F := o32n (by omega)
  exact absurd h2 (g.mpr (by omega))
theorem sp_17_ef (a0 : Nat) (a1 : Int32) (a2 : Int32) (σ : zSg) (τ1 : zSg) (r1 : Int32) (g1 : p_9 a0 a1 σ r1 τ1) (h2 : r1.toInt ≠ (0 : Int)) (h3 : 0 ≤ a1.toInt ∧ a1.toInt < (τ1.2.1 (q_r (τ1.1 a0 0)) : Int)) (h4 : 0 ≤ a1.toInt ∧ a1.toInt < (τ1.2.1 (q_r (τ1.1 a0 0)) : Int)) :
    p_17 (a0) (a1) (a2) σ (q_w τ1 (q_r (τ1.1 a0 0)) a1.toNatClampNeg (.int (if (Int32.ofInt (0)) < ((q_i (τ1.1 (q_r (τ1.1 a0 0)) a1.toNatClampNeg)) - a2) then ((q_i (τ1.1 (q_r (τ1.1 a0 0)) a1.toNatClampNeg)) - a2) else (Int32.ofInt (0))))) := by
  obtain ⟨rfl, g⟩ := g1
  rintro b H nf rfl K h0 h6 F rfl hF
  have p0 : q_i (τ1.1 (b + 2) 4) = H 0 := K.p hp_0
  rw [p0, h0, o32 (by omega), o32 (by omega)] at g
  have nF : (Int32.ofNat F).toNatClampNeg = F := o32n (by omega)
  have d3 := K.k hk_f0
  have p3 := K.p (hp_f0 (f := F) (by omega))
  simp only [d3, nF, p3]
  exact ⟨hHF.w (hp_f0 (by omega)), K.ww (hp_f0 (by omega))⟩
noncomputable def qP_17 : zPp := fun as σ o σ' => match as with
  | [a0, a1, a2] => o = .inl none ∧ p_17 (q_r a0) (q_i a1) (q_i a2) σ σ'
  | _ => True
set_option maxRecDepth 100000 in
theorem sp_17 {sx : zX} (S9 : zEe sx 9 2 qP_9) : zEe sx 17 3 qP_17 := by
  refine zfle zJ_17 (sps := [(9, 2, qP_9)]) (fun q hq => by
    simp only [List.mem_cons, List.not_mem_nil, or_false] at hq
    rcases hq with rfl
    · exact S9) (fun as σ hl => ?_)
  match as, hl with
  | [a0, a1, a2], _ =>
  refine ⟨[], 400, ?_, ?_⟩
  · exact fun q hq => absurd hq List.not_mem_nil
  · refine fun o1 τ1 g1 => ?_
    obtain ⟨r1, rfl, g1⟩ := g1
    refine And.intro (fun h2 => ?_) (fun h2 => ?_)
    · exact ⟨rfl, sp_17_et (q_r a0) (q_i a1) (q_i a2) σ τ1 r1 g1 (cm0t h2)⟩
    · refine fun h3 => ?_
      refine fun h4 => ?_
      exact ⟨rfl, sp_17_ef (q_r a0) (q_i a1) (q_i a2) σ τ1 r1 g1 (cm0f h2) (q_inp h3) (q_inp h4)⟩
theorem zJ_18 : zJ3 18 z_m18 z_c18 z_h18 := ⟨rfl, rfl, rfl⟩
noncomputable def p_18 (a : Nat) (f s : Int32) (σ σ' : zSg) : Prop := ∀ b H nf, a = b + 2 → hH σ b H → H 0 = Int32.ofNat nf → nf ≤ 6 → ∀ F, f = Int32.ofNat F → F < nf → hHF b σ σ' ∧ hH σ' b (aU H (40 + 4 * F) (aEn (H (40 + 4 * F)) s))
theorem sp_18_et (a0 : Nat) (a1 : Int32) (a2 : Int32) (σ : zSg) (τ1 : zSg) (r1 : Int32) (g1 : p_9 a0 a1 σ r1 τ1) (h2 : r1.toInt = (0 : Int)) :
    p_18 (a0) (a1) (a2) σ τ1 := by
  obtain ⟨rfl, g⟩ := g1
  rintro b H nf rfl K h0 h6 F rfl hF
  have p0 : q_i (τ1.1 (b + 2) 4) = H 0 := K.p hp_0
  rw [p0, h0, o32 (by omega), o32 (by omega)] at g
  have nF : (Int32.ofNat F).toNatClampNeg = F := o32n (by omega)
  exact absurd h2 (g.mpr (by omega))
theorem sp_18_ef (a0 : Nat) (a1 : Int32) (a2 : Int32) (σ : zSg) (τ1 : zSg) (r1 : Int32) (g1 : p_9 a0 a1 σ r1 τ1) (h2 : r1.toInt ≠ (0 : Int)) (h3 : 0 ≤ a1.toInt ∧ a1.toInt < (τ1.2.1 (q_r (τ1.1 a0 0)) : Int)) (h4 : 0 ≤ a1.toInt ∧ a1.toInt < (τ1.2.1 (q_r (τ1.1 a0 0)) : Int)) :
    p_18 (a0) (a1) (a2) σ (q_w τ1 (q_r (τ1.1 a0 0)) a1.toNatClampNeg (.int (if ((q_i (τ1.1 (q_r (τ1.1 a0 0)) a1.toNatClampNeg)) + a2) < (Int32.ofInt (9999)) then ((q_i (τ1.1 (q_r (τ1.1 a0 0)) a1.toNatClampNeg)) + a2) else (Int32.ofInt (9999))))) := by
  obtain ⟨rfl, g⟩ := g1
  rintro b H nf rfl K h0 h6 F rfl hF
  have p0 : q_i (τ1.1 (b + 2) 4) = H 0 := K.p hp_0
  rw [p0, h0, o32 (by omega), o32 (by omega)] at g
  have nF : (Int32.ofNat F).toNatClampNeg = F := o32n (by omega)
  have d3 := K.k hk_f0
  have p3 := K.p (hp_f0 (f := F) (by omega))
  simp only [d3, nF, p3]
  exact ⟨hHF.w (hp_f0 (by omega)), K.ww (hp_f0 (by omega))⟩
noncomputable def qP_18 : zPp := fun as σ o σ' => match as with
  | [a0, a1, a2] => o = .inl none ∧ p_18 (q_r a0) (q_i a1) (q_i a2) σ σ'
  | _ => True
set_option maxRecDepth 100000 in
theorem sp_18 {sx : zX} (S9 : zEe sx 9 2 qP_9) : zEe sx 18 3 qP_18 := by
  refine zfle zJ_18 (sps := [(9, 2, qP_9)]) (fun q hq => by
    simp only [List.mem_cons, List.not_mem_nil, or_false] at hq
    rcases hq with rfl
    · exact S9) (fun as σ hl => ?_)
  match as, hl with
  | [a0, a1, a2], _ =>
  refine ⟨[], 400, ?_, ?_⟩
  · exact fun q hq => absurd hq List.not_mem_nil
  · refine fun o1 τ1 g1 => ?_
    obtain ⟨r1, rfl, g1⟩ := g1
    refine And.intro (fun h2 => ?_) (fun h2 => ?_)
    · exact ⟨rfl, sp_18_et (q_r a0) (q_i a1) (q_i a2) σ τ1 r1 g1 (cm0t h2)⟩
    · refine fun h3 => ?_
      refine fun h4 => ?_
      exact ⟨rfl, sp_18_ef (q_r a0) (q_i a1) (q_i a2) σ τ1 r1 g1 (cm0f h2) (q_inp h3) (q_inp h4)⟩
theorem zJ_26 : zJ3 26 z_m26 z_c26 z_h26 := ⟨rfl, rfl, rfl⟩
noncomputable def p_26 (a : Nat) (t : Int32) (σ : zSg) (r : Int32) (σ' : zSg) : Prop := σ' = σ ∧ ∀ H n, hH σ a H → t = Int32.ofNat n → n < 24 → r = H (16 + n)
theorem sp_26_e (a0 : Nat) (a1 : Int32) (σ : zSg) (τ1 : zSg) (r1 : Int32) (g1 : p_312 a1 (Int32.ofInt (24)) σ r1 τ1) (h2 : 0 ≤ r1.toInt ∧ r1.toInt < (τ1.2.1 (q_r (σ.1 a0 0)) : Int)) :
    p_26 (a0) (a1) σ (q_i (τ1.1 (q_r (σ.1 a0 0)) r1.toNatClampNeg)) τ1 := by
  obtain ⟨rfl, g⟩ := g1
  refine ⟨rfl, ?_⟩
  rintro H n K rfl hn
  have e := g rfl 0 n (by omega) hn (by rw [show Int32.ofNat 0 = 0 from rfl, Int32.sub_zero])
  rw [show (n + 24 - 0) % 24 = n by omega] at e
  rw [e, o32n (by omega), K.k hk_0]
  exact K.p (hp_h hn)
noncomputable def qP_26 : zPp := fun as σ o σ' => match as with
  | [a0, a1] => ∃ r, o = .inl (some (.int r)) ∧ p_26 (q_r a0) (q_i a1) σ r σ'
  | _ => True
set_option maxRecDepth 100000 in
theorem sp_26 {sx : zX} (S312 : zEe sx 312 2 qP_312) : zEe sx 26 2 qP_26 := by
  refine zfle zJ_26 (sps := [(312, 2, qP_312)]) (fun q hq => by
    simp only [List.mem_cons, List.not_mem_nil, or_false] at hq
    rcases hq with rfl
    · exact S312) (fun as σ hl => ?_)
  match as, hl with
  | [a0, a1], _ =>
  refine ⟨[], 400, ?_, ?_⟩
  · exact fun q hq => absurd hq List.not_mem_nil
  · refine fun o1 τ1 g1 => ?_
    obtain ⟨r1, rfl, g1⟩ := g1
    refine fun h2 => ?_
    exact ⟨_, rfl, sp_26_e (q_r a0) (q_i a1) σ τ1 r1 g1 (q_inp h2)⟩
theorem zJ_27 : zJ3 27 z_m27 z_c27 z_h27 := ⟨rfl, rfl, rfl⟩
noncomputable def p_27 (a : Nat) (σ : zSg) (r : Int32) (σ' : zSg) : Prop := σ' = σ ∧ ∀ H n, hH σ a H → H 4 = Int32.ofNat n → n < 24 → r = H (16 + n)
theorem sp_27_e (a0 : Nat) (σ : zSg) (τ1 : zSg) (r1 : Int32) (g1 : p_26 a0 (q_i (σ.1 a0 7)) σ r1 τ1) :
    p_27 (a0) σ r1 τ1 := by
  obtain ⟨rfl, g⟩ := g1
  refine ⟨rfl, fun H n K h4 hn => ?_⟩
  exact g H n K ((K.p (hp_s (k := 4) (by omega) (by omega))).trans h4) hn
noncomputable def qP_27 : zPp := fun as σ o σ' => match as with
  | [a0] => ∃ r, o = .inl (some (.int r)) ∧ p_27 (q_r a0) σ r σ'
  | _ => True
set_option maxRecDepth 100000 in
theorem sp_27 {sx : zX} (S26 : zEe sx 26 2 qP_26) : zEe sx 27 1 qP_27 := by
  refine zfle zJ_27 (sps := [(26, 2, qP_26)]) (fun q hq => by
    simp only [List.mem_cons, List.not_mem_nil, or_false] at hq
    rcases hq with rfl
    · exact S26) (fun as σ hl => ?_)
  match as, hl with
  | [a0], _ =>
  refine ⟨[], 400, ?_, ?_⟩
  · exact fun q hq => absurd hq List.not_mem_nil
  · refine fun o1 τ1 g1 => ?_
    obtain ⟨r1, rfl, g1⟩ := g1
    exact ⟨_, rfl, sp_27_e (q_r a0) σ τ1 r1 g1⟩
theorem zJ_102 : zJ3 102 z_m102 z_c102 z_h102 := ⟨rfl, rfl, rfl⟩
noncomputable def p_102 (a : Nat) (t : Int32) (σ : zSg) (r : Int32) (σ' : zSg) : Prop := σ' = σ ∧ (r.toInt ≠ 0 ↔ 0 ≤ t.toInt ∧ t.toInt < (q_i (σ.1 a 3)).toInt ∧ t.toInt < 8)
theorem sp_102_et (a0 : Nat) (a1 : Int32) (σ : zSg) (h1 : a1.toInt < (0 : Int)) :
    p_102 (a0) (a1) σ (Int32.ofInt (0)) σ := by
  exact ⟨rfl, fun h => absurd rfl h, fun h => by omega⟩
theorem sp_102_eft (a0 : Nat) (a1 : Int32) (σ : zSg) (h1 : a1.toInt ≥ (0 : Int)) (h2 : a1.toInt ≥ (q_i (σ.1 a0 3)).toInt) :
    p_102 (a0) (a1) σ (Int32.ofInt (0)) σ := by
  exact ⟨rfl, fun h => absurd rfl h, fun h => by omega⟩
theorem sp_102_efft (a0 : Nat) (a1 : Int32) (σ : zSg) (h1 : a1.toInt ≥ (0 : Int)) (h2 : a1.toInt < (q_i (σ.1 a0 3)).toInt) (h3 : a1.toInt ≥ (8 : Int)) :
    p_102 (a0) (a1) σ (Int32.ofInt (0)) σ := by
  exact ⟨rfl, fun h => absurd rfl h, fun h => by omega⟩
theorem sp_102_efff (a0 : Nat) (a1 : Int32) (σ : zSg) (h1 : a1.toInt ≥ (0 : Int)) (h2 : a1.toInt < (q_i (σ.1 a0 3)).toInt) (h3 : a1.toInt < (8 : Int)) :
    p_102 (a0) (a1) σ (Int32.ofInt (1)) σ := by
  exact ⟨rfl, fun _ => ⟨by omega, by omega, by omega⟩, fun _ => by decide⟩
noncomputable def qP_102 : zPp := fun as σ o σ' => match as with
  | [a0, a1] => ∃ r, o = .inl (some (.int r)) ∧ p_102 (q_r a0) (q_i a1) σ r σ'
  | _ => True
set_option maxRecDepth 100000 in
theorem sp_102 {sx : zX}  : zEe sx 102 2 qP_102 := by
  refine zfle zJ_102 (sps := []) (fun q hq => absurd hq List.not_mem_nil) (fun as σ hl => ?_)
  match as, hl with
  | [a0, a1], _ =>
  refine ⟨[], 400, ?_, ?_⟩
  · exact fun q hq => absurd hq List.not_mem_nil
  · refine And.intro (fun h1 => ?_) (fun h1 => ?_)
    · exact ⟨_, rfl, sp_102_et (q_r a0) (q_i a1) σ (cm2t h1)⟩
    · refine And.intro (fun h2 => ?_) (fun h2 => ?_)
      · exact ⟨_, rfl, sp_102_eft (q_r a0) (q_i a1) σ (cm2f h1) (cm3t h2)⟩
      · refine And.intro (fun h3 => ?_) (fun h3 => ?_)
        · exact ⟨_, rfl, sp_102_efft (q_r a0) (q_i a1) σ (cm2f h1) (cm3f h2) (cm3t h3)⟩
        · exact ⟨_, rfl, sp_102_efff (q_r a0) (q_i a1) σ (cm2f h1) (cm3f h2) (cm3f h3)⟩
theorem zJ_105 : zJ3 105 z_m105 z_c105 z_h105 := ⟨rfl, rfl, rfl⟩
noncomputable def p_105 (a : Nat) (t : Int32) (σ : zSg) (r : Int32) (σ' : zSg) : Prop := σ' = σ ∧ ∀ b H, a = b + 7 → hH σ b H → ∀ T, t = Int32.ofNat T → T < 8 → r = H (66 + 3 * T)
theorem sp_105_et (a0 : Nat) (a1 : Int32) (σ : zSg) (h1 : (((q_i (σ.1 a0 2)) >>> (a1 &&& 31)) &&& (Int32.ofInt (1))).toInt ≠ (1 : Int)) :
    p_105 (a0) (a1) σ (Int32.ofInt (0)) σ := by
  refine ⟨rfl, ?_⟩
  rintro b H rfl K T rfl hT
  obtain ⟨l, hl, hl'⟩ := K.2.2.1
  rw [hl' T hT]
  simp only [hl, q_ii] at h1
  exact (if_neg (fun q => h1 (of_decide_eq_true q))).symm
theorem sp_105_ef (a0 : Nat) (a1 : Int32) (σ : zSg) (h1 : (((q_i (σ.1 a0 2)) >>> (a1 &&& 31)) &&& (Int32.ofInt (1))).toInt = (1 : Int)) :
    p_105 (a0) (a1) σ (Int32.ofInt (1)) σ := by
  refine ⟨rfl, ?_⟩
  rintro b H rfl K T rfl hT
  obtain ⟨l, hl, hl'⟩ := K.2.2.1
  rw [hl' T hT]
  simp only [hl, q_ii] at h1
  exact (if_pos (decide_eq_true h1)).symm
noncomputable def qP_105 : zPp := fun as σ o σ' => match as with
  | [a0, a1] => ∃ r, o = .inl (some (.int r)) ∧ p_105 (q_r a0) (q_i a1) σ r σ'
  | _ => True
set_option maxRecDepth 100000 in
theorem sp_105 {sx : zX}  : zEe sx 105 2 qP_105 := by
  refine zfle zJ_105 (sps := []) (fun q hq => absurd hq List.not_mem_nil) (fun as σ hl => ?_)
  match as, hl with
  | [a0, a1], _ =>
  refine ⟨[], 400, ?_, ?_⟩
  · exact fun q hq => absurd hq List.not_mem_nil
  · refine And.intro (fun h1 => ?_) (fun h1 => ?_)
    · exact ⟨_, rfl, sp_105_et (q_r a0) (q_i a1) σ (cm1t h1)⟩
    · exact ⟨_, rfl, sp_105_ef (q_r a0) (q_i a1) σ (cm1f h1)⟩
theorem zJ_107 : zJ3 107 z_m107 z_c107 z_h107 := ⟨rfl, rfl, rfl⟩
noncomputable def p_107 (a : Nat) (t : Int32) (σ σ' : zSg) : Prop := σ' = q_w σ a 2 (.int (q_i (σ.1 a 2) &&& ((Int32.ofInt 1 <<< (t &&& 31)) ^^^ Int32.ofInt (-1))))
theorem sp_107_e (a0 : Nat) (a1 : Int32) (σ : zSg)  :
    p_107 (a0) (a1) σ (q_w σ a0 2 (.int ((q_i (σ.1 a0 2)) &&& (((Int32.ofInt (1)) <<< (a1 &&& 31)) ^^^ (Int32.ofInt (-1)))))) := by
  exact rfl
noncomputable def qP_107 : zPp := fun as σ o σ' => match as with
  | [a0, a1] => o = .inl none ∧ p_107 (q_r a0) (q_i a1) σ σ'
  | _ => True
set_option maxRecDepth 100000 in
theorem sp_107 {sx : zX}  : zEe sx 107 2 qP_107 := by
  refine zfle zJ_107 (sps := []) (fun q hq => absurd hq List.not_mem_nil) (fun as σ hl => ?_)
  match as, hl with
  | [a0, a1], _ =>
  refine ⟨[], 400, ?_, ?_⟩
  · exact fun q hq => absurd hq List.not_mem_nil
  · exact ⟨rfl, sp_107_e (q_r a0) (q_i a1) σ ⟩
noncomputable def aSm (f : Nat → Int32) : Nat → Int32
  | 0 => Int32.ofInt 0
  | n + 1 => aSm f n + f n
theorem aSm_cg {f g : Nat → Int32} : ∀ n, (∀ k, k < n → f k = g k) → aSm f n = aSm g n
  | 0, _ => rfl
  | n + 1, h => by
    show aSm f n + f n = aSm g n + g n
    rw [aSm_cg n (fun k hk => h k (by omega)), h n (by omega)]
noncomputable def aB1 (H : Nat → Int32) (g : Int32) (t : Nat) : Int32 := if H (66 + 3 * t) = Int32.ofInt 1 ∧ H (64 + 3 * t) ≠ g then H (65 + 3 * t) else Int32.ofInt 0
noncomputable def aBo (H : Nat → Int32) (g : Int32) (n : Nat) : Int32 := aSm (aB1 H g) n
theorem if1 {c : Bool} : ((if c = true then Int32.ofInt 1 else Int32.ofInt 0) = Int32.ofInt 1) ↔ c = true := by cases c <;> decide
theorem zJ_109 : zJ3 109 z_m109 z_c109 z_h109 := ⟨rfl, rfl, rfl⟩
noncomputable def p_109 (a : Nat) (g : Int32) (σ : zSg) (r : Int32) (σ' : zSg) : Prop := ∀ b H nt, a = b + 7 → hH σ b H → H 1 = Int32.ofNat nt → nt ≤ 8 → σ' = σ ∧ r = aBo H g nt
noncomputable def i_109 (a : Nat) (g : Int32) (σ : zSg) (l0 : Nat) (l1 l2 l3 : Int32) (τ : zSg) : Prop := l0 = a ∧ l1 = g ∧ ∀ b H nt, a = b + 7 → hH σ b H → H 1 = Int32.ofNat nt → nt ≤ 8 → τ = σ ∧ ∃ n, n ≤ nt ∧ l3 = Int32.ofNat n ∧ l2 = aBo H g n
theorem sp_109_e (a0 : Nat) (a1 : Int32) (σ : zSg)  :
    i_109 a0 a1 σ a0 a1 (Int32.ofInt (0)) (Int32.ofInt (0)) σ := by
  exact ⟨rfl, rfl, fun b H nt _ _ _ _ => ⟨rfl, 0, by omega, rfl, rfl⟩⟩
theorem sp_109_c4_t (a0 : Nat) (a1 : Int32) (σ : zSg) (l0 : Nat) (l1 : Int32) (l2 : Int32) (l3 : Int32) (τ : zSg) (hI : i_109 a0 a1 σ l0 l1 l2 l3 τ) (h1 : l3.toInt ≥ (q_i (τ.1 l0 3)).toInt) :
    p_109 (a0) (a1) σ l2 τ := by
  obtain ⟨rfl, rfl, hI⟩ := hI
  rintro b H nt rfl K u1 u8
  obtain ⟨rfl, n, hn, rfl, rfl⟩ := hI b H nt rfl K u1 u8
  have p1 := (K.p hp_1).trans u1
  rw [p1, o32 (by omega), o32 (by omega)] at h1
  exact ⟨rfl, by rw [show n = nt by omega]⟩
theorem sp_109_c4_ft (a0 : Nat) (a1 : Int32) (σ : zSg) (l0 : Nat) (l1 : Int32) (l2 : Int32) (l3 : Int32) (τ : zSg) (hI : i_109 a0 a1 σ l0 l1 l2 l3 τ) (h1 : l3.toInt < (q_i (τ.1 l0 3)).toInt) (h2 : (((q_i (τ.1 l0 2)) >>> (l3 &&& 31)) &&& (Int32.ofInt (1))).toInt ≠ (1 : Int)) :
    i_109 a0 a1 σ l0 l1 l2 (l3 + Int32.ofInt (1)) τ := by
  obtain ⟨rfl, rfl, hI⟩ := hI
  refine ⟨rfl, rfl, ?_⟩
  rintro b H nt rfl K u1 u8
  obtain ⟨rfl, n, hn, rfl, rfl⟩ := hI b H nt rfl K u1 u8
  have p1 := (K.p hp_1).trans u1
  rw [p1, o32 (by omega), o32 (by omega)] at h1
  have nn : (Int32.ofNat n).toNatClampNeg = n := o32n (by omega)
  obtain ⟨l, hl, hl'⟩ := K.2.2.1
  have hb := hl' n (by omega)
  simp only [hl, q_ii] at h2
  refine ⟨rfl, n + 1, by omega, o32i (by omega), ?_⟩
  show _ = aBo H l1 n + aB1 H l1 n
  have : aB1 H l1 n = 0 := by
    unfold aB1
    rw [if_neg]
    · rfl
    rintro ⟨q, -⟩
    rw [hb, if1] at q
    exact h2 (of_decide_eq_true q)
  rw [this, Int32.add_zero]
theorem sp_109_c4_fft (a0 : Nat) (a1 : Int32) (σ : zSg) (l0 : Nat) (l1 : Int32) (l2 : Int32) (l3 : Int32) (τ : zSg) (hI : i_109 a0 a1 σ l0 l1 l2 l3 τ) (h1 : l3.toInt < (q_i (τ.1 l0 3)).toInt) (h2 : (((q_i (τ.1 l0 2)) >>> (l3 &&& 31)) &&& (Int32.ofInt (1))).toInt = (1 : Int)) (h3 : 0 ≤ l3.toInt ∧ l3.toInt < (τ.2.1 (q_r (τ.1 l0 0)) : Int)) (h4 : (q_i (τ.1 (q_r (τ.1 l0 0)) l3.toNatClampNeg)).toInt = l1.toInt) :
    i_109 a0 a1 σ l0 l1 l2 (l3 + Int32.ofInt (1)) τ := by
  obtain ⟨rfl, rfl, hI⟩ := hI
  refine ⟨rfl, rfl, ?_⟩
  rintro b H nt rfl K u1 u8
  obtain ⟨rfl, n, hn, rfl, rfl⟩ := hI b H nt rfl K u1 u8
  have p1 := (K.p hp_1).trans u1
  rw [p1, o32 (by omega), o32 (by omega)] at h1
  have nn : (Int32.ofNat n).toNatClampNeg = n := o32n (by omega)
  obtain ⟨l, hl, hl'⟩ := K.2.2.1
  have hb := hl' n (by omega)
  simp only [hl, q_ii] at h2
  have d0 := K.k hk_t0
  have p2 := K.p (hp_o (t := n) (by omega))
  simp only [d0, nn, p2] at h4
  refine ⟨rfl, n + 1, by omega, o32i (by omega), ?_⟩
  show _ = aBo H l1 n + aB1 H l1 n
  have : aB1 H l1 n = 0 := by
    unfold aB1
    rw [if_neg]
    · rfl
    rintro ⟨-, q⟩
    exact q (Int32.toInt_inj.mp h4)
  rw [this, Int32.add_zero]
theorem sp_109_c4_fff (a0 : Nat) (a1 : Int32) (σ : zSg) (l0 : Nat) (l1 : Int32) (l2 : Int32) (l3 : Int32) (τ : zSg) (hI : i_109 a0 a1 σ l0 l1 l2 l3 τ) (h1 : l3.toInt < (q_i (τ.1 l0 3)).toInt) (h2 : (((q_i (τ.1 l0 2)) >>> (l3 &&& 31)) &&& (Int32.ofInt (1))).toInt = (1 : Int)) (h3 : 0 ≤ l3.toInt ∧ l3.toInt < (τ.2.1 (q_r (τ.1 l0 0)) : Int)) (h4 : (q_i (τ.1 (q_r (τ.1 l0 0)) l3.toNatClampNeg)).toInt ≠ l1.toInt) (h5 : 0 ≤ l3.toInt ∧ l3.toInt < (τ.2.1 (q_r (τ.1 l0 1)) : Int)) :
    i_109 a0 a1 σ l0 l1 (l2 + (q_i (τ.1 (q_r (τ.1 l0 1)) l3.toNatClampNeg))) (l3 + Int32.ofInt (1)) τ := by
  obtain ⟨rfl, rfl, hI⟩ := hI
  refine ⟨rfl, rfl, ?_⟩
  rintro b H nt rfl K u1 u8
  obtain ⟨rfl, n, hn, rfl, rfl⟩ := hI b H nt rfl K u1 u8
  have p1 := (K.p hp_1).trans u1
  rw [p1, o32 (by omega), o32 (by omega)] at h1
  have nn : (Int32.ofNat n).toNatClampNeg = n := o32n (by omega)
  obtain ⟨l, hl, hl'⟩ := K.2.2.1
  have hb := hl' n (by omega)
  simp only [hl, q_ii] at h2
  have d0 := K.k hk_t0
  have d1 := K.k hk_t1
  have p2 := K.p (hp_o (t := n) (by omega))
  have p3 := K.p (hp_b (t := n) (by omega))
  simp only [d0, nn, p2] at h4
  simp only [d1, nn, p3]
  refine ⟨trivial, n + 1, by omega, o32i (by omega), ?_⟩
  show _ = aBo H l1 n + aB1 H l1 n
  have : aB1 H l1 n = H (65 + 3 * n) := by
    unfold aB1
    rw [if_pos]
    refine ⟨?_, fun q => h4 (by rw [q])⟩
    rw [hb, if1]
    exact decide_eq_true h2
  rw [this]
noncomputable def qP_109 : zPp := fun as σ o σ' => match as with
  | [a0, a1] => ∃ r, o = .inl (some (.int r)) ∧ p_109 (q_r a0) (q_i a1) σ r σ'
  | _ => True
set_option maxRecDepth 100000 in
theorem sp_109 {sx : zX}  : zEe sx 109 2 qP_109 := by
  refine zfle zJ_109 (sps := []) (fun q hq => absurd hq List.not_mem_nil) (fun as σ hl => ?_)
  match as, hl with
  | [a0, a1], _ =>
  refine ⟨[(4, fun lo st τ => st = [] ∧ i_109 (q_r a0) (q_i a1) σ (q_r (lo 0)) (q_i (lo 1)) (q_i (lo 2)) (q_i (lo 3)) τ)], 400, ?_, ?_⟩
  · intro q hq
    simp only [List.mem_cons, List.not_mem_nil, or_false] at hq
    rcases hq with rfl
    · rintro lo st τ ⟨rfl, hI⟩
      refine ⟨400, ?_⟩
      refine And.intro (fun h1 => ?_) (fun h1 => ?_)
      · exact ⟨_, rfl, sp_109_c4_t (q_r a0) (q_i a1) σ (q_r (lo 0)) (q_i (lo 1)) (q_i (lo 2)) (q_i (lo 3)) τ hI (cm3t h1)⟩
      · refine And.intro (fun h2 => ?_) (fun h2 => ?_)
        · exact ⟨rfl, sp_109_c4_ft (q_r a0) (q_i a1) σ (q_r (lo 0)) (q_i (lo 1)) (q_i (lo 2)) (q_i (lo 3)) τ hI (cm3f h1) (cm1t h2)⟩
        · refine fun h3 => ?_
          refine And.intro (fun h4 => ?_) (fun h4 => ?_)
          · exact ⟨rfl, sp_109_c4_fft (q_r a0) (q_i a1) σ (q_r (lo 0)) (q_i (lo 1)) (q_i (lo 2)) (q_i (lo 3)) τ hI (cm3f h1) (cm1f h2) (q_inp h3) (cm0t h4)⟩
          · refine fun h5 => ?_
            exact ⟨rfl, sp_109_c4_fff (q_r a0) (q_i a1) σ (q_r (lo 0)) (q_i (lo 1)) (q_i (lo 2)) (q_i (lo 3)) τ hI (cm3f h1) (cm1f h2) (q_inp h3) (cm0f h4) (q_inp h5)⟩
  · exact ⟨rfl, sp_109_e (q_r a0) (q_i a1) σ ⟩
theorem zJ_108 : zJ3 108 z_m108 z_c108 z_h108 := ⟨rfl, rfl, rfl⟩
noncomputable def p_108 (a : Nat) (σ : zSg) (r : Int32) (σ' : zSg) : Prop := ∀ b H nt, a = b + 7 → hH σ b H → H 1 = Int32.ofNat nt → nt ≤ 8 → σ' = σ ∧ r = aBo H (Int32.ofInt (-1)) nt
theorem sp_108_e (a0 : Nat) (σ : zSg) (τ1 : zSg) (r1 : Int32) (g1 : p_109 a0 (Int32.ofInt (-1)) σ r1 τ1) :
    p_108 (a0) σ r1 τ1 := by
  exact g1
noncomputable def qP_108 : zPp := fun as σ o σ' => match as with
  | [a0] => ∃ r, o = .inl (some (.int r)) ∧ p_108 (q_r a0) σ r σ'
  | _ => True
set_option maxRecDepth 100000 in
theorem sp_108 {sx : zX} (S109 : zEe sx 109 2 qP_109) : zEe sx 108 1 qP_108 := by
  refine zfle zJ_108 (sps := [(109, 2, qP_109)]) (fun q hq => by
    simp only [List.mem_cons, List.not_mem_nil, or_false] at hq
    rcases hq with rfl
    · exact S109) (fun as σ hl => ?_)
  match as, hl with
  | [a0], _ =>
  refine ⟨[], 400, ?_, ?_⟩
  · exact fun q hq => absurd hq List.not_mem_nil
  · refine fun o1 τ1 g1 => ?_
    obtain ⟨r1, rfl, g1⟩ := g1
    exact ⟨_, rfl, sp_108_e (q_r a0) σ τ1 r1 g1⟩
theorem zJ_177 : zJ3 177 z_m177 z_c177 z_h177 := ⟨rfl, rfl, rfl⟩
noncomputable def p_177 (v l t : Int32) (σ : zSg) (r : Int32) (σ' : zSg) : Prop := σ' = σ ∧ (r.toInt ≠ 0 ↔ l.toInt ≤ v.toInt ∧ v.toInt ≤ t.toInt)
theorem sp_177_et (a0 : Int32) (a1 : Int32) (a2 : Int32) (σ : zSg) (h1 : a0.toInt < a1.toInt) :
    p_177 (a0) (a1) (a2) σ (Int32.ofInt (0)) σ := by
  exact ⟨rfl, fun h => absurd rfl h, fun h => by omega⟩
theorem sp_177_eft (a0 : Int32) (a1 : Int32) (a2 : Int32) (σ : zSg) (h1 : a0.toInt ≥ a1.toInt) (h2 : a0.toInt > a2.toInt) :
    p_177 (a0) (a1) (a2) σ (Int32.ofInt (0)) σ := by
  exact ⟨rfl, fun h => absurd rfl h, fun h => by omega⟩
theorem sp_177_eff (a0 : Int32) (a1 : Int32) (a2 : Int32) (σ : zSg) (h1 : a0.toInt ≥ a1.toInt) (h2 : a0.toInt ≤ a2.toInt) :
    p_177 (a0) (a1) (a2) σ (Int32.ofInt (1)) σ := by
  exact ⟨rfl, fun _ => ⟨by omega, by omega⟩, fun _ => by decide⟩
noncomputable def qP_177 : zPp := fun as σ o σ' => match as with
  | [a0, a1, a2] => ∃ r, o = .inl (some (.int r)) ∧ p_177 (q_i a0) (q_i a1) (q_i a2) σ r σ'
  | _ => True
set_option maxRecDepth 100000 in
theorem sp_177 {sx : zX}  : zEe sx 177 3 qP_177 := by
  refine zfle zJ_177 (sps := []) (fun q hq => absurd hq List.not_mem_nil) (fun as σ hl => ?_)
  match as, hl with
  | [a0, a1, a2], _ =>
  refine ⟨[], 400, ?_, ?_⟩
  · exact fun q hq => absurd hq List.not_mem_nil
  · refine And.intro (fun h1 => ?_) (fun h1 => ?_)
    · exact ⟨_, rfl, sp_177_et (q_i a0) (q_i a1) (q_i a2) σ (cm2t h1)⟩
    · refine And.intro (fun h2 => ?_) (fun h2 => ?_)
      · exact ⟨_, rfl, sp_177_eft (q_i a0) (q_i a1) (q_i a2) σ (cm2f h1) (cm4t h2)⟩
      · exact ⟨_, rfl, sp_177_eff (q_i a0) (q_i a1) (q_i a2) σ (cm2f h1) (cm4f h2)⟩
theorem zJ_188 : zJ3 188 z_m188 z_c188 z_h188 := ⟨rfl, rfl, rfl⟩
noncomputable def p_188 (a : Nat) (σ : zSg) (r : Int32) (σ' : zSg) : Prop := σ' = σ ∧ (a = 205 → ∀ A, rW σ A → ∀ n, A 4 = Int32.ofNat n → n < 24 → r = A (16 + n))
theorem sp_188_e (a0 : Nat) (σ : zSg) (τ2 : zSg) (r2 : Int32) (h1 : 0 ≤ (Int32.ofInt (4)).toInt ∧ (Int32.ofInt (4)).toInt < (σ.2.1 (q_r (σ.1 a0 1)) : Int)) (g2 : p_186 a0 (q_i (σ.1 (q_r (σ.1 a0 1)) (Int32.ofInt (4)).toNatClampNeg)) σ r2 τ2) :
    p_188 (a0) σ r2 τ2 := by
  obtain ⟨rfl, g⟩ := g2
  refine ⟨rfl, ?_⟩
  rintro rfl A K n u4 un
  exact g rfl A n K (by rw [K.q]; exact (K.i (k := 4) (by omega)).trans u4) un
noncomputable def qP_188 : zPp := fun as σ o σ' => match as with
  | [a0] => ∃ r, o = .inl (some (.int r)) ∧ p_188 (q_r a0) σ r σ'
  | _ => True
set_option maxRecDepth 100000 in
theorem sp_188 {sx : zX} (S186 : zEe sx 186 2 qP_186) : zEe sx 188 1 qP_188 := by
  refine zfle zJ_188 (sps := [(186, 2, qP_186)]) (fun q hq => by
    simp only [List.mem_cons, List.not_mem_nil, or_false] at hq
    rcases hq with rfl
    · exact S186) (fun as σ hl => ?_)
  match as, hl with
  | [a0], _ =>
  refine ⟨[], 400, ?_, ?_⟩
  · exact fun q hq => absurd hq List.not_mem_nil
  · refine fun h1 => ?_
    refine fun o2 τ2 g2 => ?_
    obtain ⟨r2, rfl, g2⟩ := g2
    exact ⟨_, rfl, sp_188_e (q_r a0) σ τ2 r2 (q_inp h1) g2⟩
theorem zJ_190 : zJ3 190 z_m190 z_c190 z_h190 := ⟨rfl, rfl, rfl⟩
noncomputable def p_190 (a : Nat) (f w : Int32) (σ : zSg) (r : Int32) (σ' : zSg) : Prop := σ' = σ ∧ (a = 205 → ∀ A, rW σ A → ∀ F k, f = Int32.ofNat F → F < 6 → w = Int32.ofNat k → k < 4 → r = A (40 + k + 4 * F))
theorem sp_190_e (a0 : Nat) (a1 : Int32) (a2 : Int32) (σ : zSg) (τ1 : zSg) (r1 : Int32) (g1 : p_189 a1 a2 σ r1 τ1) (h2 : 0 ≤ r1.toInt ∧ r1.toInt < (τ1.2.1 (q_r (σ.1 a0 1)) : Int)) :
    p_190 (a0) (a1) (a2) σ (q_i (τ1.1 (q_r (σ.1 a0 1)) r1.toNatClampNeg)) τ1 := by
  obtain ⟨rfl, rfl⟩ := g1
  refine ⟨rfl, ?_⟩
  rintro rfl A K F k rfl uF rfl uk
  rw [K.q]
  have hk : k = 0 ∨ k = 1 ∨ k = 2 ∨ k = 3 := by omega
  rcases hk with rfl | rfl | rfl | rfl
  · exact (congrArg (fun i => q_i (τ1.1 206 i)) (at4_0 uF)).trans (K.i (by omega))
  · exact (congrArg (fun i => q_i (τ1.1 206 i)) (at4_1 uF)).trans (K.i (by omega))
  · exact (congrArg (fun i => q_i (τ1.1 206 i)) (at4_2 uF)).trans (K.i (by omega))
  · exact (congrArg (fun i => q_i (τ1.1 206 i)) (at4_3 uF)).trans (K.i (by omega))
noncomputable def qP_190 : zPp := fun as σ o σ' => match as with
  | [a0, a1, a2] => ∃ r, o = .inl (some (.int r)) ∧ p_190 (q_r a0) (q_i a1) (q_i a2) σ r σ'
  | _ => True
set_option maxRecDepth 100000 in
theorem sp_190 {sx : zX} (S189 : zEe sx 189 2 qP_189) : zEe sx 190 3 qP_190 := by
  refine zfle zJ_190 (sps := [(189, 2, qP_189)]) (fun q hq => by
    simp only [List.mem_cons, List.not_mem_nil, or_false] at hq
    rcases hq with rfl
    · exact S189) (fun as σ hl => ?_)
  match as, hl with
  | [a0, a1, a2], _ =>
  refine ⟨[], 400, ?_, ?_⟩
  · exact fun q hq => absurd hq List.not_mem_nil
  · refine fun o1 τ1 g1 => ?_
    obtain ⟨r1, rfl, g1⟩ := g1
    refine fun h2 => ?_
    exact ⟨_, rfl, sp_190_e (q_r a0) (q_i a1) (q_i a2) σ τ1 r1 g1 (q_inp h2)⟩
theorem zJ_193 : zJ3 193 z_m193 z_c193 z_h193 := ⟨rfl, rfl, rfl⟩
noncomputable def p_193 (a : Nat) (f w : Int32) (σ : zSg) (r : Int32) (σ' : zSg) : Prop := σ' = σ ∧ (a = 205 → ∀ A, rW σ A → ∀ F k, f = Int32.ofNat F → F < 8 → w = Int32.ofNat k → k < 3 → r = A (64 + k + 3 * F))
theorem sp_193_e (a0 : Nat) (a1 : Int32) (a2 : Int32) (σ : zSg) (τ1 : zSg) (r1 : Int32) (g1 : p_192 a1 a2 σ r1 τ1) (h2 : 0 ≤ r1.toInt ∧ r1.toInt < (τ1.2.1 (q_r (σ.1 a0 1)) : Int)) :
    p_193 (a0) (a1) (a2) σ (q_i (τ1.1 (q_r (σ.1 a0 1)) r1.toNatClampNeg)) τ1 := by
  obtain ⟨rfl, rfl⟩ := g1
  refine ⟨rfl, ?_⟩
  rintro rfl A K F k rfl uF rfl uk
  rw [K.q]
  have hk : k = 0 ∨ k = 1 ∨ k = 2 := by omega
  rcases hk with rfl | rfl | rfl
  · exact (congrArg (fun i => q_i (τ1.1 206 i)) (at3_0 uF)).trans (K.i (by omega))
  · exact (congrArg (fun i => q_i (τ1.1 206 i)) (at3_1 uF)).trans (K.i (by omega))
  · exact (congrArg (fun i => q_i (τ1.1 206 i)) (at3_2 uF)).trans (K.i (by omega))
noncomputable def qP_193 : zPp := fun as σ o σ' => match as with
  | [a0, a1, a2] => ∃ r, o = .inl (some (.int r)) ∧ p_193 (q_r a0) (q_i a1) (q_i a2) σ r σ'
  | _ => True
set_option maxRecDepth 100000 in
theorem sp_193 {sx : zX} (S192 : zEe sx 192 2 qP_192) : zEe sx 193 3 qP_193 := by
  refine zfle zJ_193 (sps := [(192, 2, qP_192)]) (fun q hq => by
    simp only [List.mem_cons, List.not_mem_nil, or_false] at hq
    rcases hq with rfl
    · exact S192) (fun as σ hl => ?_)
  match as, hl with
  | [a0, a1, a2], _ =>
  refine ⟨[], 400, ?_, ?_⟩
  · exact fun q hq => absurd hq List.not_mem_nil
  · refine fun o1 τ1 g1 => ?_
    obtain ⟨r1, rfl, g1⟩ := g1
    refine fun h2 => ?_
    exact ⟨_, rfl, sp_193_e (q_r a0) (q_i a1) (q_i a2) σ τ1 r1 g1 (q_inp h2)⟩
theorem zJ_191 : zJ3 191 z_m191 z_c191 z_h191 := ⟨rfl, rfl, rfl⟩
noncomputable def p_191 (a : Nat) (f h : Int32) (σ : zSg) (r : Int32) (σ' : zSg) : Prop := σ' = σ ∧ (a = 205 → ∀ A, rW σ A → ∀ F, f = Int32.ofNat F → F < 6 → r = if btb (A (43 + 4 * F)) h = true then Int32.ofInt 1 else Int32.ofInt 0)
theorem sp_191_e (a0 : Nat) (a1 : Int32) (a2 : Int32) (σ : zSg) (τ1 : zSg) (r1 : Int32) (τ2 : zSg) (r2 : Int32) (g1 : p_190 a0 a1 (Int32.ofInt (3)) σ r1 τ1) (g2 : p_178 r1 a2 τ1 r2 τ2) :
    p_191 (a0) (a1) (a2) σ r2 τ2 := by
  obtain ⟨rfl, g⟩ := g1
  obtain ⟨rfl, e⟩ := g2
  refine ⟨rfl, ?_⟩
  rintro rfl A K F rfl uF
  rw [e, g rfl A K F 3 rfl uF rfl (by omega)]
noncomputable def qP_191 : zPp := fun as σ o σ' => match as with
  | [a0, a1, a2] => ∃ r, o = .inl (some (.int r)) ∧ p_191 (q_r a0) (q_i a1) (q_i a2) σ r σ'
  | _ => True
set_option maxRecDepth 100000 in
theorem sp_191 {sx : zX} (S190 : zEe sx 190 3 qP_190) (S178 : zEe sx 178 2 qP_178) : zEe sx 191 3 qP_191 := by
  refine zfle zJ_191 (sps := [(190, 3, qP_190), (178, 2, qP_178)]) (fun q hq => by
    simp only [List.mem_cons, List.not_mem_nil, or_false] at hq
    rcases hq with rfl | rfl
    · exact S190
    · exact S178) (fun as σ hl => ?_)
  match as, hl with
  | [a0, a1, a2], _ =>
  refine ⟨[], 400, ?_, ?_⟩
  · exact fun q hq => absurd hq List.not_mem_nil
  · refine fun o1 τ1 g1 => ?_
    obtain ⟨r1, rfl, g1⟩ := g1
    refine fun o2 τ2 g2 => ?_
    obtain ⟨r2, rfl, g2⟩ := g2
    exact ⟨_, rfl, sp_191_e (q_r a0) (q_i a1) (q_i a2) σ τ1 r1 τ2 r2 g1 g2⟩
theorem zJ_194 : zJ3 194 z_m194 z_c194 z_h194 := ⟨rfl, rfl, rfl⟩
noncomputable def p_194 (a : Nat) (t : Int32) (σ : zSg) (r : Int32) (σ' : zSg) : Prop := σ' = σ ∧ (a = 205 → ∀ A, rW σ A → ∀ F, t = Int32.ofNat F → F < 8 → r = if A (66 + 3 * F) = Int32.ofInt 1 then Int32.ofInt 1 else Int32.ofInt 0)
theorem sp_194_et (a0 : Nat) (a1 : Int32) (σ : zSg) (τ1 : zSg) (r1 : Int32) (g1 : p_193 a0 a1 (Int32.ofInt (2)) σ r1 τ1) (h2 : r1.toInt ≠ (1 : Int)) :
    p_194 (a0) (a1) σ (Int32.ofInt (0)) τ1 := by
  obtain ⟨rfl, g⟩ := g1
  refine ⟨rfl, ?_⟩
  rintro rfl A K F rfl uF
  have e := g rfl A K F 2 rfl uF rfl (by omega)
  rw [e] at h2
  exact (if_neg (fun q => h2 (by rw [q]; rfl))).symm
theorem sp_194_ef (a0 : Nat) (a1 : Int32) (σ : zSg) (τ1 : zSg) (r1 : Int32) (g1 : p_193 a0 a1 (Int32.ofInt (2)) σ r1 τ1) (h2 : r1.toInt = (1 : Int)) :
    p_194 (a0) (a1) σ (Int32.ofInt (1)) τ1 := by
  obtain ⟨rfl, g⟩ := g1
  refine ⟨rfl, ?_⟩
  rintro rfl A K F rfl uF
  have e := g rfl A K F 2 rfl uF rfl (by omega)
  rw [e] at h2
  exact (if_pos (Int32.toInt_inj.mp h2)).symm
noncomputable def qP_194 : zPp := fun as σ o σ' => match as with
  | [a0, a1] => ∃ r, o = .inl (some (.int r)) ∧ p_194 (q_r a0) (q_i a1) σ r σ'
  | _ => True
set_option maxRecDepth 100000 in
theorem sp_194 {sx : zX} (S193 : zEe sx 193 3 qP_193) : zEe sx 194 2 qP_194 := by
  refine zfle zJ_194 (sps := [(193, 3, qP_193)]) (fun q hq => by
    simp only [List.mem_cons, List.not_mem_nil, or_false] at hq
    rcases hq with rfl
    · exact S193) (fun as σ hl => ?_)
  match as, hl with
  | [a0, a1], _ =>
  refine ⟨[], 400, ?_, ?_⟩
  · exact fun q hq => absurd hq List.not_mem_nil
  · refine fun o1 τ1 g1 => ?_
    obtain ⟨r1, rfl, g1⟩ := g1
    refine And.intro (fun h2 => ?_) (fun h2 => ?_)
    · exact ⟨_, rfl, sp_194_et (q_r a0) (q_i a1) σ τ1 r1 g1 (cm1t h2)⟩
    · exact ⟨_, rfl, sp_194_ef (q_r a0) (q_i a1) σ τ1 r1 g1 (cm1f h2)⟩
theorem zJ_195 : zJ3 195 z_m195 z_c195 z_h195 := ⟨rfl, rfl, rfl⟩
noncomputable def p_195 (a : Nat) (f : Int32) (σ : zSg) (r : Int32) (σ' : zSg) : Prop := σ' = σ ∧ (a = 205 → ∀ A, rW σ A → ∀ nf, A 0 = Int32.ofNat nf → nf ≤ 6 → (r.toInt ≠ 0 ↔ ¬ (0 ≤ f.toInt ∧ f.toInt < (nf : Int))))
theorem sp_195_et (a0 : Nat) (a1 : Int32) (σ : zSg) (τ1 : zSg) (r1 : Int32) (τ2 : zSg) (r2 : Int32) (g1 : p_184 a0 σ r1 τ1) (g2 : p_177 a1 (Int32.ofInt (0)) (r1 - (Int32.ofInt (1))) τ1 r2 τ2) (h3 : r2.toInt ≠ (0 : Int)) :
    p_195 (a0) (a1) σ (Int32.ofInt (0)) τ2 := by
  obtain ⟨rfl, g⟩ := g1
  obtain ⟨rfl, e⟩ := g2
  refine ⟨rfl, ?_⟩
  rintro rfl A K nf u0 u6
  have e1 : (r1 - Int32.ofInt 1).toInt = (nf : Int) - 1 := by
    rw [g rfl A K, u0]
    exact zI_sub (o32 (by omega)) (zI_c (by omega) (by omega)) (by omega) (by omega)
  rw [e1, show (Int32.ofInt 0).toInt = 0 from rfl] at e
  exact ⟨fun h => absurd rfl h, fun h => absurd (e.mp h3) (by omega)⟩
theorem sp_195_ef (a0 : Nat) (a1 : Int32) (σ : zSg) (τ1 : zSg) (r1 : Int32) (τ2 : zSg) (r2 : Int32) (g1 : p_184 a0 σ r1 τ1) (g2 : p_177 a1 (Int32.ofInt (0)) (r1 - (Int32.ofInt (1))) τ1 r2 τ2) (h3 : r2.toInt = (0 : Int)) :
    p_195 (a0) (a1) σ (Int32.ofInt (1)) τ2 := by
  obtain ⟨rfl, g⟩ := g1
  obtain ⟨rfl, e⟩ := g2
  refine ⟨rfl, ?_⟩
  rintro rfl A K nf u0 u6
  have e1 : (r1 - Int32.ofInt 1).toInt = (nf : Int) - 1 := by
    rw [g rfl A K, u0]
    exact zI_sub (o32 (by omega)) (zI_c (by omega) (by omega)) (by omega) (by omega)
  rw [e1, show (Int32.ofInt 0).toInt = 0 from rfl] at e
  exact ⟨fun _ => fun q => absurd h3 (e.mpr (by omega)), fun _ => by decide⟩
noncomputable def qP_195 : zPp := fun as σ o σ' => match as with
  | [a0, a1] => ∃ r, o = .inl (some (.int r)) ∧ p_195 (q_r a0) (q_i a1) σ r σ'
  | _ => True
set_option maxRecDepth 100000 in
theorem sp_195 {sx : zX} (S184 : zEe sx 184 1 qP_184) (S177 : zEe sx 177 3 qP_177) : zEe sx 195 2 qP_195 := by
  refine zfle zJ_195 (sps := [(184, 1, qP_184), (177, 3, qP_177)]) (fun q hq => by
    simp only [List.mem_cons, List.not_mem_nil, or_false] at hq
    rcases hq with rfl | rfl
    · exact S184
    · exact S177) (fun as σ hl => ?_)
  match as, hl with
  | [a0, a1], _ =>
  refine ⟨[], 400, ?_, ?_⟩
  · exact fun q hq => absurd hq List.not_mem_nil
  · refine fun o1 τ1 g1 => ?_
    obtain ⟨r1, rfl, g1⟩ := g1
    refine fun o2 τ2 g2 => ?_
    obtain ⟨r2, rfl, g2⟩ := g2
    refine And.intro (fun h3 => ?_) (fun h3 => ?_)
    · exact ⟨_, rfl, sp_195_et (q_r a0) (q_i a1) σ τ1 r1 τ2 r2 g1 g2 (cm1t h3)⟩
    · exact ⟨_, rfl, sp_195_ef (q_r a0) (q_i a1) σ τ1 r1 τ2 r2 g1 g2 (cm1f h3)⟩
theorem zJ_196 : zJ3 196 z_m196 z_c196 z_h196 := ⟨rfl, rfl, rfl⟩
noncomputable def p_196 (a : Nat) (f : Int32) (σ : zSg) (r : Int32) (σ' : zSg) : Prop := σ' = σ ∧ (a = 205 → ∀ A, rW σ A → ∀ nf, A 1 = Int32.ofNat nf → nf ≤ 8 → (r.toInt ≠ 0 ↔ ¬ (0 ≤ f.toInt ∧ f.toInt < (nf : Int))))
theorem sp_196_et (a0 : Nat) (a1 : Int32) (σ : zSg) (τ1 : zSg) (r1 : Int32) (τ2 : zSg) (r2 : Int32) (g1 : p_185 a0 σ r1 τ1) (g2 : p_177 a1 (Int32.ofInt (0)) (r1 - (Int32.ofInt (1))) τ1 r2 τ2) (h3 : r2.toInt ≠ (0 : Int)) :
    p_196 (a0) (a1) σ (Int32.ofInt (0)) τ2 := by
  obtain ⟨rfl, g⟩ := g1
  obtain ⟨rfl, e⟩ := g2
  refine ⟨rfl, ?_⟩
  rintro rfl A K nf u0 u6
  have e1 : (r1 - Int32.ofInt 1).toInt = (nf : Int) - 1 := by
    rw [g rfl A K, u0]
    exact zI_sub (o32 (by omega)) (zI_c (by omega) (by omega)) (by omega) (by omega)
  rw [e1, show (Int32.ofInt 0).toInt = 0 from rfl] at e
  exact ⟨fun h => absurd rfl h, fun h => absurd (e.mp h3) (by omega)⟩
theorem sp_196_ef (a0 : Nat) (a1 : Int32) (σ : zSg) (τ1 : zSg) (r1 : Int32) (τ2 : zSg) (r2 : Int32) (g1 : p_185 a0 σ r1 τ1) (g2 : p_177 a1 (Int32.ofInt (0)) (r1 - (Int32.ofInt (1))) τ1 r2 τ2) (h3 : r2.toInt = (0 : Int)) :
    p_196 (a0) (a1) σ (Int32.ofInt (1)) τ2 := by
  obtain ⟨rfl, g⟩ := g1
  obtain ⟨rfl, e⟩ := g2
  refine ⟨rfl, ?_⟩
  rintro rfl A K nf u0 u6
  have e1 : (r1 - Int32.ofInt 1).toInt = (nf : Int) - 1 := by
    rw [g rfl A K, u0]
    exact zI_sub (o32 (by omega)) (zI_c (by omega) (by omega)) (by omega) (by omega)
  rw [e1, show (Int32.ofInt 0).toInt = 0 from rfl] at e
  exact ⟨fun _ => fun q => absurd h3 (e.mpr (by omega)), fun _ => by decide⟩
noncomputable def qP_196 : zPp := fun as σ o σ' => match as with
  | [a0, a1] => ∃ r, o = .inl (some (.int r)) ∧ p_196 (q_r a0) (q_i a1) σ r σ'
  | _ => True
set_option maxRecDepth 100000 in
theorem sp_196 {sx : zX} (S185 : zEe sx 185 1 qP_185) (S177 : zEe sx 177 3 qP_177) : zEe sx 196 2 qP_196 := by
  refine zfle zJ_196 (sps := [(185, 1, qP_185), (177, 3, qP_177)]) (fun q hq => by
    simp only [List.mem_cons, List.not_mem_nil, or_false] at hq
    rcases hq with rfl | rfl
    · exact S185
    · exact S177) (fun as σ hl => ?_)
  match as, hl with
  | [a0, a1], _ =>
  refine ⟨[], 400, ?_, ?_⟩
  · exact fun q hq => absurd hq List.not_mem_nil
  · refine fun o1 τ1 g1 => ?_
    obtain ⟨r1, rfl, g1⟩ := g1
    refine fun o2 τ2 g2 => ?_
    obtain ⟨r2, rfl, g2⟩ := g2
    refine And.intro (fun h3 => ?_) (fun h3 => ?_)
    · exact ⟨_, rfl, sp_196_et (q_r a0) (q_i a1) σ τ1 r1 τ2 r2 g1 g2 (cm1t h3)⟩
    · exact ⟨_, rfl, sp_196_ef (q_r a0) (q_i a1) σ τ1 r1 τ2 r2 g1 g2 (cm1f h3)⟩
theorem zJ_197 : zJ3 197 z_m197 z_c197 z_h197 := ⟨rfl, rfl, rfl⟩
noncomputable def p_197 (h : Int32) (σ : zSg) (r : Int32) (σ' : zSg) : Prop := σ' = σ ∧ (r.toInt ≠ 0 ↔ ¬ (0 ≤ h.toInt ∧ h.toInt < 24))
theorem sp_197_et (a0 : Int32) (σ : zSg) (τ1 : zSg) (r1 : Int32) (g1 : p_177 a0 (Int32.ofInt (0)) (Int32.ofInt (23)) σ r1 τ1) (h2 : r1.toInt ≠ (0 : Int)) :
    p_197 (a0) σ (Int32.ofInt (0)) τ1 := by
  obtain ⟨rfl, e⟩ := g1
  rw [show (Int32.ofInt 0).toInt = 0 from rfl, show (Int32.ofInt 23).toInt = 23 from rfl] at e
  exact ⟨rfl, fun h => absurd rfl h, fun h => absurd (e.mp h2) (by omega)⟩
theorem sp_197_ef (a0 : Int32) (σ : zSg) (τ1 : zSg) (r1 : Int32) (g1 : p_177 a0 (Int32.ofInt (0)) (Int32.ofInt (23)) σ r1 τ1) (h2 : r1.toInt = (0 : Int)) :
    p_197 (a0) σ (Int32.ofInt (1)) τ1 := by
  obtain ⟨rfl, e⟩ := g1
  rw [show (Int32.ofInt 0).toInt = 0 from rfl, show (Int32.ofInt 23).toInt = 23 from rfl] at e
  exact ⟨rfl, fun _ => fun q => absurd h2 (e.mpr (by omega)), fun _ => by decide⟩
noncomputable def qP_197 : zPp := fun as σ o σ' => match as with
  | [a0] => ∃ r, o = .inl (some (.int r)) ∧ p_197 (q_i a0) σ r σ'
  | _ => True
set_option maxRecDepth 100000 in
theorem sp_197 {sx : zX} (S177 : zEe sx 177 3 qP_177) : zEe sx 197 1 qP_197 := by
  refine zfle zJ_197 (sps := [(177, 3, qP_177)]) (fun q hq => by
    simp only [List.mem_cons, List.not_mem_nil, or_false] at hq
    rcases hq with rfl
    · exact S177) (fun as σ hl => ?_)
  match as, hl with
  | [a0], _ =>
  refine ⟨[], 400, ?_, ?_⟩
  · exact fun q hq => absurd hq List.not_mem_nil
  · refine fun o1 τ1 g1 => ?_
    obtain ⟨r1, rfl, g1⟩ := g1
    refine And.intro (fun h2 => ?_) (fun h2 => ?_)
    · exact ⟨_, rfl, sp_197_et (q_i a0) σ τ1 r1 g1 (cm1t h2)⟩
    · exact ⟨_, rfl, sp_197_ef (q_i a0) σ τ1 r1 g1 (cm1f h2)⟩
