/-! the class's readers of a deed, exact; printed with wip/gen/gen_d3.py -/
theorem zJ_9 : zJ3 9 z_m9 z_c9 z_h9 := ⟨rfl, rfl, rfl⟩
noncomputable def p_9 (a : Nat) (f : Int32) (σ : zSg) (r : Int32) (σ' : zSg) : Prop := σ' = σ ∧ (r.toInt ≠ 0 ↔ 0 ≤ f.toInt ∧ f.toInt < (q_i (σ.1 a 4)).toInt ∧ f.toInt < 6)
theorem sp_9_et (a0 : Nat) (a1 : Int32) (σ : zSg) (h1 : a1.toInt < (0 : Int)) :
    p_9 (a0) (a1) σ (Int32.ofInt (0)) σ := by
  exact ⟨rfl, fun h => absurd rfl h, fun h => by omega⟩
theorem sp_9_eft (a0 : Nat) (a1 : Int32) (σ : zSg) (h1 : a1.toInt ≥ (0 : Int)) (h2 : a1.toInt ≥ (q_i (σ.1 a0 4)).toInt) :
    p_9 (a0) (a1) σ (Int32.ofInt (0)) σ := by
  exact ⟨rfl, fun h => absurd rfl h, fun h => by omega⟩
theorem sp_9_efft (a0 : Nat) (a1 : Int32) (σ : zSg) (h1 : a1.toInt ≥ (0 : Int)) (h2 : a1.toInt < (q_i (σ.1 a0 4)).toInt) (h3 : a1.toInt ≥ (6 : Int)) :
    p_9 (a0) (a1) σ (Int32.ofInt (0)) σ := by
  exact ⟨rfl, fun h => absurd rfl h, fun h => by omega⟩
theorem sp_9_efff (a0 : Nat) (a1 : Int32) (σ : zSg) (h1 : a1.toInt ≥ (0 : Int)) (h2 : a1.toInt < (q_i (σ.1 a0 4)).toInt) (h3 : a1.toInt < (6 : Int)) :
    p_9 (a0) (a1) σ (Int32.ofInt (1)) σ := by
  exact ⟨rfl, fun _ => ⟨by omega, by omega, by omega⟩, fun _ => by decide⟩
noncomputable def qP_9 : zPp := fun as σ o σ' => match as with
  | [a0, a1] => ∃ r, o = .inl (some (.int r)) ∧ p_9 (q_r a0) (q_i a1) σ r σ'
  | _ => True
set_option maxRecDepth 100000 in
theorem sp_9 {sx : zX}  : zEe sx 9 2 qP_9 := by
  refine zfle zJ_9 (sps := []) (fun q hq => absurd hq List.not_mem_nil) (fun as σ hl => ?_)
  match as, hl with
  | [a0, a1], _ =>
  refine ⟨[], 400, ?_, ?_⟩
  · exact fun q hq => absurd hq List.not_mem_nil
  · refine And.intro (fun h1 => ?_) (fun h1 => ?_)
    · exact ⟨_, rfl, sp_9_et (q_r a0) (q_i a1) σ (cm2t h1)⟩
    · refine And.intro (fun h2 => ?_) (fun h2 => ?_)
      · exact ⟨_, rfl, sp_9_eft (q_r a0) (q_i a1) σ (cm2f h1) (cm3t h2)⟩
      · refine And.intro (fun h3 => ?_) (fun h3 => ?_)
        · exact ⟨_, rfl, sp_9_efft (q_r a0) (q_i a1) σ (cm2f h1) (cm3f h2) (cm3t h3)⟩
        · exact ⟨_, rfl, sp_9_efff (q_r a0) (q_i a1) σ (cm2f h1) (cm3f h2) (cm3f h3)⟩
theorem zJ_10 : zJ3 10 z_m10 z_c10 z_h10 := ⟨rfl, rfl, rfl⟩
noncomputable def p_10 (a : Nat) (σ : zSg) (r : Int32) (σ' : zSg) : Prop := σ' = σ ∧ (r.toInt ≠ 0 ↔ (q_i (σ.1 a 4)).toInt < 6)
theorem sp_10_et (a0 : Nat) (σ : zSg) (h1 : (q_i (σ.1 a0 4)).toInt ≥ (6 : Int)) :
    p_10 (a0) σ (Int32.ofInt (0)) σ := by
  exact ⟨rfl, fun h => absurd rfl h, fun h => by omega⟩
theorem sp_10_ef (a0 : Nat) (σ : zSg) (h1 : (q_i (σ.1 a0 4)).toInt < (6 : Int)) :
    p_10 (a0) σ (Int32.ofInt (1)) σ := by
  exact ⟨rfl, fun _ => h1, fun _ => by decide⟩
noncomputable def qP_10 : zPp := fun as σ o σ' => match as with
  | [a0] => ∃ r, o = .inl (some (.int r)) ∧ p_10 (q_r a0) σ r σ'
  | _ => True
set_option maxRecDepth 100000 in
theorem sp_10 {sx : zX}  : zEe sx 10 1 qP_10 := by
  refine zfle zJ_10 (sps := []) (fun q hq => absurd hq List.not_mem_nil) (fun as σ hl => ?_)
  match as, hl with
  | [a0], _ =>
  refine ⟨[], 400, ?_, ?_⟩
  · exact fun q hq => absurd hq List.not_mem_nil
  · refine And.intro (fun h1 => ?_) (fun h1 => ?_)
    · exact ⟨_, rfl, sp_10_et (q_r a0) σ (cm3t h1)⟩
    · exact ⟨_, rfl, sp_10_ef (q_r a0) σ (cm3f h1)⟩
theorem zJ_103 : zJ3 103 z_m103 z_c103 z_h103 := ⟨rfl, rfl, rfl⟩
noncomputable def p_103 (a : Nat) (σ : zSg) (r : Int32) (σ' : zSg) : Prop := σ' = σ ∧ (r.toInt ≠ 0 ↔ (q_i (σ.1 a 3)).toInt < 8)
theorem sp_103_et (a0 : Nat) (σ : zSg) (h1 : (q_i (σ.1 a0 3)).toInt ≥ (8 : Int)) :
    p_103 (a0) σ (Int32.ofInt (0)) σ := by
  exact ⟨rfl, fun h => absurd rfl h, fun h => by omega⟩
theorem sp_103_ef (a0 : Nat) (σ : zSg) (h1 : (q_i (σ.1 a0 3)).toInt < (8 : Int)) :
    p_103 (a0) σ (Int32.ofInt (1)) σ := by
  exact ⟨rfl, fun _ => h1, fun _ => by decide⟩
noncomputable def qP_103 : zPp := fun as σ o σ' => match as with
  | [a0] => ∃ r, o = .inl (some (.int r)) ∧ p_103 (q_r a0) σ r σ'
  | _ => True
set_option maxRecDepth 100000 in
theorem sp_103 {sx : zX}  : zEe sx 103 1 qP_103 := by
  refine zfle zJ_103 (sps := []) (fun q hq => absurd hq List.not_mem_nil) (fun as σ hl => ?_)
  match as, hl with
  | [a0], _ =>
  refine ⟨[], 400, ?_, ?_⟩
  · exact fun q hq => absurd hq List.not_mem_nil
  · refine And.intro (fun h1 => ?_) (fun h1 => ?_)
    · exact ⟨_, rfl, sp_103_et (q_r a0) σ (cm3t h1)⟩
    · exact ⟨_, rfl, sp_103_ef (q_r a0) σ (cm3f h1)⟩
theorem zJ_106 : zJ3 106 z_m106 z_c106 z_h106 := ⟨rfl, rfl, rfl⟩
noncomputable def p_106 (a : Nat) (t : Int32) (σ σ' : zSg) : Prop := σ' = q_w σ a 2 (.int (q_i (σ.1 a 2) ||| (Int32.ofInt 1 <<< (t &&& 31))))
theorem sp_106_e (a0 : Nat) (a1 : Int32) (σ : zSg)  :
    p_106 (a0) (a1) σ (q_w σ a0 2 (.int ((q_i (σ.1 a0 2)) ||| ((Int32.ofInt (1)) <<< (a1 &&& 31))))) := by
  exact rfl
noncomputable def qP_106 : zPp := fun as σ o σ' => match as with
  | [a0, a1] => o = .inl none ∧ p_106 (q_r a0) (q_i a1) σ σ'
  | _ => True
set_option maxRecDepth 100000 in
theorem sp_106 {sx : zX}  : zEe sx 106 2 qP_106 := by
  refine zfle zJ_106 (sps := []) (fun q hq => absurd hq List.not_mem_nil) (fun as σ hl => ?_)
  match as, hl with
  | [a0, a1], _ =>
  refine ⟨[], 400, ?_, ?_⟩
  · exact fun q hq => absurd hq List.not_mem_nil
  · exact ⟨rfl, sp_106_e (q_r a0) (q_i a1) σ ⟩
noncomputable def dFd (H : Nat → Int32) (nf : Nat) (p d s : Int32) : Nat → Int32 := aU (aU (aU (aU (aU H (40 + 4 * nf) p) (41 + 4 * nf) d) (42 + 4 * nf) s) (43 + 4 * nf) (Int32.ofInt 0)) 0 (Int32.ofNat (nf + 1))
theorem zJ_12 : zJ3 12 z_m12 z_c12 z_h12 := ⟨rfl, rfl, rfl⟩
noncomputable def p_12 (a : Nat) (p d s : Int32) (σ : zSg) (r : Int32) (σ' : zSg) : Prop := ∀ b H nf, a = b + 2 → hH σ b H → H 0 = Int32.ofNat nf → nf ≤ 6 → hHF b σ σ' ∧ (nf = 6 → σ' = σ) ∧ (nf < 6 → r = Int32.ofNat nf ∧ hH σ' b (dFd H nf p d s))
theorem sp_12_et (a0 : Nat) (a1 : Int32) (a2 : Int32) (a3 : Int32) (σ : zSg) (τ1 : zSg) (r1 : Int32) (g1 : p_10 a0 σ r1 τ1) (h2 : r1.toInt ≠ (0 : Int)) (h3 : 0 ≤ (q_i (τ1.1 a0 4)).toInt ∧ (q_i (τ1.1 a0 4)).toInt < (τ1.2.1 (q_r (τ1.1 a0 0)) : Int)) (h4 : 0 ≤ (q_i ((q_w τ1 (q_r (τ1.1 a0 0)) (q_i (τ1.1 a0 4)).toNatClampNeg (.int a1)).1 a0 4)).toInt ∧ (q_i ((q_w τ1 (q_r (τ1.1 a0 0)) (q_i (τ1.1 a0 4)).toNatClampNeg (.int a1)).1 a0 4)).toInt < ((q_w τ1 (q_r (τ1.1 a0 0)) (q_i (τ1.1 a0 4)).toNatClampNeg (.int a1)).2.1 (q_r ((q_w τ1 (q_r (τ1.1 a0 0)) (q_i (τ1.1 a0 4)).toNatClampNeg (.int a1)).1 a0 1)) : Int)) (h5 : 0 ≤ (q_i ((q_w (q_w τ1 (q_r (τ1.1 a0 0)) (q_i (τ1.1 a0 4)).toNatClampNeg (.int a1)) (q_r ((q_w τ1 (q_r (τ1.1 a0 0)) (q_i (τ1.1 a0 4)).toNatClampNeg (.int a1)).1 a0 1)) (q_i ((q_w τ1 (q_r (τ1.1 a0 0)) (q_i (τ1.1 a0 4)).toNatClampNeg (.int a1)).1 a0 4)).toNatClampNeg (.int a2)).1 a0 4)).toInt ∧ (q_i ((q_w (q_w τ1 (q_r (τ1.1 a0 0)) (q_i (τ1.1 a0 4)).toNatClampNeg (.int a1)) (q_r ((q_w τ1 (q_r (τ1.1 a0 0)) (q_i (τ1.1 a0 4)).toNatClampNeg (.int a1)).1 a0 1)) (q_i ((q_w τ1 (q_r (τ1.1 a0 0)) (q_i (τ1.1 a0 4)).toNatClampNeg (.int a1)).1 a0 4)).toNatClampNeg (.int a2)).1 a0 4)).toInt < ((q_w (q_w τ1 (q_r (τ1.1 a0 0)) (q_i (τ1.1 a0 4)).toNatClampNeg (.int a1)) (q_r ((q_w τ1 (q_r (τ1.1 a0 0)) (q_i (τ1.1 a0 4)).toNatClampNeg (.int a1)).1 a0 1)) (q_i ((q_w τ1 (q_r (τ1.1 a0 0)) (q_i (τ1.1 a0 4)).toNatClampNeg (.int a1)).1 a0 4)).toNatClampNeg (.int a2)).2.1 (q_r ((q_w (q_w τ1 (q_r (τ1.1 a0 0)) (q_i (τ1.1 a0 4)).toNatClampNeg (.int a1)) (q_r ((q_w τ1 (q_r (τ1.1 a0 0)) (q_i (τ1.1 a0 4)).toNatClampNeg (.int a1)).1 a0 1)) (q_i ((q_w τ1 (q_r (τ1.1 a0 0)) (q_i (τ1.1 a0 4)).toNatClampNeg (.int a1)).1 a0 4)).toNatClampNeg (.int a2)).1 a0 2)) : Int)) (h6 : 0 ≤ (q_i ((q_w (q_w (q_w τ1 (q_r (τ1.1 a0 0)) (q_i (τ1.1 a0 4)).toNatClampNeg (.int a1)) (q_r ((q_w τ1 (q_r (τ1.1 a0 0)) (q_i (τ1.1 a0 4)).toNatClampNeg (.int a1)).1 a0 1)) (q_i ((q_w τ1 (q_r (τ1.1 a0 0)) (q_i (τ1.1 a0 4)).toNatClampNeg (.int a1)).1 a0 4)).toNatClampNeg (.int a2)) (q_r ((q_w (q_w τ1 (q_r (τ1.1 a0 0)) (q_i (τ1.1 a0 4)).toNatClampNeg (.int a1)) (q_r ((q_w τ1 (q_r (τ1.1 a0 0)) (q_i (τ1.1 a0 4)).toNatClampNeg (.int a1)).1 a0 1)) (q_i ((q_w τ1 (q_r (τ1.1 a0 0)) (q_i (τ1.1 a0 4)).toNatClampNeg (.int a1)).1 a0 4)).toNatClampNeg (.int a2)).1 a0 2)) (q_i ((q_w (q_w τ1 (q_r (τ1.1 a0 0)) (q_i (τ1.1 a0 4)).toNatClampNeg (.int a1)) (q_r ((q_w τ1 (q_r (τ1.1 a0 0)) (q_i (τ1.1 a0 4)).toNatClampNeg (.int a1)).1 a0 1)) (q_i ((q_w τ1 (q_r (τ1.1 a0 0)) (q_i (τ1.1 a0 4)).toNatClampNeg (.int a1)).1 a0 4)).toNatClampNeg (.int a2)).1 a0 4)).toNatClampNeg (.int a3)).1 a0 4)).toInt ∧ (q_i ((q_w (q_w (q_w τ1 (q_r (τ1.1 a0 0)) (q_i (τ1.1 a0 4)).toNatClampNeg (.int a1)) (q_r ((q_w τ1 (q_r (τ1.1 a0 0)) (q_i (τ1.1 a0 4)).toNatClampNeg (.int a1)).1 a0 1)) (q_i ((q_w τ1 (q_r (τ1.1 a0 0)) (q_i (τ1.1 a0 4)).toNatClampNeg (.int a1)).1 a0 4)).toNatClampNeg (.int a2)) (q_r ((q_w (q_w τ1 (q_r (τ1.1 a0 0)) (q_i (τ1.1 a0 4)).toNatClampNeg (.int a1)) (q_r ((q_w τ1 (q_r (τ1.1 a0 0)) (q_i (τ1.1 a0 4)).toNatClampNeg (.int a1)).1 a0 1)) (q_i ((q_w τ1 (q_r (τ1.1 a0 0)) (q_i (τ1.1 a0 4)).toNatClampNeg (.int a1)).1 a0 4)).toNatClampNeg (.int a2)).1 a0 2)) (q_i ((q_w (q_w τ1 (q_r (τ1.1 a0 0)) (q_i (τ1.1 a0 4)).toNatClampNeg (.int a1)) (q_r ((q_w τ1 (q_r (τ1.1 a0 0)) (q_i (τ1.1 a0 4)).toNatClampNeg (.int a1)).1 a0 1)) (q_i ((q_w τ1 (q_r (τ1.1 a0 0)) (q_i (τ1.1 a0 4)).toNatClampNeg (.int a1)).1 a0 4)).toNatClampNeg (.int a2)).1 a0 4)).toNatClampNeg (.int a3)).1 a0 4)).toInt < ((q_w (q_w (q_w τ1 (q_r (τ1.1 a0 0)) (q_i (τ1.1 a0 4)).toNatClampNeg (.int a1)) (q_r ((q_w τ1 (q_r (τ1.1 a0 0)) (q_i (τ1.1 a0 4)).toNatClampNeg (.int a1)).1 a0 1)) (q_i ((q_w τ1 (q_r (τ1.1 a0 0)) (q_i (τ1.1 a0 4)).toNatClampNeg (.int a1)).1 a0 4)).toNatClampNeg (.int a2)) (q_r ((q_w (q_w τ1 (q_r (τ1.1 a0 0)) (q_i (τ1.1 a0 4)).toNatClampNeg (.int a1)) (q_r ((q_w τ1 (q_r (τ1.1 a0 0)) (q_i (τ1.1 a0 4)).toNatClampNeg (.int a1)).1 a0 1)) (q_i ((q_w τ1 (q_r (τ1.1 a0 0)) (q_i (τ1.1 a0 4)).toNatClampNeg (.int a1)).1 a0 4)).toNatClampNeg (.int a2)).1 a0 2)) (q_i ((q_w (q_w τ1 (q_r (τ1.1 a0 0)) (q_i (τ1.1 a0 4)).toNatClampNeg (.int a1)) (q_r ((q_w τ1 (q_r (τ1.1 a0 0)) (q_i (τ1.1 a0 4)).toNatClampNeg (.int a1)).1 a0 1)) (q_i ((q_w τ1 (q_r (τ1.1 a0 0)) (q_i (τ1.1 a0 4)).toNatClampNeg (.int a1)).1 a0 4)).toNatClampNeg (.int a2)).1 a0 4)).toNatClampNeg (.int a3)).2.1 (q_r ((q_w (q_w (q_w τ1 (q_r (τ1.1 a0 0)) (q_i (τ1.1 a0 4)).toNatClampNeg (.int a1)) (q_r ((q_w τ1 (q_r (τ1.1 a0 0)) (q_i (τ1.1 a0 4)).toNatClampNeg (.int a1)).1 a0 1)) (q_i ((q_w τ1 (q_r (τ1.1 a0 0)) (q_i (τ1.1 a0 4)).toNatClampNeg (.int a1)).1 a0 4)).toNatClampNeg (.int a2)) (q_r ((q_w (q_w τ1 (q_r (τ1.1 a0 0)) (q_i (τ1.1 a0 4)).toNatClampNeg (.int a1)) (q_r ((q_w τ1 (q_r (τ1.1 a0 0)) (q_i (τ1.1 a0 4)).toNatClampNeg (.int a1)).1 a0 1)) (q_i ((q_w τ1 (q_r (τ1.1 a0 0)) (q_i (τ1.1 a0 4)).toNatClampNeg (.int a1)).1 a0 4)).toNatClampNeg (.int a2)).1 a0 2)) (q_i ((q_w (q_w τ1 (q_r (τ1.1 a0 0)) (q_i (τ1.1 a0 4)).toNatClampNeg (.int a1)) (q_r ((q_w τ1 (q_r (τ1.1 a0 0)) (q_i (τ1.1 a0 4)).toNatClampNeg (.int a1)).1 a0 1)) (q_i ((q_w τ1 (q_r (τ1.1 a0 0)) (q_i (τ1.1 a0 4)).toNatClampNeg (.int a1)).1 a0 4)).toNatClampNeg (.int a2)).1 a0 4)).toNatClampNeg (.int a3)).1 a0 3)) : Int)) :
    p_12 (a0) (a1) (a2) (a3) σ ((q_i ((q_w (q_w (q_w (q_w (q_w τ1 (q_r (τ1.1 a0 0)) (q_i (τ1.1 a0 4)).toNatClampNeg (.int a1)) (q_r ((q_w τ1 (q_r (τ1.1 a0 0)) (q_i (τ1.1 a0 4)).toNatClampNeg (.int a1)).1 a0 1)) (q_i ((q_w τ1 (q_r (τ1.1 a0 0)) (q_i (τ1.1 a0 4)).toNatClampNeg (.int a1)).1 a0 4)).toNatClampNeg (.int a2)) (q_r ((q_w (q_w τ1 (q_r (τ1.1 a0 0)) (q_i (τ1.1 a0 4)).toNatClampNeg (.int a1)) (q_r ((q_w τ1 (q_r (τ1.1 a0 0)) (q_i (τ1.1 a0 4)).toNatClampNeg (.int a1)).1 a0 1)) (q_i ((q_w τ1 (q_r (τ1.1 a0 0)) (q_i (τ1.1 a0 4)).toNatClampNeg (.int a1)).1 a0 4)).toNatClampNeg (.int a2)).1 a0 2)) (q_i ((q_w (q_w τ1 (q_r (τ1.1 a0 0)) (q_i (τ1.1 a0 4)).toNatClampNeg (.int a1)) (q_r ((q_w τ1 (q_r (τ1.1 a0 0)) (q_i (τ1.1 a0 4)).toNatClampNeg (.int a1)).1 a0 1)) (q_i ((q_w τ1 (q_r (τ1.1 a0 0)) (q_i (τ1.1 a0 4)).toNatClampNeg (.int a1)).1 a0 4)).toNatClampNeg (.int a2)).1 a0 4)).toNatClampNeg (.int a3)) (q_r ((q_w (q_w (q_w τ1 (q_r (τ1.1 a0 0)) (q_i (τ1.1 a0 4)).toNatClampNeg (.int a1)) (q_r ((q_w τ1 (q_r (τ1.1 a0 0)) (q_i (τ1.1 a0 4)).toNatClampNeg (.int a1)).1 a0 1)) (q_i ((q_w τ1 (q_r (τ1.1 a0 0)) (q_i (τ1.1 a0 4)).toNatClampNeg (.int a1)).1 a0 4)).toNatClampNeg (.int a2)) (q_r ((q_w (q_w τ1 (q_r (τ1.1 a0 0)) (q_i (τ1.1 a0 4)).toNatClampNeg (.int a1)) (q_r ((q_w τ1 (q_r (τ1.1 a0 0)) (q_i (τ1.1 a0 4)).toNatClampNeg (.int a1)).1 a0 1)) (q_i ((q_w τ1 (q_r (τ1.1 a0 0)) (q_i (τ1.1 a0 4)).toNatClampNeg (.int a1)).1 a0 4)).toNatClampNeg (.int a2)).1 a0 2)) (q_i ((q_w (q_w τ1 (q_r (τ1.1 a0 0)) (q_i (τ1.1 a0 4)).toNatClampNeg (.int a1)) (q_r ((q_w τ1 (q_r (τ1.1 a0 0)) (q_i (τ1.1 a0 4)).toNatClampNeg (.int a1)).1 a0 1)) (q_i ((q_w τ1 (q_r (τ1.1 a0 0)) (q_i (τ1.1 a0 4)).toNatClampNeg (.int a1)).1 a0 4)).toNatClampNeg (.int a2)).1 a0 4)).toNatClampNeg (.int a3)).1 a0 3)) (q_i ((q_w (q_w (q_w τ1 (q_r (τ1.1 a0 0)) (q_i (τ1.1 a0 4)).toNatClampNeg (.int a1)) (q_r ((q_w τ1 (q_r (τ1.1 a0 0)) (q_i (τ1.1 a0 4)).toNatClampNeg (.int a1)).1 a0 1)) (q_i ((q_w τ1 (q_r (τ1.1 a0 0)) (q_i (τ1.1 a0 4)).toNatClampNeg (.int a1)).1 a0 4)).toNatClampNeg (.int a2)) (q_r ((q_w (q_w τ1 (q_r (τ1.1 a0 0)) (q_i (τ1.1 a0 4)).toNatClampNeg (.int a1)) (q_r ((q_w τ1 (q_r (τ1.1 a0 0)) (q_i (τ1.1 a0 4)).toNatClampNeg (.int a1)).1 a0 1)) (q_i ((q_w τ1 (q_r (τ1.1 a0 0)) (q_i (τ1.1 a0 4)).toNatClampNeg (.int a1)).1 a0 4)).toNatClampNeg (.int a2)).1 a0 2)) (q_i ((q_w (q_w τ1 (q_r (τ1.1 a0 0)) (q_i (τ1.1 a0 4)).toNatClampNeg (.int a1)) (q_r ((q_w τ1 (q_r (τ1.1 a0 0)) (q_i (τ1.1 a0 4)).toNatClampNeg (.int a1)).1 a0 1)) (q_i ((q_w τ1 (q_r (τ1.1 a0 0)) (q_i (τ1.1 a0 4)).toNatClampNeg (.int a1)).1 a0 4)).toNatClampNeg (.int a2)).1 a0 4)).toNatClampNeg (.int a3)).1 a0 4)).toNatClampNeg (.int (Int32.ofInt (0)))) a0 4 (.int ((q_i ((q_w (q_w (q_w (q_w τ1 (q_r (τ1.1 a0 0)) (q_i (τ1.1 a0 4)).toNatClampNeg (.int a1)) (q_r ((q_w τ1 (q_r (τ1.1 a0 0)) (q_i (τ1.1 a0 4)).toNatClampNeg (.int a1)).1 a0 1)) (q_i ((q_w τ1 (q_r (τ1.1 a0 0)) (q_i (τ1.1 a0 4)).toNatClampNeg (.int a1)).1 a0 4)).toNatClampNeg (.int a2)) (q_r ((q_w (q_w τ1 (q_r (τ1.1 a0 0)) (q_i (τ1.1 a0 4)).toNatClampNeg (.int a1)) (q_r ((q_w τ1 (q_r (τ1.1 a0 0)) (q_i (τ1.1 a0 4)).toNatClampNeg (.int a1)).1 a0 1)) (q_i ((q_w τ1 (q_r (τ1.1 a0 0)) (q_i (τ1.1 a0 4)).toNatClampNeg (.int a1)).1 a0 4)).toNatClampNeg (.int a2)).1 a0 2)) (q_i ((q_w (q_w τ1 (q_r (τ1.1 a0 0)) (q_i (τ1.1 a0 4)).toNatClampNeg (.int a1)) (q_r ((q_w τ1 (q_r (τ1.1 a0 0)) (q_i (τ1.1 a0 4)).toNatClampNeg (.int a1)).1 a0 1)) (q_i ((q_w τ1 (q_r (τ1.1 a0 0)) (q_i (τ1.1 a0 4)).toNatClampNeg (.int a1)).1 a0 4)).toNatClampNeg (.int a2)).1 a0 4)).toNatClampNeg (.int a3)) (q_r ((q_w (q_w (q_w τ1 (q_r (τ1.1 a0 0)) (q_i (τ1.1 a0 4)).toNatClampNeg (.int a1)) (q_r ((q_w τ1 (q_r (τ1.1 a0 0)) (q_i (τ1.1 a0 4)).toNatClampNeg (.int a1)).1 a0 1)) (q_i ((q_w τ1 (q_r (τ1.1 a0 0)) (q_i (τ1.1 a0 4)).toNatClampNeg (.int a1)).1 a0 4)).toNatClampNeg (.int a2)) (q_r ((q_w (q_w τ1 (q_r (τ1.1 a0 0)) (q_i (τ1.1 a0 4)).toNatClampNeg (.int a1)) (q_r ((q_w τ1 (q_r (τ1.1 a0 0)) (q_i (τ1.1 a0 4)).toNatClampNeg (.int a1)).1 a0 1)) (q_i ((q_w τ1 (q_r (τ1.1 a0 0)) (q_i (τ1.1 a0 4)).toNatClampNeg (.int a1)).1 a0 4)).toNatClampNeg (.int a2)).1 a0 2)) (q_i ((q_w (q_w τ1 (q_r (τ1.1 a0 0)) (q_i (τ1.1 a0 4)).toNatClampNeg (.int a1)) (q_r ((q_w τ1 (q_r (τ1.1 a0 0)) (q_i (τ1.1 a0 4)).toNatClampNeg (.int a1)).1 a0 1)) (q_i ((q_w τ1 (q_r (τ1.1 a0 0)) (q_i (τ1.1 a0 4)).toNatClampNeg (.int a1)).1 a0 4)).toNatClampNeg (.int a2)).1 a0 4)).toNatClampNeg (.int a3)).1 a0 3)) (q_i ((q_w (q_w (q_w τ1 (q_r (τ1.1 a0 0)) (q_i (τ1.1 a0 4)).toNatClampNeg (.int a1)) (q_r ((q_w τ1 (q_r (τ1.1 a0 0)) (q_i (τ1.1 a0 4)).toNatClampNeg (.int a1)).1 a0 1)) (q_i ((q_w τ1 (q_r (τ1.1 a0 0)) (q_i (τ1.1 a0 4)).toNatClampNeg (.int a1)).1 a0 4)).toNatClampNeg (.int a2)) (q_r ((q_w (q_w τ1 (q_r (τ1.1 a0 0)) (q_i (τ1.1 a0 4)).toNatClampNeg (.int a1)) (q_r ((q_w τ1 (q_r (τ1.1 a0 0)) (q_i (τ1.1 a0 4)).toNatClampNeg (.int a1)).1 a0 1)) (q_i ((q_w τ1 (q_r (τ1.1 a0 0)) (q_i (τ1.1 a0 4)).toNatClampNeg (.int a1)).1 a0 4)).toNatClampNeg (.int a2)).1 a0 2)) (q_i ((q_w (q_w τ1 (q_r (τ1.1 a0 0)) (q_i (τ1.1 a0 4)).toNatClampNeg (.int a1)) (q_r ((q_w τ1 (q_r (τ1.1 a0 0)) (q_i (τ1.1 a0 4)).toNatClampNeg (.int a1)).1 a0 1)) (q_i ((q_w τ1 (q_r (τ1.1 a0 0)) (q_i (τ1.1 a0 4)).toNatClampNeg (.int a1)).1 a0 4)).toNatClampNeg (.int a2)).1 a0 4)).toNatClampNeg (.int a3)).1 a0 4)).toNatClampNeg (.int (Int32.ofInt (0)))).1 a0 4)) + (Int32.ofInt (1))))).1 a0 4)) - (Int32.ofInt (1))) (q_w (q_w (q_w (q_w (q_w τ1 (q_r (τ1.1 a0 0)) (q_i (τ1.1 a0 4)).toNatClampNeg (.int a1)) (q_r ((q_w τ1 (q_r (τ1.1 a0 0)) (q_i (τ1.1 a0 4)).toNatClampNeg (.int a1)).1 a0 1)) (q_i ((q_w τ1 (q_r (τ1.1 a0 0)) (q_i (τ1.1 a0 4)).toNatClampNeg (.int a1)).1 a0 4)).toNatClampNeg (.int a2)) (q_r ((q_w (q_w τ1 (q_r (τ1.1 a0 0)) (q_i (τ1.1 a0 4)).toNatClampNeg (.int a1)) (q_r ((q_w τ1 (q_r (τ1.1 a0 0)) (q_i (τ1.1 a0 4)).toNatClampNeg (.int a1)).1 a0 1)) (q_i ((q_w τ1 (q_r (τ1.1 a0 0)) (q_i (τ1.1 a0 4)).toNatClampNeg (.int a1)).1 a0 4)).toNatClampNeg (.int a2)).1 a0 2)) (q_i ((q_w (q_w τ1 (q_r (τ1.1 a0 0)) (q_i (τ1.1 a0 4)).toNatClampNeg (.int a1)) (q_r ((q_w τ1 (q_r (τ1.1 a0 0)) (q_i (τ1.1 a0 4)).toNatClampNeg (.int a1)).1 a0 1)) (q_i ((q_w τ1 (q_r (τ1.1 a0 0)) (q_i (τ1.1 a0 4)).toNatClampNeg (.int a1)).1 a0 4)).toNatClampNeg (.int a2)).1 a0 4)).toNatClampNeg (.int a3)) (q_r ((q_w (q_w (q_w τ1 (q_r (τ1.1 a0 0)) (q_i (τ1.1 a0 4)).toNatClampNeg (.int a1)) (q_r ((q_w τ1 (q_r (τ1.1 a0 0)) (q_i (τ1.1 a0 4)).toNatClampNeg (.int a1)).1 a0 1)) (q_i ((q_w τ1 (q_r (τ1.1 a0 0)) (q_i (τ1.1 a0 4)).toNatClampNeg (.int a1)).1 a0 4)).toNatClampNeg (.int a2)) (q_r ((q_w (q_w τ1 (q_r (τ1.1 a0 0)) (q_i (τ1.1 a0 4)).toNatClampNeg (.int a1)) (q_r ((q_w τ1 (q_r (τ1.1 a0 0)) (q_i (τ1.1 a0 4)).toNatClampNeg (.int a1)).1 a0 1)) (q_i ((q_w τ1 (q_r (τ1.1 a0 0)) (q_i (τ1.1 a0 4)).toNatClampNeg (.int a1)).1 a0 4)).toNatClampNeg (.int a2)).1 a0 2)) (q_i ((q_w (q_w τ1 (q_r (τ1.1 a0 0)) (q_i (τ1.1 a0 4)).toNatClampNeg (.int a1)) (q_r ((q_w τ1 (q_r (τ1.1 a0 0)) (q_i (τ1.1 a0 4)).toNatClampNeg (.int a1)).1 a0 1)) (q_i ((q_w τ1 (q_r (τ1.1 a0 0)) (q_i (τ1.1 a0 4)).toNatClampNeg (.int a1)).1 a0 4)).toNatClampNeg (.int a2)).1 a0 4)).toNatClampNeg (.int a3)).1 a0 3)) (q_i ((q_w (q_w (q_w τ1 (q_r (τ1.1 a0 0)) (q_i (τ1.1 a0 4)).toNatClampNeg (.int a1)) (q_r ((q_w τ1 (q_r (τ1.1 a0 0)) (q_i (τ1.1 a0 4)).toNatClampNeg (.int a1)).1 a0 1)) (q_i ((q_w τ1 (q_r (τ1.1 a0 0)) (q_i (τ1.1 a0 4)).toNatClampNeg (.int a1)).1 a0 4)).toNatClampNeg (.int a2)) (q_r ((q_w (q_w τ1 (q_r (τ1.1 a0 0)) (q_i (τ1.1 a0 4)).toNatClampNeg (.int a1)) (q_r ((q_w τ1 (q_r (τ1.1 a0 0)) (q_i (τ1.1 a0 4)).toNatClampNeg (.int a1)).1 a0 1)) (q_i ((q_w τ1 (q_r (τ1.1 a0 0)) (q_i (τ1.1 a0 4)).toNatClampNeg (.int a1)).1 a0 4)).toNatClampNeg (.int a2)).1 a0 2)) (q_i ((q_w (q_w τ1 (q_r (τ1.1 a0 0)) (q_i (τ1.1 a0 4)).toNatClampNeg (.int a1)) (q_r ((q_w τ1 (q_r (τ1.1 a0 0)) (q_i (τ1.1 a0 4)).toNatClampNeg (.int a1)).1 a0 1)) (q_i ((q_w τ1 (q_r (τ1.1 a0 0)) (q_i (τ1.1 a0 4)).toNatClampNeg (.int a1)).1 a0 4)).toNatClampNeg (.int a2)).1 a0 4)).toNatClampNeg (.int a3)).1 a0 4)).toNatClampNeg (.int (Int32.ofInt (0)))) a0 4 (.int ((q_i ((q_w (q_w (q_w (q_w τ1 (q_r (τ1.1 a0 0)) (q_i (τ1.1 a0 4)).toNatClampNeg (.int a1)) (q_r ((q_w τ1 (q_r (τ1.1 a0 0)) (q_i (τ1.1 a0 4)).toNatClampNeg (.int a1)).1 a0 1)) (q_i ((q_w τ1 (q_r (τ1.1 a0 0)) (q_i (τ1.1 a0 4)).toNatClampNeg (.int a1)).1 a0 4)).toNatClampNeg (.int a2)) (q_r ((q_w (q_w τ1 (q_r (τ1.1 a0 0)) (q_i (τ1.1 a0 4)).toNatClampNeg (.int a1)) (q_r ((q_w τ1 (q_r (τ1.1 a0 0)) (q_i (τ1.1 a0 4)).toNatClampNeg (.int a1)).1 a0 1)) (q_i ((q_w τ1 (q_r (τ1.1 a0 0)) (q_i (τ1.1 a0 4)).toNatClampNeg (.int a1)).1 a0 4)).toNatClampNeg (.int a2)).1 a0 2)) (q_i ((q_w (q_w τ1 (q_r (τ1.1 a0 0)) (q_i (τ1.1 a0 4)).toNatClampNeg (.int a1)) (q_r ((q_w τ1 (q_r (τ1.1 a0 0)) (q_i (τ1.1 a0 4)).toNatClampNeg (.int a1)).1 a0 1)) (q_i ((q_w τ1 (q_r (τ1.1 a0 0)) (q_i (τ1.1 a0 4)).toNatClampNeg (.int a1)).1 a0 4)).toNatClampNeg (.int a2)).1 a0 4)).toNatClampNeg (.int a3)) (q_r ((q_w (q_w (q_w τ1 (q_r (τ1.1 a0 0)) (q_i (τ1.1 a0 4)).toNatClampNeg (.int a1)) (q_r ((q_w τ1 (q_r (τ1.1 a0 0)) (q_i (τ1.1 a0 4)).toNatClampNeg (.int a1)).1 a0 1)) (q_i ((q_w τ1 (q_r (τ1.1 a0 0)) (q_i (τ1.1 a0 4)).toNatClampNeg (.int a1)).1 a0 4)).toNatClampNeg (.int a2)) (q_r ((q_w (q_w τ1 (q_r (τ1.1 a0 0)) (q_i (τ1.1 a0 4)).toNatClampNeg (.int a1)) (q_r ((q_w τ1 (q_r (τ1.1 a0 0)) (q_i (τ1.1 a0 4)).toNatClampNeg (.int a1)).1 a0 1)) (q_i ((q_w τ1 (q_r (τ1.1 a0 0)) (q_i (τ1.1 a0 4)).toNatClampNeg (.int a1)).1 a0 4)).toNatClampNeg (.int a2)).1 a0 2)) (q_i ((q_w (q_w τ1 (q_r (τ1.1 a0 0)) (q_i (τ1.1 a0 4)).toNatClampNeg (.int a1)) (q_r ((q_w τ1 (q_r (τ1.1 a0 0)) (q_i (τ1.1 a0 4)).toNatClampNeg (.int a1)).1 a0 1)) (q_i ((q_w τ1 (q_r (τ1.1 a0 0)) (q_i (τ1.1 a0 4)).toNatClampNeg (.int a1)).1 a0 4)).toNatClampNeg (.int a2)).1 a0 4)).toNatClampNeg (.int a3)).1 a0 3)) (q_i ((q_w (q_w (q_w τ1 (q_r (τ1.1 a0 0)) (q_i (τ1.1 a0 4)).toNatClampNeg (.int a1)) (q_r ((q_w τ1 (q_r (τ1.1 a0 0)) (q_i (τ1.1 a0 4)).toNatClampNeg (.int a1)).1 a0 1)) (q_i ((q_w τ1 (q_r (τ1.1 a0 0)) (q_i (τ1.1 a0 4)).toNatClampNeg (.int a1)).1 a0 4)).toNatClampNeg (.int a2)) (q_r ((q_w (q_w τ1 (q_r (τ1.1 a0 0)) (q_i (τ1.1 a0 4)).toNatClampNeg (.int a1)) (q_r ((q_w τ1 (q_r (τ1.1 a0 0)) (q_i (τ1.1 a0 4)).toNatClampNeg (.int a1)).1 a0 1)) (q_i ((q_w τ1 (q_r (τ1.1 a0 0)) (q_i (τ1.1 a0 4)).toNatClampNeg (.int a1)).1 a0 4)).toNatClampNeg (.int a2)).1 a0 2)) (q_i ((q_w (q_w τ1 (q_r (τ1.1 a0 0)) (q_i (τ1.1 a0 4)).toNatClampNeg (.int a1)) (q_r ((q_w τ1 (q_r (τ1.1 a0 0)) (q_i (τ1.1 a0 4)).toNatClampNeg (.int a1)).1 a0 1)) (q_i ((q_w τ1 (q_r (τ1.1 a0 0)) (q_i (τ1.1 a0 4)).toNatClampNeg (.int a1)).1 a0 4)).toNatClampNeg (.int a2)).1 a0 4)).toNatClampNeg (.int a3)).1 a0 4)).toNatClampNeg (.int (Int32.ofInt (0)))).1 a0 4)) + (Int32.ofInt (1))))) := by
  rintro b H nf rfl K h0 hn
  obtain ⟨rfl, e1⟩ := g1
  have p0 : q_i (τ1.1 (b + 2) 4) = Int32.ofNat nf := (K.p hp_0).trans h0
  rw [p0, o32 (by omega)] at e1
  have h6 : nf < 6 := by have := e1.mp h2; omega
  have w0 : hPr b (40 + 4 * nf) (b + 3) nf := hp_f0 h6
  have w1 : hPr b (41 + 4 * nf) (b + 4) nf := hp_f1 h6
  have w2 : hPr b (42 + 4 * nf) (b + 5) nf := hp_f2 h6
  have w3 : hPr b (43 + 4 * nf) (b + 6) nf := hp_f3 h6
  have w4 : hPr b 0 (b + 2) 4 := hp_0
  have K0 := K.ww (v := a1) w0
  have K1 := K0.ww (v := a2) w1
  have K2 := K1.ww (v := a3) w2
  have K3 := K2.ww (v := Int32.ofInt 0) w3
  have n0 : (Int32.ofNat nf).toNatClampNeg = nf := o32n (by omega)
  have d0 : q_r (τ1.1 (b + 2) 0) = b + 3 := K.k hk_f0
  have d1 := K0.k hk_f1
  have d2 := K1.k hk_f2
  have d3 := K2.k hk_f3
  have c0 : aU H (40 + 4 * nf) a1 0 = Int32.ofNat nf := (aU_ne (by omega)).trans h0
  have c1 : aU (aU H (40 + 4 * nf) a1) (41 + 4 * nf) a2 0 = Int32.ofNat nf := (aU_ne (by omega)).trans c0
  have c2 : aU (aU (aU H (40 + 4 * nf) a1) (41 + 4 * nf) a2) (42 + 4 * nf) a3 0 = Int32.ofNat nf := (aU_ne (by omega)).trans c1
  have c3 : aU (aU (aU (aU H (40 + 4 * nf) a1) (41 + 4 * nf) a2) (42 + 4 * nf) a3) (43 + 4 * nf) (Int32.ofInt 0) 0 = Int32.ofNat nf := (aU_ne (by omega)).trans c2
  have p1 := (K0.p w4).trans c0
  have p2 := (K1.p w4).trans c1
  have p3 := (K2.p w4).trans c2
  have p4 := (K3.p w4).trans c3
  have K4 := K3.ww (v := Int32.ofNat (nf + 1)) w4
  have p5 := (K4.p w4).trans aU_at
  have i1 : Int32.ofNat nf + Int32.ofInt 1 = Int32.ofNat (nf + 1) := o32i (by omega)
  simp only [d0, d1, d2, d3, p0, p1, p2, p3, p4, n0, i1, p5]
  refine ⟨((((hHF.w w0).tr (hHF.w w1)).tr (hHF.w w2)).tr (hHF.w w3)).tr (hHF.w w4), fun h => by omega, fun _ => ⟨?_, K4⟩⟩
  refine Int32.toInt_inj.mp ?_
  rw [zI_sub (o32 (by omega)) (zI_c (by omega) (by omega)) (by omega) (by omega), o32 (by omega)]
  omega
theorem sp_12_ef (a0 : Nat) (a1 : Int32) (a2 : Int32) (a3 : Int32) (σ : zSg) (τ1 : zSg) (r1 : Int32) (g1 : p_10 a0 σ r1 τ1) (h2 : r1.toInt = (0 : Int)) :
    p_12 (a0) (a1) (a2) (a3) σ (Int32.ofInt (-1)) τ1 := by
  rintro b H nf rfl K h0 hn
  obtain ⟨rfl, e1⟩ := g1
  have p0 : q_i (τ1.1 (b + 2) 4) = Int32.ofNat nf := (K.p hp_0).trans h0
  rw [p0, o32 (by omega)] at e1
  refine ⟨hHF.rf, fun _ => rfl, fun h => ?_⟩
  exact absurd h2 (e1.mpr (by omega))
noncomputable def qP_12 : zPp := fun as σ o σ' => match as with
  | [a0, a1, a2, a3] => ∃ r, o = .inl (some (.int r)) ∧ p_12 (q_r a0) (q_i a1) (q_i a2) (q_i a3) σ r σ'
  | _ => True
set_option maxRecDepth 100000 in
theorem sp_12 {sx : zX} (S10 : zEe sx 10 1 qP_10) : zEe sx 12 4 qP_12 := by
  refine zfle zJ_12 (sps := [(10, 1, qP_10)]) (fun q hq => by
    simp only [List.mem_cons, List.not_mem_nil, or_false] at hq
    rcases hq with rfl
    · exact S10) (fun as σ hl => ?_)
  match as, hl with
  | [a0, a1, a2, a3], _ =>
  refine ⟨[], 400, ?_, ?_⟩
  · exact fun q hq => absurd hq List.not_mem_nil
  · refine fun o1 τ1 g1 => ?_
    obtain ⟨r1, rfl, g1⟩ := g1
    refine And.intro (fun h2 => ?_) (fun h2 => ?_)
    · refine fun h3 => ?_
      refine fun h4 => ?_
      refine fun h5 => ?_
      refine fun h6 => ?_
      exact ⟨_, rfl, sp_12_et (q_r a0) (q_i a1) (q_i a2) (q_i a3) σ τ1 r1 g1 (cm1t h2) (q_inp h3) (q_inp h4) (q_inp h5) (q_inp h6)⟩
    · exact ⟨_, rfl, sp_12_ef (q_r a0) (q_i a1) (q_i a2) (q_i a3) σ τ1 r1 g1 (cm1f h2)⟩
theorem zJ_13 : zJ3 13 z_m13 z_c13 z_h13 := ⟨rfl, rfl, rfl⟩
noncomputable def p_13 (a : Nat) (f q : Int32) (σ σ' : zSg) : Prop := ∀ b H nf, a = b + 2 → hH σ b H → H 0 = Int32.ofNat nf → nf ≤ 6 → hHF b σ σ' ∧ (∀ F, f = Int32.ofNat F → F < nf → hH σ' b (aU H (43 + 4 * F) (H (43 + 4 * F) ||| q))) ∧ ∃ H', hH σ' b H' ∧ ∀ k, ¬ (40 ≤ k ∧ k < 64) → H' k = H k
theorem sp_13_et (a0 : Nat) (a1 : Int32) (a2 : Int32) (σ : zSg) (τ1 : zSg) (r1 : Int32) (g1 : p_9 a0 a1 σ r1 τ1) (h2 : r1.toInt = (0 : Int)) :
    p_13 (a0) (a1) (a2) σ τ1 := by
  rintro b H nf rfl K h0 hn
  obtain ⟨rfl, e1⟩ := g1
  have p0 : q_i (τ1.1 (b + 2) 4) = Int32.ofNat nf := (K.p hp_0).trans h0
  rw [p0, o32 (by omega)] at e1
  refine ⟨hHF.rf, fun F hF hl => ?_, H, K, fun _ _ => rfl⟩
  refine absurd h2 (e1.mpr ?_)
  rw [hF, o32 (by omega)]
  omega
theorem sp_13_ef (a0 : Nat) (a1 : Int32) (a2 : Int32) (σ : zSg) (τ1 : zSg) (r1 : Int32) (g1 : p_9 a0 a1 σ r1 τ1) (h2 : r1.toInt ≠ (0 : Int)) (h3 : 0 ≤ a1.toInt ∧ a1.toInt < (τ1.2.1 (q_r (τ1.1 a0 3)) : Int)) (h4 : 0 ≤ a1.toInt ∧ a1.toInt < (τ1.2.1 (q_r (τ1.1 a0 3)) : Int)) :
    p_13 (a0) (a1) (a2) σ (q_w τ1 (q_r (τ1.1 a0 3)) a1.toNatClampNeg (.int ((q_i (τ1.1 (q_r (τ1.1 a0 3)) a1.toNatClampNeg)) ||| a2))) := by
  rintro b H nf rfl K h0 hn
  obtain ⟨rfl, e1⟩ := g1
  have p0 : q_i (τ1.1 (b + 2) 4) = Int32.ofNat nf := (K.p hp_0).trans h0
  rw [p0, o32 (by omega)] at e1
  have hf := e1.mp h2
  obtain ⟨F, hF⟩ : ∃ F : Nat, a1.toInt = (F : Int) := ⟨a1.toInt.toNat, by omega⟩
  have eF : a1 = Int32.ofNat F := Int32.toInt_inj.mp (by rw [hF, o32 (by omega)])
  subst eF
  have nF : (Int32.ofNat F).toNatClampNeg = F := o32n (by omega)
  have w3 : hPr b (43 + 4 * F) (b + 6) F := hp_f3 (by omega)
  have d3 := K.k hk_f3
  have p3 := K.p w3
  simp only [d3, nF, p3]
  have K1 := K.ww (v := H (43 + 4 * F) ||| a2) w3
  refine ⟨hHF.w w3, fun G hG hl => ?_, _, K1, fun k hk => aU_ne (by omega)⟩
  have : F = G := by
    have h9 := congrArg Int32.toInt hG
    rw [o32 (by omega), o32 (by omega)] at h9
    omega
  subst this
  exact K1
noncomputable def qP_13 : zPp := fun as σ o σ' => match as with
  | [a0, a1, a2] => o = .inl none ∧ p_13 (q_r a0) (q_i a1) (q_i a2) σ σ'
  | _ => True
set_option maxRecDepth 100000 in
theorem sp_13 {sx : zX} (S9 : zEe sx 9 2 qP_9) : zEe sx 13 3 qP_13 := by
  refine zfle zJ_13 (sps := [(9, 2, qP_9)]) (fun q hq => by
    simp only [List.mem_cons, List.not_mem_nil, or_false] at hq
    rcases hq with rfl
    · exact S9) (fun as σ hl => ?_)
  match as, hl with
  | [a0, a1, a2], _ =>
  refine ⟨[], 400, ?_, ?_⟩
  · exact fun q hq => absurd hq List.not_mem_nil
  · refine fun o1 τ1 g1 => ?_
    obtain ⟨r1, rfl, g1⟩ := g1
    refine And.intro (fun h2 => ?_) (fun h2 => ?_)
    · exact ⟨rfl, sp_13_et (q_r a0) (q_i a1) (q_i a2) σ τ1 r1 g1 (cm0t h2)⟩
    · refine fun h3 => ?_
      refine fun h4 => ?_
      exact ⟨rfl, sp_13_ef (q_r a0) (q_i a1) (q_i a2) σ τ1 r1 g1 (cm0f h2) (q_inp h3) (q_inp h4)⟩
theorem zJ_29 : zJ3 29 z_m29 z_c29 z_h29 := ⟨rfl, rfl, rfl⟩
noncomputable def p_29 (a : Nat) (q f : Int32) (σ σ' : zSg) : Prop := ∀ H, hH σ a H → hHF a σ σ' ∧ hH σ' a (dG H q f)
noncomputable def i_29 (a : Nat) (q f : Int32) (σ : zSg) (l0 : Nat) (l1 l2 l3 : Int32) (τ : zSg) : Prop := l0 = a ∧ l1 = q ∧ l2 = f ∧ ∀ H, hH σ a H → ∃ n, n ≤ 24 ∧ l3 = Int32.ofNat n ∧ hHF a σ τ ∧ hH τ a (gN H q f n)
theorem sp_29_e (a0 : Nat) (a1 : Int32) (a2 : Int32) (σ : zSg)  :
    i_29 a0 a1 a2 σ a0 a1 a2 (Int32.ofInt (0)) σ := by
  exact ⟨rfl, rfl, rfl, fun H K => ⟨0, by omega, rfl, hHF.rf, K.cg (fun k _ => gN_0 k)⟩⟩
theorem sp_29_c2_t (a0 : Nat) (a1 : Int32) (a2 : Int32) (σ : zSg) (l0 : Nat) (l1 : Int32) (l2 : Int32) (l3 : Int32) (τ : zSg) (hI : i_29 a0 a1 a2 σ l0 l1 l2 l3 τ) (h1 : l3.toInt ≥ (24 : Int)) :
    p_29 (a0) (a1) (a2) σ τ := by
  obtain ⟨rfl, rfl, rfl, hI⟩ := hI
  intro H K
  obtain ⟨n, hn, rfl, f1, K1⟩ := hI H K
  rw [o32 (by omega)] at h1
  have : n = 24 := by omega
  subst this
  exact ⟨f1, K1.cg (fun k _ => gN_24 k)⟩
theorem sp_29_c2_ft (a0 : Nat) (a1 : Int32) (a2 : Int32) (σ : zSg) (l0 : Nat) (l1 : Int32) (l2 : Int32) (l3 : Int32) (τ : zSg) (hI : i_29 a0 a1 a2 σ l0 l1 l2 l3 τ) (h1 : l3.toInt < (24 : Int)) (h2 : ((l1 >>> (l3 &&& 31)) &&& (Int32.ofInt (1))).toInt ≠ (1 : Int)) :
    i_29 a0 a1 a2 σ l0 l1 l2 (l3 + Int32.ofInt (1)) τ := by
  obtain ⟨rfl, rfl, rfl, hI⟩ := hI
  refine ⟨rfl, rfl, rfl, fun H K => ?_⟩
  obtain ⟨n, hn, rfl, f1, K1⟩ := hI H K
  rw [o32 (by omega)] at h1
  refine ⟨n + 1, by omega, o32i (by omega), f1, K1.cg (fun k hk => ?_)⟩
  have h9 : ¬ btb l1 (Int32.ofNat n) = true := fun h => h2 (of_decide_eq_true h)
  rw [← gN_s (v := gN H l1 l2 n (16 + n)) (by omega) (by rw [if_neg h9]; unfold gN; rw [if_neg (by omega)]) k]
  by_cases h : k = 16 + n
  · rw [h, aU_at]
  · rw [aU_ne h]
theorem sp_29_c2_ff (a0 : Nat) (a1 : Int32) (a2 : Int32) (σ : zSg) (l0 : Nat) (l1 : Int32) (l2 : Int32) (l3 : Int32) (τ : zSg) (hI : i_29 a0 a1 a2 σ l0 l1 l2 l3 τ) (h1 : l3.toInt < (24 : Int)) (h2 : ((l1 >>> (l3 &&& 31)) &&& (Int32.ofInt (1))).toInt = (1 : Int)) (h3 : 0 ≤ l3.toInt ∧ l3.toInt < (τ.2.1 (q_r (τ.1 l0 0)) : Int)) :
    i_29 a0 a1 a2 σ l0 l1 l2 (l3 + Int32.ofInt (1)) (q_w τ (q_r (τ.1 l0 0)) l3.toNatClampNeg (.int l2)) := by
  obtain ⟨rfl, rfl, rfl, hI⟩ := hI
  refine ⟨rfl, rfl, rfl, fun H K => ?_⟩
  obtain ⟨n, hn, rfl, f1, K1⟩ := hI H K
  rw [o32 (by omega)] at h1
  have h9 : btb l1 (Int32.ofNat n) = true := decide_eq_true h2
  have nn : (Int32.ofNat n).toNatClampNeg = n := o32n (by omega)
  have w0 : hPr l0 (16 + n) (l0 + 1) n := hp_h (by omega)
  have d0 := K1.k hk_0
  simp only [d0, nn]
  exact ⟨n + 1, by omega, o32i (by omega), f1.tr (hHF.w w0), (K1.ww w0).cg (fun k _ => gN_s (by omega) (by rw [if_pos h9]) k)⟩
noncomputable def qP_29 : zPp := fun as σ o σ' => match as with
  | [a0, a1, a2] => o = .inl none ∧ p_29 (q_r a0) (q_i a1) (q_i a2) σ σ'
  | _ => True
set_option maxRecDepth 100000 in
theorem sp_29 {sx : zX}  : zEe sx 29 3 qP_29 := by
  refine zfle zJ_29 (sps := []) (fun q hq => absurd hq List.not_mem_nil) (fun as σ hl => ?_)
  match as, hl with
  | [a0, a1, a2], _ =>
  refine ⟨[(2, fun lo st τ => st = [] ∧ i_29 (q_r a0) (q_i a1) (q_i a2) σ (q_r (lo 0)) (q_i (lo 1)) (q_i (lo 2)) (q_i (lo 3)) τ)], 400, ?_, ?_⟩
  · intro q hq
    simp only [List.mem_cons, List.not_mem_nil, or_false] at hq
    rcases hq with rfl
    · rintro lo st τ ⟨rfl, hI⟩
      refine ⟨400, ?_⟩
      refine And.intro (fun h1 => ?_) (fun h1 => ?_)
      · exact ⟨rfl, sp_29_c2_t (q_r a0) (q_i a1) (q_i a2) σ (q_r (lo 0)) (q_i (lo 1)) (q_i (lo 2)) (q_i (lo 3)) τ hI (cm3t h1)⟩
      · refine And.intro (fun h2 => ?_) (fun h2 => ?_)
        · exact ⟨rfl, sp_29_c2_ft (q_r a0) (q_i a1) (q_i a2) σ (q_r (lo 0)) (q_i (lo 1)) (q_i (lo 2)) (q_i (lo 3)) τ hI (cm3f h1) (cm1t h2)⟩
        · refine fun h3 => ?_
          exact ⟨rfl, sp_29_c2_ff (q_r a0) (q_i a1) (q_i a2) σ (q_r (lo 0)) (q_i (lo 1)) (q_i (lo 2)) (q_i (lo 3)) τ hI (cm3f h1) (cm1f h2) (q_inp h3)⟩
  · exact ⟨rfl, sp_29_e (q_r a0) (q_i a1) (q_i a2) σ ⟩
noncomputable def dBr (H : Nat → Int32) (nt : Nat) (f v l : Int32) : Nat → Int32 := aU (aU (aU (aU H (64 + 3 * nt) f) (65 + 3 * nt) v) (66 + 3 * nt) l) 1 (Int32.ofNat (nt + 1))
theorem zJ_104 : zJ3 104 z_m104 z_c104 z_h104 := ⟨rfl, rfl, rfl⟩
noncomputable def p_104 (a : Nat) (f v l : Int32) (σ σ' : zSg) : Prop := ∀ b H nt, a = b + 7 → hH σ b H → H 1 = Int32.ofNat nt → nt ≤ 8 → hHF b σ σ' ∧ (nt = 8 → σ' = σ) ∧ (nt < 8 → (l.toInt ≠ 0 → hH σ' b (dBr H nt f v (Int32.ofInt 1))) ∧ (l.toInt = 0 → hH σ' b (dBr H nt f v (H (66 + 3 * nt)))))
theorem sp_104_ett (a0 : Nat) (a1 : Int32) (a2 : Int32) (a3 : Int32) (σ : zSg) (τ1 : zSg) (r1 : Int32) (g1 : p_103 a0 σ r1 τ1) (h2 : r1.toInt ≠ (0 : Int)) (h3 : 0 ≤ (q_i (τ1.1 a0 3)).toInt ∧ (q_i (τ1.1 a0 3)).toInt < (τ1.2.1 (q_r (τ1.1 a0 0)) : Int)) (h4 : 0 ≤ (q_i ((q_w τ1 (q_r (τ1.1 a0 0)) (q_i (τ1.1 a0 3)).toNatClampNeg (.int a1)).1 a0 3)).toInt ∧ (q_i ((q_w τ1 (q_r (τ1.1 a0 0)) (q_i (τ1.1 a0 3)).toNatClampNeg (.int a1)).1 a0 3)).toInt < ((q_w τ1 (q_r (τ1.1 a0 0)) (q_i (τ1.1 a0 3)).toNatClampNeg (.int a1)).2.1 (q_r ((q_w τ1 (q_r (τ1.1 a0 0)) (q_i (τ1.1 a0 3)).toNatClampNeg (.int a1)).1 a0 1)) : Int)) (h5 : a3.toInt = (0 : Int)) :
    p_104 (a0) (a1) (a2) (a3) σ (q_w (q_w (q_w τ1 (q_r (τ1.1 a0 0)) (q_i (τ1.1 a0 3)).toNatClampNeg (.int a1)) (q_r ((q_w τ1 (q_r (τ1.1 a0 0)) (q_i (τ1.1 a0 3)).toNatClampNeg (.int a1)).1 a0 1)) (q_i ((q_w τ1 (q_r (τ1.1 a0 0)) (q_i (τ1.1 a0 3)).toNatClampNeg (.int a1)).1 a0 3)).toNatClampNeg (.int a2)) a0 3 (.int ((q_i ((q_w (q_w τ1 (q_r (τ1.1 a0 0)) (q_i (τ1.1 a0 3)).toNatClampNeg (.int a1)) (q_r ((q_w τ1 (q_r (τ1.1 a0 0)) (q_i (τ1.1 a0 3)).toNatClampNeg (.int a1)).1 a0 1)) (q_i ((q_w τ1 (q_r (τ1.1 a0 0)) (q_i (τ1.1 a0 3)).toNatClampNeg (.int a1)).1 a0 3)).toNatClampNeg (.int a2)).1 a0 3)) + (Int32.ofInt (1))))) := by
  rintro b H nt rfl K h1 hn
  obtain ⟨rfl, e1⟩ := g1
  have p1 : q_i (τ1.1 (b + 7) 3) = Int32.ofNat nt := (K.p hp_1).trans h1
  rw [p1, o32 (by omega)] at e1
  have h8 : nt < 8 := by have := e1.mp h2; omega
  have w0 : hPr b (64 + 3 * nt) (b + 8) nt := hp_o h8
  have w1 : hPr b (65 + 3 * nt) (b + 9) nt := hp_b h8
  have w3 : hPr b 1 (b + 7) 3 := hp_1
  have K0 := K.ww (v := a1) w0
  have K1 := K0.ww (v := a2) w1
  have n0 : (Int32.ofNat nt).toNatClampNeg = nt := o32n (by omega)
  have d0 := K.k hk_t0
  have d1 := K0.k hk_t1
  have c0 : aU H (64 + 3 * nt) a1 1 = Int32.ofNat nt := (aU_ne (by omega)).trans h1
  have c1 : aU (aU H (64 + 3 * nt) a1) (65 + 3 * nt) a2 1 = Int32.ofNat nt := (aU_ne (by omega)).trans c0
  have p2 := (K0.p w3).trans c0
  have p3 := (K1.p w3).trans c1
  have i1 : Int32.ofNat nt + Int32.ofInt 1 = Int32.ofNat (nt + 1) := o32i (by omega)
  simp only [d0, d1, p1, p2, p3, n0, i1]
  have K3 := K1.ww (v := Int32.ofNat (nt + 1)) w3
  refine ⟨((hHF.w w0).tr (hHF.w w1)).tr (hHF.w w3), fun h => by omega, fun _ => ⟨fun h => ?_, fun _ => ?_⟩⟩
  · exact absurd ‹_› h
  · refine K3.cg (fun k _ => ?_)
    unfold dBr
    by_cases h : k = 1
    · rw [h, aU_at, aU_at]
    · rw [aU_ne h, aU_ne h]
      by_cases h9 : k = 66 + 3 * nt
      · rw [h9, aU_at, aU_ne (by omega), aU_ne (by omega)]
      · rw [aU_ne (k := 66 + 3 * nt) h9]
theorem sp_104_etf (a0 : Nat) (a1 : Int32) (a2 : Int32) (a3 : Int32) (σ : zSg) (τ1 : zSg) (r1 : Int32) (τ6 : zSg) (g1 : p_103 a0 σ r1 τ1) (h2 : r1.toInt ≠ (0 : Int)) (h3 : 0 ≤ (q_i (τ1.1 a0 3)).toInt ∧ (q_i (τ1.1 a0 3)).toInt < (τ1.2.1 (q_r (τ1.1 a0 0)) : Int)) (h4 : 0 ≤ (q_i ((q_w τ1 (q_r (τ1.1 a0 0)) (q_i (τ1.1 a0 3)).toNatClampNeg (.int a1)).1 a0 3)).toInt ∧ (q_i ((q_w τ1 (q_r (τ1.1 a0 0)) (q_i (τ1.1 a0 3)).toNatClampNeg (.int a1)).1 a0 3)).toInt < ((q_w τ1 (q_r (τ1.1 a0 0)) (q_i (τ1.1 a0 3)).toNatClampNeg (.int a1)).2.1 (q_r ((q_w τ1 (q_r (τ1.1 a0 0)) (q_i (τ1.1 a0 3)).toNatClampNeg (.int a1)).1 a0 1)) : Int)) (h5 : a3.toInt ≠ (0 : Int)) (g6 : p_106 a0 (q_i ((q_w (q_w τ1 (q_r (τ1.1 a0 0)) (q_i (τ1.1 a0 3)).toNatClampNeg (.int a1)) (q_r ((q_w τ1 (q_r (τ1.1 a0 0)) (q_i (τ1.1 a0 3)).toNatClampNeg (.int a1)).1 a0 1)) (q_i ((q_w τ1 (q_r (τ1.1 a0 0)) (q_i (τ1.1 a0 3)).toNatClampNeg (.int a1)).1 a0 3)).toNatClampNeg (.int a2)).1 a0 3)) (q_w (q_w τ1 (q_r (τ1.1 a0 0)) (q_i (τ1.1 a0 3)).toNatClampNeg (.int a1)) (q_r ((q_w τ1 (q_r (τ1.1 a0 0)) (q_i (τ1.1 a0 3)).toNatClampNeg (.int a1)).1 a0 1)) (q_i ((q_w τ1 (q_r (τ1.1 a0 0)) (q_i (τ1.1 a0 3)).toNatClampNeg (.int a1)).1 a0 3)).toNatClampNeg (.int a2)) τ6) :
    p_104 (a0) (a1) (a2) (a3) σ (q_w τ6 a0 3 (.int ((q_i (τ6.1 a0 3)) + (Int32.ofInt (1))))) := by
  rintro b H nt rfl K h1 hn
  obtain ⟨rfl, e1⟩ := g1
  have p1 : q_i (τ1.1 (b + 7) 3) = Int32.ofNat nt := (K.p hp_1).trans h1
  rw [p1, o32 (by omega)] at e1
  have h8 : nt < 8 := by have := e1.mp h2; omega
  have w0 : hPr b (64 + 3 * nt) (b + 8) nt := hp_o h8
  have w1 : hPr b (65 + 3 * nt) (b + 9) nt := hp_b h8
  have w3 : hPr b 1 (b + 7) 3 := hp_1
  have K0 := K.ww (v := a1) w0
  have K1 := K0.ww (v := a2) w1
  have n0 : (Int32.ofNat nt).toNatClampNeg = nt := o32n (by omega)
  have d0 := K.k hk_t0
  have d1 := K0.k hk_t1
  have c0 : aU H (64 + 3 * nt) a1 1 = Int32.ofNat nt := (aU_ne (by omega)).trans h1
  have c1 : aU (aU H (64 + 3 * nt) a1) (65 + 3 * nt) a2 1 = Int32.ofNat nt := (aU_ne (by omega)).trans c0
  have p2 := (K0.p w3).trans c0
  have p3 := (K1.p w3).trans c1
  have i1 : Int32.ofNat nt + Int32.ofInt 1 = Int32.ofNat (nt + 1) := o32i (by omega)
  simp only [d0, d1, p1, p2, p3, n0] at g6 ⊢
  have K2 := K1.pd h8
  obtain rfl := g6
  have c2 : aU (aU (aU H (64 + 3 * nt) a1) (65 + 3 * nt) a2) (66 + 3 * nt) (Int32.ofInt 1) 1 = Int32.ofNat nt := (aU_ne (by omega)).trans c1
  have p4 := (K2.p w3).trans c2
  simp only [p4, i1]
  have K3 := K2.ww (v := Int32.ofNat (nt + 1)) w3
  exact ⟨(((hHF.w w0).tr (hHF.w w1)).tr hHF.wl).tr (hHF.w w3), fun h => by omega, fun _ => ⟨fun _ => K3, fun h => absurd h ‹_›⟩⟩
theorem sp_104_ef (a0 : Nat) (a1 : Int32) (a2 : Int32) (a3 : Int32) (σ : zSg) (τ1 : zSg) (r1 : Int32) (g1 : p_103 a0 σ r1 τ1) (h2 : r1.toInt = (0 : Int)) :
    p_104 (a0) (a1) (a2) (a3) σ τ1 := by
  rintro b H nt rfl K h1 hn
  obtain ⟨rfl, e1⟩ := g1
  have p1 : q_i (τ1.1 (b + 7) 3) = Int32.ofNat nt := (K.p hp_1).trans h1
  rw [p1, o32 (by omega)] at e1
  exact ⟨hHF.rf, fun _ => rfl, fun h => absurd h2 (e1.mpr (by omega))⟩
noncomputable def qP_104 : zPp := fun as σ o σ' => match as with
  | [a0, a1, a2, a3] => o = .inl none ∧ p_104 (q_r a0) (q_i a1) (q_i a2) (q_i a3) σ σ'
  | _ => True
set_option maxRecDepth 100000 in
theorem sp_104 {sx : zX} (S103 : zEe sx 103 1 qP_103) (S106 : zEe sx 106 2 qP_106) : zEe sx 104 4 qP_104 := by
  refine zfle zJ_104 (sps := [(103, 1, qP_103), (106, 2, qP_106)]) (fun q hq => by
    simp only [List.mem_cons, List.not_mem_nil, or_false] at hq
    rcases hq with rfl | rfl
    · exact S103
    · exact S106) (fun as σ hl => ?_)
  match as, hl with
  | [a0, a1, a2, a3], _ =>
  refine ⟨[], 400, ?_, ?_⟩
  · exact fun q hq => absurd hq List.not_mem_nil
  · refine fun o1 τ1 g1 => ?_
    obtain ⟨r1, rfl, g1⟩ := g1
    refine And.intro (fun h2 => ?_) (fun h2 => ?_)
    · refine fun h3 => ?_
      refine fun h4 => ?_
      refine And.intro (fun h5 => ?_) (fun h5 => ?_)
      · exact ⟨rfl, sp_104_ett (q_r a0) (q_i a1) (q_i a2) (q_i a3) σ τ1 r1 g1 (cm1t h2) (q_inp h3) (q_inp h4) (cm0t h5)⟩
      · refine fun o6 τ6 g6 => ?_
        obtain ⟨rfl, g6⟩ := g6
        exact ⟨rfl, sp_104_etf (q_r a0) (q_i a1) (q_i a2) (q_i a3) σ τ1 r1 τ6 g1 (cm1t h2) (q_inp h3) (q_inp h4) (cm0f h5) g6⟩
    · exact ⟨rfl, sp_104_ef (q_r a0) (q_i a1) (q_i a2) (q_i a3) σ τ1 r1 g1 (cm1f h2)⟩
