/-! the law's calls of the class, exact; printed with wip/gen/gen_dm.py -/
noncomputable def p_315 (a : Nat) (o : Nat) (σ : zSg) (k : Int32) (σ' : zSg) : Prop := ∃ e τ, p_120 a  σ e τ ∧ ((∃ v, e = .inl v ∧ k = Int32.ofInt 0 ∧ σ' = q_w τ o 0 (.long v.toInt64)) ∨ (e = .inr 0 ∧ k = Int32.ofInt 1 ∧ σ' = τ) ∨ (e = .inr 1 ∧ k = Int32.ofInt 2 ∧ σ' = τ))
theorem sp_315_en (a0 : Nat) (a1 : Nat) (σ : zSg) (τ1 : zSg) (r1 : Int32) (g1 : p_120 a0 σ (.inl r1) τ1) (h2 : 0 ≤ (Int32.ofInt (0)).toInt ∧ (Int32.ofInt (0)).toInt < (τ1.2.1 a1 : Int)) :
    p_315 (a0) (a1) σ (Int32.ofInt (0)) (q_w τ1 a1 (Int32.ofInt (0)).toNatClampNeg (.long r1.toInt64)) := by
  exact ⟨_, _, g1, Or.inl ⟨_, rfl, rfl, rfl⟩⟩
theorem sp_315_ex0_ (a0 : Nat) (a1 : Nat) (σ : zSg) (τ1 : zSg) (g1 : p_120 a0 σ (.inr 0) τ1) :
    p_315 (a0) (a1) σ (Int32.ofInt (1)) τ1 := by
  exact ⟨_, _, g1, Or.inr (Or.inl (⟨rfl, rfl, rfl⟩))⟩
theorem sp_315_ex1_ (a0 : Nat) (a1 : Nat) (σ : zSg) (τ1 : zSg) (g1 : p_120 a0 σ (.inr 1) τ1) :
    p_315 (a0) (a1) σ (Int32.ofInt (2)) τ1 := by
  exact ⟨_, _, g1, Or.inr (Or.inr (⟨rfl, rfl, rfl⟩))⟩
noncomputable def qP_315 : zPp := fun as σ o σ' => match as with
  | [a0, a1] => ∃ r, o = .inl (some (.int r)) ∧ p_315 (q_r a0) (q_r a1) σ r σ'
  | _ => True
set_option maxRecDepth 100000 in
theorem sp_315 {sx : zX} (S120 : zEe sx 120 1 qP_120) : zEe sx 315 2 qP_315 := by
  refine zfle zJ_315 (sps := [(120, 1, qP_120)]) (fun q hq => by
    simp only [List.mem_cons, List.not_mem_nil, or_false] at hq
    rcases hq with rfl
    · exact S120) (fun as σ hl => ?_)
  match as, hl with
  | [a0, a1], _ =>
  refine ⟨[], 400, ?_, ?_⟩
  · exact fun q hq => absurd hq List.not_mem_nil
  · refine fun o1 τ1 g1 => ?_
    rcases g1 with ⟨r1, rfl, g1⟩ | ⟨rfl, g1⟩ | ⟨rfl, g1⟩
    · refine fun h2 => ?_
      exact ⟨_, rfl, sp_315_en (q_r a0) (q_r a1) σ τ1 r1 g1 (q_inp h2)⟩
    · exact ⟨_, rfl, sp_315_ex0_ (q_r a0) (q_r a1) σ τ1 g1⟩
    · exact ⟨_, rfl, sp_315_ex1_ (q_r a0) (q_r a1) σ τ1 g1⟩
theorem zJ_319 : zJ3 319 z_m319 z_c319 z_h319 := ⟨rfl, rfl, rfl⟩
noncomputable def p_319 (a : Nat) (a1 a2 a3 : Int32) (o : Nat) (σ : zSg) (k : Int32) (σ' : zSg) : Prop := ∃ e τ, p_125 a a1 a2 a3 σ e τ ∧ ((∃ v, e = .inl v ∧ k = Int32.ofInt 0 ∧ σ' = q_w τ o 0 (.long v.toInt64)) ∨ (e = .inr 2 ∧ k = Int32.ofInt 1 ∧ σ' = τ) ∨ (e = .inr 3 ∧ k = Int32.ofInt 2 ∧ σ' = τ))
theorem sp_319_en (a0 : Nat) (a1 : Int32) (a2 : Int32) (a3 : Int32) (a4 : Nat) (σ : zSg) (τ1 : zSg) (r1 : Int32) (g1 : p_125 a0 a1 a2 a3 σ (.inl r1) τ1) (h2 : 0 ≤ (Int32.ofInt (0)).toInt ∧ (Int32.ofInt (0)).toInt < (τ1.2.1 a4 : Int)) :
    p_319 (a0) (a1) (a2) (a3) (a4) σ (Int32.ofInt (0)) (q_w τ1 a4 (Int32.ofInt (0)).toNatClampNeg (.long r1.toInt64)) := by
  exact ⟨_, _, g1, Or.inl ⟨_, rfl, rfl, rfl⟩⟩
theorem sp_319_ex2_ (a0 : Nat) (a1 : Int32) (a2 : Int32) (a3 : Int32) (a4 : Nat) (σ : zSg) (τ1 : zSg) (g1 : p_125 a0 a1 a2 a3 σ (.inr 2) τ1) :
    p_319 (a0) (a1) (a2) (a3) (a4) σ (Int32.ofInt (1)) τ1 := by
  exact ⟨_, _, g1, Or.inr (Or.inl (⟨rfl, rfl, rfl⟩))⟩
theorem sp_319_ex3_ (a0 : Nat) (a1 : Int32) (a2 : Int32) (a3 : Int32) (a4 : Nat) (σ : zSg) (τ1 : zSg) (g1 : p_125 a0 a1 a2 a3 σ (.inr 3) τ1) :
    p_319 (a0) (a1) (a2) (a3) (a4) σ (Int32.ofInt (2)) τ1 := by
  exact ⟨_, _, g1, Or.inr (Or.inr (⟨rfl, rfl, rfl⟩))⟩
noncomputable def qP_319 : zPp := fun as σ o σ' => match as with
  | [a0, a1, a2, a3, a4] => ∃ r, o = .inl (some (.int r)) ∧ p_319 (q_r a0) (q_i a1) (q_i a2) (q_i a3) (q_r a4) σ r σ'
  | _ => True
set_option maxRecDepth 100000 in
theorem sp_319 {sx : zX} (S125 : zEe sx 125 4 qP_125) : zEe sx 319 5 qP_319 := by
  refine zfle zJ_319 (sps := [(125, 4, qP_125)]) (fun q hq => by
    simp only [List.mem_cons, List.not_mem_nil, or_false] at hq
    rcases hq with rfl
    · exact S125) (fun as σ hl => ?_)
  match as, hl with
  | [a0, a1, a2, a3, a4], _ =>
  refine ⟨[], 400, ?_, ?_⟩
  · exact fun q hq => absurd hq List.not_mem_nil
  · refine fun o1 τ1 g1 => ?_
    rcases g1 with ⟨r1, rfl, g1⟩ | ⟨rfl, g1⟩ | ⟨rfl, g1⟩
    · refine fun h2 => ?_
      exact ⟨_, rfl, sp_319_en (q_r a0) (q_i a1) (q_i a2) (q_i a3) (q_r a4) σ τ1 r1 g1 (q_inp h2)⟩
    · exact ⟨_, rfl, sp_319_ex2_ (q_r a0) (q_i a1) (q_i a2) (q_i a3) (q_r a4) σ τ1 g1⟩
    · exact ⟨_, rfl, sp_319_ex3_ (q_r a0) (q_i a1) (q_i a2) (q_i a3) (q_r a4) σ τ1 g1⟩
theorem zJ_320 : zJ3 320 z_m320 z_c320 z_h320 := ⟨rfl, rfl, rfl⟩
noncomputable def p_320 (a : Nat) (a1 a2 : Int32) (o : Nat) (σ : zSg) (k : Int32) (σ' : zSg) : Prop := ∃ e τ, p_126 a a1 a2 σ e τ ∧ ((∃ v, e = .inl v ∧ k = Int32.ofInt 0 ∧ σ' = q_w τ o 0 (.long v.toInt64)) ∨ (e = .inr 2 ∧ k = Int32.ofInt 1 ∧ σ' = τ) ∨ (e = .inr 3 ∧ k = Int32.ofInt 2 ∧ σ' = τ))
theorem sp_320_en (a0 : Nat) (a1 : Int32) (a2 : Int32) (a3 : Nat) (σ : zSg) (τ1 : zSg) (r1 : Int32) (g1 : p_126 a0 a1 a2 σ (.inl r1) τ1) (h2 : 0 ≤ (Int32.ofInt (0)).toInt ∧ (Int32.ofInt (0)).toInt < (τ1.2.1 a3 : Int)) :
    p_320 (a0) (a1) (a2) (a3) σ (Int32.ofInt (0)) (q_w τ1 a3 (Int32.ofInt (0)).toNatClampNeg (.long r1.toInt64)) := by
  exact ⟨_, _, g1, Or.inl ⟨_, rfl, rfl, rfl⟩⟩
theorem sp_320_ex2_ (a0 : Nat) (a1 : Int32) (a2 : Int32) (a3 : Nat) (σ : zSg) (τ1 : zSg) (g1 : p_126 a0 a1 a2 σ (.inr 2) τ1) :
    p_320 (a0) (a1) (a2) (a3) σ (Int32.ofInt (1)) τ1 := by
  exact ⟨_, _, g1, Or.inr (Or.inl (⟨rfl, rfl, rfl⟩))⟩
theorem sp_320_ex3_ (a0 : Nat) (a1 : Int32) (a2 : Int32) (a3 : Nat) (σ : zSg) (τ1 : zSg) (g1 : p_126 a0 a1 a2 σ (.inr 3) τ1) :
    p_320 (a0) (a1) (a2) (a3) σ (Int32.ofInt (2)) τ1 := by
  exact ⟨_, _, g1, Or.inr (Or.inr (⟨rfl, rfl, rfl⟩))⟩
noncomputable def qP_320 : zPp := fun as σ o σ' => match as with
  | [a0, a1, a2, a3] => ∃ r, o = .inl (some (.int r)) ∧ p_320 (q_r a0) (q_i a1) (q_i a2) (q_r a3) σ r σ'
  | _ => True
set_option maxRecDepth 100000 in
theorem sp_320 {sx : zX} (S126 : zEe sx 126 3 qP_126) : zEe sx 320 4 qP_320 := by
  refine zfle zJ_320 (sps := [(126, 3, qP_126)]) (fun q hq => by
    simp only [List.mem_cons, List.not_mem_nil, or_false] at hq
    rcases hq with rfl
    · exact S126) (fun as σ hl => ?_)
  match as, hl with
  | [a0, a1, a2, a3], _ =>
  refine ⟨[], 400, ?_, ?_⟩
  · exact fun q hq => absurd hq List.not_mem_nil
  · refine fun o1 τ1 g1 => ?_
    rcases g1 with ⟨r1, rfl, g1⟩ | ⟨rfl, g1⟩ | ⟨rfl, g1⟩
    · refine fun h2 => ?_
      exact ⟨_, rfl, sp_320_en (q_r a0) (q_i a1) (q_i a2) (q_r a3) σ τ1 r1 g1 (q_inp h2)⟩
    · exact ⟨_, rfl, sp_320_ex2_ (q_r a0) (q_i a1) (q_i a2) (q_r a3) σ τ1 g1⟩
    · exact ⟨_, rfl, sp_320_ex3_ (q_r a0) (q_i a1) (q_i a2) (q_r a3) σ τ1 g1⟩
theorem zJ_321 : zJ3 321 z_m321 z_c321 z_h321 := ⟨rfl, rfl, rfl⟩
noncomputable def p_321 (a : Nat) (a1 a2 : Int32) (o : Nat) (σ : zSg) (k : Int32) (σ' : zSg) : Prop := ∃ e τ, p_127 a a1 a2 σ e τ ∧ ((∃ v, e = .inl v ∧ k = Int32.ofInt 0 ∧ σ' = q_w τ o 0 (.long v.toInt64)) ∨ (e = .inr 2 ∧ k = Int32.ofInt 1 ∧ σ' = τ) ∨ (e = .inr 0 ∧ k = Int32.ofInt 2 ∧ σ' = τ) ∨ (e = .inr 4 ∧ k = Int32.ofInt 3 ∧ σ' = τ))
theorem sp_321_en (a0 : Nat) (a1 : Int32) (a2 : Int32) (a3 : Nat) (σ : zSg) (τ1 : zSg) (r1 : Int32) (g1 : p_127 a0 a1 a2 σ (.inl r1) τ1) (h2 : 0 ≤ (Int32.ofInt (0)).toInt ∧ (Int32.ofInt (0)).toInt < (τ1.2.1 a3 : Int)) :
    p_321 (a0) (a1) (a2) (a3) σ (Int32.ofInt (0)) (q_w τ1 a3 (Int32.ofInt (0)).toNatClampNeg (.long r1.toInt64)) := by
  exact ⟨_, _, g1, Or.inl ⟨_, rfl, rfl, rfl⟩⟩
theorem sp_321_ex2_ (a0 : Nat) (a1 : Int32) (a2 : Int32) (a3 : Nat) (σ : zSg) (τ1 : zSg) (g1 : p_127 a0 a1 a2 σ (.inr 2) τ1) :
    p_321 (a0) (a1) (a2) (a3) σ (Int32.ofInt (1)) τ1 := by
  exact ⟨_, _, g1, Or.inr (Or.inl (⟨rfl, rfl, rfl⟩))⟩
theorem sp_321_ex0_ (a0 : Nat) (a1 : Int32) (a2 : Int32) (a3 : Nat) (σ : zSg) (τ1 : zSg) (g1 : p_127 a0 a1 a2 σ (.inr 0) τ1) :
    p_321 (a0) (a1) (a2) (a3) σ (Int32.ofInt (2)) τ1 := by
  exact ⟨_, _, g1, Or.inr (Or.inr (Or.inl (⟨rfl, rfl, rfl⟩)))⟩
theorem sp_321_ex4_ (a0 : Nat) (a1 : Int32) (a2 : Int32) (a3 : Nat) (σ : zSg) (τ1 : zSg) (g1 : p_127 a0 a1 a2 σ (.inr 4) τ1) :
    p_321 (a0) (a1) (a2) (a3) σ (Int32.ofInt (3)) τ1 := by
  exact ⟨_, _, g1, Or.inr (Or.inr (Or.inr (⟨rfl, rfl, rfl⟩)))⟩
noncomputable def qP_321 : zPp := fun as σ o σ' => match as with
  | [a0, a1, a2, a3] => ∃ r, o = .inl (some (.int r)) ∧ p_321 (q_r a0) (q_i a1) (q_i a2) (q_r a3) σ r σ'
  | _ => True
set_option maxRecDepth 100000 in
theorem sp_321 {sx : zX} (S127 : zEe sx 127 3 qP_127) : zEe sx 321 4 qP_321 := by
  refine zfle zJ_321 (sps := [(127, 3, qP_127)]) (fun q hq => by
    simp only [List.mem_cons, List.not_mem_nil, or_false] at hq
    rcases hq with rfl
    · exact S127) (fun as σ hl => ?_)
  match as, hl with
  | [a0, a1, a2, a3], _ =>
  refine ⟨[], 400, ?_, ?_⟩
  · exact fun q hq => absurd hq List.not_mem_nil
  · refine fun o1 τ1 g1 => ?_
    rcases g1 with ⟨r1, rfl, g1⟩ | ⟨rfl, g1⟩ | ⟨rfl, g1⟩ | ⟨rfl, g1⟩
    · refine fun h2 => ?_
      exact ⟨_, rfl, sp_321_en (q_r a0) (q_i a1) (q_i a2) (q_r a3) σ τ1 r1 g1 (q_inp h2)⟩
    · exact ⟨_, rfl, sp_321_ex2_ (q_r a0) (q_i a1) (q_i a2) (q_r a3) σ τ1 g1⟩
    · exact ⟨_, rfl, sp_321_ex0_ (q_r a0) (q_i a1) (q_i a2) (q_r a3) σ τ1 g1⟩
    · exact ⟨_, rfl, sp_321_ex4_ (q_r a0) (q_i a1) (q_i a2) (q_r a3) σ τ1 g1⟩
theorem zJ_322 : zJ3 322 z_m322 z_c322 z_h322 := ⟨rfl, rfl, rfl⟩
noncomputable def p_322 (a : Nat) (a1 a2 : Int32) (o : Nat) (σ : zSg) (k : Int32) (σ' : zSg) : Prop := ∃ e τ, p_128 a a1 a2 σ e τ ∧ ((∃ v, e = .inl v ∧ k = Int32.ofInt 0 ∧ σ' = q_w τ o 0 (.long v.toInt64)) ∨ (e = .inr 2 ∧ k = Int32.ofInt 1 ∧ σ' = τ) ∨ (e = .inr 4 ∧ k = Int32.ofInt 2 ∧ σ' = τ))
theorem sp_322_en (a0 : Nat) (a1 : Int32) (a2 : Int32) (a3 : Nat) (σ : zSg) (τ1 : zSg) (r1 : Int32) (g1 : p_128 a0 a1 a2 σ (.inl r1) τ1) (h2 : 0 ≤ (Int32.ofInt (0)).toInt ∧ (Int32.ofInt (0)).toInt < (τ1.2.1 a3 : Int)) :
    p_322 (a0) (a1) (a2) (a3) σ (Int32.ofInt (0)) (q_w τ1 a3 (Int32.ofInt (0)).toNatClampNeg (.long r1.toInt64)) := by
  exact ⟨_, _, g1, Or.inl ⟨_, rfl, rfl, rfl⟩⟩
theorem sp_322_ex2_ (a0 : Nat) (a1 : Int32) (a2 : Int32) (a3 : Nat) (σ : zSg) (τ1 : zSg) (g1 : p_128 a0 a1 a2 σ (.inr 2) τ1) :
    p_322 (a0) (a1) (a2) (a3) σ (Int32.ofInt (1)) τ1 := by
  exact ⟨_, _, g1, Or.inr (Or.inl (⟨rfl, rfl, rfl⟩))⟩
theorem sp_322_ex4_ (a0 : Nat) (a1 : Int32) (a2 : Int32) (a3 : Nat) (σ : zSg) (τ1 : zSg) (g1 : p_128 a0 a1 a2 σ (.inr 4) τ1) :
    p_322 (a0) (a1) (a2) (a3) σ (Int32.ofInt (2)) τ1 := by
  exact ⟨_, _, g1, Or.inr (Or.inr (⟨rfl, rfl, rfl⟩))⟩
noncomputable def qP_322 : zPp := fun as σ o σ' => match as with
  | [a0, a1, a2, a3] => ∃ r, o = .inl (some (.int r)) ∧ p_322 (q_r a0) (q_i a1) (q_i a2) (q_r a3) σ r σ'
  | _ => True
set_option maxRecDepth 100000 in
theorem sp_322 {sx : zX} (S128 : zEe sx 128 3 qP_128) : zEe sx 322 4 qP_322 := by
  refine zfle zJ_322 (sps := [(128, 3, qP_128)]) (fun q hq => by
    simp only [List.mem_cons, List.not_mem_nil, or_false] at hq
    rcases hq with rfl
    · exact S128) (fun as σ hl => ?_)
  match as, hl with
  | [a0, a1, a2, a3], _ =>
  refine ⟨[], 400, ?_, ?_⟩
  · exact fun q hq => absurd hq List.not_mem_nil
  · refine fun o1 τ1 g1 => ?_
    rcases g1 with ⟨r1, rfl, g1⟩ | ⟨rfl, g1⟩ | ⟨rfl, g1⟩
    · refine fun h2 => ?_
      exact ⟨_, rfl, sp_322_en (q_r a0) (q_i a1) (q_i a2) (q_r a3) σ τ1 r1 g1 (q_inp h2)⟩
    · exact ⟨_, rfl, sp_322_ex2_ (q_r a0) (q_i a1) (q_i a2) (q_r a3) σ τ1 g1⟩
    · exact ⟨_, rfl, sp_322_ex4_ (q_r a0) (q_i a1) (q_i a2) (q_r a3) σ τ1 g1⟩
theorem zJ_323 : zJ3 323 z_m323 z_c323 z_h323 := ⟨rfl, rfl, rfl⟩
noncomputable def p_323 (a : Nat) (a1 a2 : Int32) (o : Nat) (σ : zSg) (k : Int32) (σ' : zSg) : Prop := ∃ e τ, p_129 a a1 a2 σ e τ ∧ ((∃ v, e = .inl v ∧ k = Int32.ofInt 0 ∧ σ' = q_w τ o 0 (.long v.toInt64)) ∨ (e = .inr 2 ∧ k = Int32.ofInt 1 ∧ σ' = τ) ∨ (e = .inr 0 ∧ k = Int32.ofInt 2 ∧ σ' = τ) ∨ (e = .inr 4 ∧ k = Int32.ofInt 3 ∧ σ' = τ))
theorem sp_323_en (a0 : Nat) (a1 : Int32) (a2 : Int32) (a3 : Nat) (σ : zSg) (τ1 : zSg) (r1 : Int32) (g1 : p_129 a0 a1 a2 σ (.inl r1) τ1) (h2 : 0 ≤ (Int32.ofInt (0)).toInt ∧ (Int32.ofInt (0)).toInt < (τ1.2.1 a3 : Int)) :
    p_323 (a0) (a1) (a2) (a3) σ (Int32.ofInt (0)) (q_w τ1 a3 (Int32.ofInt (0)).toNatClampNeg (.long r1.toInt64)) := by
  exact ⟨_, _, g1, Or.inl ⟨_, rfl, rfl, rfl⟩⟩
theorem sp_323_ex2_ (a0 : Nat) (a1 : Int32) (a2 : Int32) (a3 : Nat) (σ : zSg) (τ1 : zSg) (g1 : p_129 a0 a1 a2 σ (.inr 2) τ1) :
    p_323 (a0) (a1) (a2) (a3) σ (Int32.ofInt (1)) τ1 := by
  exact ⟨_, _, g1, Or.inr (Or.inl (⟨rfl, rfl, rfl⟩))⟩
theorem sp_323_ex0_ (a0 : Nat) (a1 : Int32) (a2 : Int32) (a3 : Nat) (σ : zSg) (τ1 : zSg) (g1 : p_129 a0 a1 a2 σ (.inr 0) τ1) :
    p_323 (a0) (a1) (a2) (a3) σ (Int32.ofInt (2)) τ1 := by
  exact ⟨_, _, g1, Or.inr (Or.inr (Or.inl (⟨rfl, rfl, rfl⟩)))⟩
theorem sp_323_ex4_ (a0 : Nat) (a1 : Int32) (a2 : Int32) (a3 : Nat) (σ : zSg) (τ1 : zSg) (g1 : p_129 a0 a1 a2 σ (.inr 4) τ1) :
    p_323 (a0) (a1) (a2) (a3) σ (Int32.ofInt (3)) τ1 := by
  exact ⟨_, _, g1, Or.inr (Or.inr (Or.inr (⟨rfl, rfl, rfl⟩)))⟩
noncomputable def qP_323 : zPp := fun as σ o σ' => match as with
  | [a0, a1, a2, a3] => ∃ r, o = .inl (some (.int r)) ∧ p_323 (q_r a0) (q_i a1) (q_i a2) (q_r a3) σ r σ'
  | _ => True
set_option maxRecDepth 100000 in
theorem sp_323 {sx : zX} (S129 : zEe sx 129 3 qP_129) : zEe sx 323 4 qP_323 := by
  refine zfle zJ_323 (sps := [(129, 3, qP_129)]) (fun q hq => by
    simp only [List.mem_cons, List.not_mem_nil, or_false] at hq
    rcases hq with rfl
    · exact S129) (fun as σ hl => ?_)
  match as, hl with
  | [a0, a1, a2, a3], _ =>
  refine ⟨[], 400, ?_, ?_⟩
  · exact fun q hq => absurd hq List.not_mem_nil
  · refine fun o1 τ1 g1 => ?_
    rcases g1 with ⟨r1, rfl, g1⟩ | ⟨rfl, g1⟩ | ⟨rfl, g1⟩ | ⟨rfl, g1⟩
    · refine fun h2 => ?_
      exact ⟨_, rfl, sp_323_en (q_r a0) (q_i a1) (q_i a2) (q_r a3) σ τ1 r1 g1 (q_inp h2)⟩
    · exact ⟨_, rfl, sp_323_ex2_ (q_r a0) (q_i a1) (q_i a2) (q_r a3) σ τ1 g1⟩
    · exact ⟨_, rfl, sp_323_ex0_ (q_r a0) (q_i a1) (q_i a2) (q_r a3) σ τ1 g1⟩
    · exact ⟨_, rfl, sp_323_ex4_ (q_r a0) (q_i a1) (q_i a2) (q_r a3) σ τ1 g1⟩
theorem zJ_324 : zJ3 324 z_m324 z_c324 z_h324 := ⟨rfl, rfl, rfl⟩
noncomputable def p_324 (a : Nat) (a1 : Int32) (o : Nat) (σ : zSg) (k : Int32) (σ' : zSg) : Prop := ∃ e τ, p_130 a a1 σ e τ ∧ ((∃ v, e = .inl v ∧ k = Int32.ofInt 0 ∧ σ' = q_w τ o 0 (.long v.toInt64)) ∨ (e = .inr 2 ∧ k = Int32.ofInt 1 ∧ σ' = τ) ∨ (e = .inr 4 ∧ k = Int32.ofInt 2 ∧ σ' = τ))
theorem sp_324_en (a0 : Nat) (a1 : Int32) (a2 : Nat) (σ : zSg) (τ1 : zSg) (r1 : Int32) (g1 : p_130 a0 a1 σ (.inl r1) τ1) (h2 : 0 ≤ (Int32.ofInt (0)).toInt ∧ (Int32.ofInt (0)).toInt < (τ1.2.1 a2 : Int)) :
    p_324 (a0) (a1) (a2) σ (Int32.ofInt (0)) (q_w τ1 a2 (Int32.ofInt (0)).toNatClampNeg (.long r1.toInt64)) := by
  exact ⟨_, _, g1, Or.inl ⟨_, rfl, rfl, rfl⟩⟩
theorem sp_324_ex2_ (a0 : Nat) (a1 : Int32) (a2 : Nat) (σ : zSg) (τ1 : zSg) (g1 : p_130 a0 a1 σ (.inr 2) τ1) :
    p_324 (a0) (a1) (a2) σ (Int32.ofInt (1)) τ1 := by
  exact ⟨_, _, g1, Or.inr (Or.inl (⟨rfl, rfl, rfl⟩))⟩
theorem sp_324_ex4_ (a0 : Nat) (a1 : Int32) (a2 : Nat) (σ : zSg) (τ1 : zSg) (g1 : p_130 a0 a1 σ (.inr 4) τ1) :
    p_324 (a0) (a1) (a2) σ (Int32.ofInt (2)) τ1 := by
  exact ⟨_, _, g1, Or.inr (Or.inr (⟨rfl, rfl, rfl⟩))⟩
noncomputable def qP_324 : zPp := fun as σ o σ' => match as with
  | [a0, a1, a2] => ∃ r, o = .inl (some (.int r)) ∧ p_324 (q_r a0) (q_i a1) (q_r a2) σ r σ'
  | _ => True
set_option maxRecDepth 100000 in
theorem sp_324 {sx : zX} (S130 : zEe sx 130 2 qP_130) : zEe sx 324 3 qP_324 := by
  refine zfle zJ_324 (sps := [(130, 2, qP_130)]) (fun q hq => by
    simp only [List.mem_cons, List.not_mem_nil, or_false] at hq
    rcases hq with rfl
    · exact S130) (fun as σ hl => ?_)
  match as, hl with
  | [a0, a1, a2], _ =>
  refine ⟨[], 400, ?_, ?_⟩
  · exact fun q hq => absurd hq List.not_mem_nil
  · refine fun o1 τ1 g1 => ?_
    rcases g1 with ⟨r1, rfl, g1⟩ | ⟨rfl, g1⟩ | ⟨rfl, g1⟩
    · refine fun h2 => ?_
      exact ⟨_, rfl, sp_324_en (q_r a0) (q_i a1) (q_r a2) σ τ1 r1 g1 (q_inp h2)⟩
    · exact ⟨_, rfl, sp_324_ex2_ (q_r a0) (q_i a1) (q_r a2) σ τ1 g1⟩
    · exact ⟨_, rfl, sp_324_ex4_ (q_r a0) (q_i a1) (q_r a2) σ τ1 g1⟩
theorem zJ_325 : zJ3 325 z_m325 z_c325 z_h325 := ⟨rfl, rfl, rfl⟩
noncomputable def p_325 (a : Nat) (a1 : Int32) (o : Nat) (σ : zSg) (k : Int32) (σ' : zSg) : Prop := ∃ e τ, p_131 a a1 σ e τ ∧ ((∃ v, e = .inl v ∧ k = Int32.ofInt 0 ∧ σ' = q_w τ o 0 (.long v.toInt64)) ∨ (e = .inr 2 ∧ k = Int32.ofInt 1 ∧ σ' = τ) ∨ (e = .inr 4 ∧ k = Int32.ofInt 2 ∧ σ' = τ))
theorem sp_325_en (a0 : Nat) (a1 : Int32) (a2 : Nat) (σ : zSg) (τ1 : zSg) (r1 : Int32) (g1 : p_131 a0 a1 σ (.inl r1) τ1) (h2 : 0 ≤ (Int32.ofInt (0)).toInt ∧ (Int32.ofInt (0)).toInt < (τ1.2.1 a2 : Int)) :
    p_325 (a0) (a1) (a2) σ (Int32.ofInt (0)) (q_w τ1 a2 (Int32.ofInt (0)).toNatClampNeg (.long r1.toInt64)) := by
  exact ⟨_, _, g1, Or.inl ⟨_, rfl, rfl, rfl⟩⟩
theorem sp_325_ex2_ (a0 : Nat) (a1 : Int32) (a2 : Nat) (σ : zSg) (τ1 : zSg) (g1 : p_131 a0 a1 σ (.inr 2) τ1) :
    p_325 (a0) (a1) (a2) σ (Int32.ofInt (1)) τ1 := by
  exact ⟨_, _, g1, Or.inr (Or.inl (⟨rfl, rfl, rfl⟩))⟩
theorem sp_325_ex4_ (a0 : Nat) (a1 : Int32) (a2 : Nat) (σ : zSg) (τ1 : zSg) (g1 : p_131 a0 a1 σ (.inr 4) τ1) :
    p_325 (a0) (a1) (a2) σ (Int32.ofInt (2)) τ1 := by
  exact ⟨_, _, g1, Or.inr (Or.inr (⟨rfl, rfl, rfl⟩))⟩
noncomputable def qP_325 : zPp := fun as σ o σ' => match as with
  | [a0, a1, a2] => ∃ r, o = .inl (some (.int r)) ∧ p_325 (q_r a0) (q_i a1) (q_r a2) σ r σ'
  | _ => True
set_option maxRecDepth 100000 in
theorem sp_325 {sx : zX} (S131 : zEe sx 131 2 qP_131) : zEe sx 325 3 qP_325 := by
  refine zfle zJ_325 (sps := [(131, 2, qP_131)]) (fun q hq => by
    simp only [List.mem_cons, List.not_mem_nil, or_false] at hq
    rcases hq with rfl
    · exact S131) (fun as σ hl => ?_)
  match as, hl with
  | [a0, a1, a2], _ =>
  refine ⟨[], 400, ?_, ?_⟩
  · exact fun q hq => absurd hq List.not_mem_nil
  · refine fun o1 τ1 g1 => ?_
    rcases g1 with ⟨r1, rfl, g1⟩ | ⟨rfl, g1⟩ | ⟨rfl, g1⟩
    · refine fun h2 => ?_
      exact ⟨_, rfl, sp_325_en (q_r a0) (q_i a1) (q_r a2) σ τ1 r1 g1 (q_inp h2)⟩
    · exact ⟨_, rfl, sp_325_ex2_ (q_r a0) (q_i a1) (q_r a2) σ τ1 g1⟩
    · exact ⟨_, rfl, sp_325_ex4_ (q_r a0) (q_i a1) (q_r a2) σ τ1 g1⟩
theorem zJ_326 : zJ3 326 z_m326 z_c326 z_h326 := ⟨rfl, rfl, rfl⟩
noncomputable def p_326 (a : Nat) (a1 : Int32) (o : Nat) (σ : zSg) (k : Int32) (σ' : zSg) : Prop := ∃ e τ, p_132 a a1 σ e τ ∧ ((∃ v, e = .inl v ∧ k = Int32.ofInt 0 ∧ σ' = q_w τ o 0 (.long v.toInt64)) ∨ (e = .inr 2 ∧ k = Int32.ofInt 1 ∧ σ' = τ) ∨ (e = .inr 4 ∧ k = Int32.ofInt 2 ∧ σ' = τ))
theorem sp_326_en (a0 : Nat) (a1 : Int32) (a2 : Nat) (σ : zSg) (τ1 : zSg) (r1 : Int32) (g1 : p_132 a0 a1 σ (.inl r1) τ1) (h2 : 0 ≤ (Int32.ofInt (0)).toInt ∧ (Int32.ofInt (0)).toInt < (τ1.2.1 a2 : Int)) :
    p_326 (a0) (a1) (a2) σ (Int32.ofInt (0)) (q_w τ1 a2 (Int32.ofInt (0)).toNatClampNeg (.long r1.toInt64)) := by
  exact ⟨_, _, g1, Or.inl ⟨_, rfl, rfl, rfl⟩⟩
theorem sp_326_ex2_ (a0 : Nat) (a1 : Int32) (a2 : Nat) (σ : zSg) (τ1 : zSg) (g1 : p_132 a0 a1 σ (.inr 2) τ1) :
    p_326 (a0) (a1) (a2) σ (Int32.ofInt (1)) τ1 := by
  exact ⟨_, _, g1, Or.inr (Or.inl (⟨rfl, rfl, rfl⟩))⟩
theorem sp_326_ex4_ (a0 : Nat) (a1 : Int32) (a2 : Nat) (σ : zSg) (τ1 : zSg) (g1 : p_132 a0 a1 σ (.inr 4) τ1) :
    p_326 (a0) (a1) (a2) σ (Int32.ofInt (2)) τ1 := by
  exact ⟨_, _, g1, Or.inr (Or.inr (⟨rfl, rfl, rfl⟩))⟩
noncomputable def qP_326 : zPp := fun as σ o σ' => match as with
  | [a0, a1, a2] => ∃ r, o = .inl (some (.int r)) ∧ p_326 (q_r a0) (q_i a1) (q_r a2) σ r σ'
  | _ => True
set_option maxRecDepth 100000 in
theorem sp_326 {sx : zX} (S132 : zEe sx 132 2 qP_132) : zEe sx 326 3 qP_326 := by
  refine zfle zJ_326 (sps := [(132, 2, qP_132)]) (fun q hq => by
    simp only [List.mem_cons, List.not_mem_nil, or_false] at hq
    rcases hq with rfl
    · exact S132) (fun as σ hl => ?_)
  match as, hl with
  | [a0, a1, a2], _ =>
  refine ⟨[], 400, ?_, ?_⟩
  · exact fun q hq => absurd hq List.not_mem_nil
  · refine fun o1 τ1 g1 => ?_
    rcases g1 with ⟨r1, rfl, g1⟩ | ⟨rfl, g1⟩ | ⟨rfl, g1⟩
    · refine fun h2 => ?_
      exact ⟨_, rfl, sp_326_en (q_r a0) (q_i a1) (q_r a2) σ τ1 r1 g1 (q_inp h2)⟩
    · exact ⟨_, rfl, sp_326_ex2_ (q_r a0) (q_i a1) (q_r a2) σ τ1 g1⟩
    · exact ⟨_, rfl, sp_326_ex4_ (q_r a0) (q_i a1) (q_r a2) σ τ1 g1⟩
theorem zJ_327 : zJ3 327 z_m327 z_c327 z_h327 := ⟨rfl, rfl, rfl⟩
noncomputable def p_327 (a : Nat) (o : Nat) (σ : zSg) (k : Int32) (σ' : zSg) : Prop := ∃ e τ, p_133 a  σ e τ ∧ ((∃ v, e = .inl v ∧ k = Int32.ofInt 0 ∧ σ' = q_w τ o 0 (.long v.toInt64)) ∨ (e = .inr 4 ∧ k = Int32.ofInt 1 ∧ σ' = τ))
theorem sp_327_en (a0 : Nat) (a1 : Nat) (σ : zSg) (τ1 : zSg) (r1 : Int32) (g1 : p_133 a0 σ (.inl r1) τ1) (h2 : 0 ≤ (Int32.ofInt (0)).toInt ∧ (Int32.ofInt (0)).toInt < (τ1.2.1 a1 : Int)) :
    p_327 (a0) (a1) σ (Int32.ofInt (0)) (q_w τ1 a1 (Int32.ofInt (0)).toNatClampNeg (.long r1.toInt64)) := by
  exact ⟨_, _, g1, Or.inl ⟨_, rfl, rfl, rfl⟩⟩
theorem sp_327_ex4_ (a0 : Nat) (a1 : Nat) (σ : zSg) (τ1 : zSg) (g1 : p_133 a0 σ (.inr 4) τ1) :
    p_327 (a0) (a1) σ (Int32.ofInt (1)) τ1 := by
  exact ⟨_, _, g1, Or.inr (⟨rfl, rfl, rfl⟩)⟩
noncomputable def qP_327 : zPp := fun as σ o σ' => match as with
  | [a0, a1] => ∃ r, o = .inl (some (.int r)) ∧ p_327 (q_r a0) (q_r a1) σ r σ'
  | _ => True
set_option maxRecDepth 100000 in
theorem sp_327 {sx : zX} (S133 : zEe sx 133 1 qP_133) : zEe sx 327 2 qP_327 := by
  refine zfle zJ_327 (sps := [(133, 1, qP_133)]) (fun q hq => by
    simp only [List.mem_cons, List.not_mem_nil, or_false] at hq
    rcases hq with rfl
    · exact S133) (fun as σ hl => ?_)
  match as, hl with
  | [a0, a1], _ =>
  refine ⟨[], 400, ?_, ?_⟩
  · exact fun q hq => absurd hq List.not_mem_nil
  · refine fun o1 τ1 g1 => ?_
    rcases g1 with ⟨r1, rfl, g1⟩ | ⟨rfl, g1⟩
    · refine fun h2 => ?_
      exact ⟨_, rfl, sp_327_en (q_r a0) (q_r a1) σ τ1 r1 g1 (q_inp h2)⟩
    · exact ⟨_, rfl, sp_327_ex4_ (q_r a0) (q_r a1) σ τ1 g1⟩
theorem zJ_328 : zJ3 328 z_m328 z_c328 z_h328 := ⟨rfl, rfl, rfl⟩
noncomputable def p_328 (a : Nat) (a1 : Int32) (o : Nat) (σ : zSg) (k : Int32) (σ' : zSg) : Prop := ∃ e τ, p_135 a a1 σ e τ ∧ ((∃ v, e = .inl v ∧ k = Int32.ofInt 0 ∧ σ' = q_w τ o 0 (.long v.toInt64)) ∨ (e = .inr 0 ∧ k = Int32.ofInt 1 ∧ σ' = τ))
theorem sp_328_en (a0 : Nat) (a1 : Int32) (a2 : Nat) (σ : zSg) (τ1 : zSg) (r1 : Int32) (g1 : p_135 a0 a1 σ (.inl r1) τ1) (h2 : 0 ≤ (Int32.ofInt (0)).toInt ∧ (Int32.ofInt (0)).toInt < (τ1.2.1 a2 : Int)) :
    p_328 (a0) (a1) (a2) σ (Int32.ofInt (0)) (q_w τ1 a2 (Int32.ofInt (0)).toNatClampNeg (.long r1.toInt64)) := by
  exact ⟨_, _, g1, Or.inl ⟨_, rfl, rfl, rfl⟩⟩
theorem sp_328_ex0_ (a0 : Nat) (a1 : Int32) (a2 : Nat) (σ : zSg) (τ1 : zSg) (g1 : p_135 a0 a1 σ (.inr 0) τ1) :
    p_328 (a0) (a1) (a2) σ (Int32.ofInt (1)) τ1 := by
  exact ⟨_, _, g1, Or.inr (⟨rfl, rfl, rfl⟩)⟩
noncomputable def qP_328 : zPp := fun as σ o σ' => match as with
  | [a0, a1, a2] => ∃ r, o = .inl (some (.int r)) ∧ p_328 (q_r a0) (q_i a1) (q_r a2) σ r σ'
  | _ => True
set_option maxRecDepth 100000 in
theorem sp_328 {sx : zX} (S135 : zEe sx 135 2 qP_135) : zEe sx 328 3 qP_328 := by
  refine zfle zJ_328 (sps := [(135, 2, qP_135)]) (fun q hq => by
    simp only [List.mem_cons, List.not_mem_nil, or_false] at hq
    rcases hq with rfl
    · exact S135) (fun as σ hl => ?_)
  match as, hl with
  | [a0, a1, a2], _ =>
  refine ⟨[], 400, ?_, ?_⟩
  · exact fun q hq => absurd hq List.not_mem_nil
  · refine fun o1 τ1 g1 => ?_
    rcases g1 with ⟨r1, rfl, g1⟩ | ⟨rfl, g1⟩
    · refine fun h2 => ?_
      exact ⟨_, rfl, sp_328_en (q_r a0) (q_i a1) (q_r a2) σ τ1 r1 g1 (q_inp h2)⟩
    · exact ⟨_, rfl, sp_328_ex0_ (q_r a0) (q_i a1) (q_r a2) σ τ1 g1⟩
theorem zJ_335 : zJ3 335 z_m335 z_c335 z_h335 := ⟨rfl, rfl, rfl⟩
noncomputable def p_335 (a : Nat) (a1 a2 : Int32) (o : Nat) (σ : zSg) (k : Int32) (σ' : zSg) : Prop := ∃ e τ, p_151 a a1 a2 σ e τ ∧ ((∃ v, e = .inl v ∧ k = Int32.ofInt 0 ∧ σ' = q_w τ o 0 (.long v.toInt64)) ∨ (e = .inr 0 ∧ k = Int32.ofInt 1 ∧ σ' = τ) ∨ (e = .inr 3 ∧ k = Int32.ofInt 2 ∧ σ' = τ))
theorem sp_335_en (a0 : Nat) (a1 : Int32) (a2 : Int32) (a3 : Nat) (σ : zSg) (τ1 : zSg) (r1 : Int32) (g1 : p_151 a0 a1 a2 σ (.inl r1) τ1) (h2 : 0 ≤ (Int32.ofInt (0)).toInt ∧ (Int32.ofInt (0)).toInt < (τ1.2.1 a3 : Int)) :
    p_335 (a0) (a1) (a2) (a3) σ (Int32.ofInt (0)) (q_w τ1 a3 (Int32.ofInt (0)).toNatClampNeg (.long r1.toInt64)) := by
  exact ⟨_, _, g1, Or.inl ⟨_, rfl, rfl, rfl⟩⟩
theorem sp_335_ex0_ (a0 : Nat) (a1 : Int32) (a2 : Int32) (a3 : Nat) (σ : zSg) (τ1 : zSg) (g1 : p_151 a0 a1 a2 σ (.inr 0) τ1) :
    p_335 (a0) (a1) (a2) (a3) σ (Int32.ofInt (1)) τ1 := by
  exact ⟨_, _, g1, Or.inr (Or.inl (⟨rfl, rfl, rfl⟩))⟩
theorem sp_335_ex3_ (a0 : Nat) (a1 : Int32) (a2 : Int32) (a3 : Nat) (σ : zSg) (τ1 : zSg) (g1 : p_151 a0 a1 a2 σ (.inr 3) τ1) :
    p_335 (a0) (a1) (a2) (a3) σ (Int32.ofInt (2)) τ1 := by
  exact ⟨_, _, g1, Or.inr (Or.inr (⟨rfl, rfl, rfl⟩))⟩
noncomputable def qP_335 : zPp := fun as σ o σ' => match as with
  | [a0, a1, a2, a3] => ∃ r, o = .inl (some (.int r)) ∧ p_335 (q_r a0) (q_i a1) (q_i a2) (q_r a3) σ r σ'
  | _ => True
set_option maxRecDepth 100000 in
theorem sp_335 {sx : zX} (S151 : zEe sx 151 3 qP_151) : zEe sx 335 4 qP_335 := by
  refine zfle zJ_335 (sps := [(151, 3, qP_151)]) (fun q hq => by
    simp only [List.mem_cons, List.not_mem_nil, or_false] at hq
    rcases hq with rfl
    · exact S151) (fun as σ hl => ?_)
  match as, hl with
  | [a0, a1, a2, a3], _ =>
  refine ⟨[], 400, ?_, ?_⟩
  · exact fun q hq => absurd hq List.not_mem_nil
  · refine fun o1 τ1 g1 => ?_
    rcases g1 with ⟨r1, rfl, g1⟩ | ⟨rfl, g1⟩ | ⟨rfl, g1⟩
    · refine fun h2 => ?_
      exact ⟨_, rfl, sp_335_en (q_r a0) (q_i a1) (q_i a2) (q_r a3) σ τ1 r1 g1 (q_inp h2)⟩
    · exact ⟨_, rfl, sp_335_ex0_ (q_r a0) (q_i a1) (q_i a2) (q_r a3) σ τ1 g1⟩
    · exact ⟨_, rfl, sp_335_ex3_ (q_r a0) (q_i a1) (q_i a2) (q_r a3) σ τ1 g1⟩
theorem zJ_336 : zJ3 336 z_m336 z_c336 z_h336 := ⟨rfl, rfl, rfl⟩
noncomputable def p_336 (a : Nat) (a1 : Int32) (o : Nat) (σ : zSg) (k : Int32) (σ' : zSg) : Prop := ∃ e τ, p_152 a a1 σ e τ ∧ ((∃ v, e = .inl v ∧ k = Int32.ofInt 0 ∧ σ' = q_w τ o 0 (.long v.toInt64)) ∨ (e = .inr 0 ∧ k = Int32.ofInt 1 ∧ σ' = τ))
theorem sp_336_en (a0 : Nat) (a1 : Int32) (a2 : Nat) (σ : zSg) (τ1 : zSg) (r1 : Int32) (g1 : p_152 a0 a1 σ (.inl r1) τ1) (h2 : 0 ≤ (Int32.ofInt (0)).toInt ∧ (Int32.ofInt (0)).toInt < (τ1.2.1 a2 : Int)) :
    p_336 (a0) (a1) (a2) σ (Int32.ofInt (0)) (q_w τ1 a2 (Int32.ofInt (0)).toNatClampNeg (.long r1.toInt64)) := by
  exact ⟨_, _, g1, Or.inl ⟨_, rfl, rfl, rfl⟩⟩
theorem sp_336_ex0_ (a0 : Nat) (a1 : Int32) (a2 : Nat) (σ : zSg) (τ1 : zSg) (g1 : p_152 a0 a1 σ (.inr 0) τ1) :
    p_336 (a0) (a1) (a2) σ (Int32.ofInt (1)) τ1 := by
  exact ⟨_, _, g1, Or.inr (⟨rfl, rfl, rfl⟩)⟩
noncomputable def qP_336 : zPp := fun as σ o σ' => match as with
  | [a0, a1, a2] => ∃ r, o = .inl (some (.int r)) ∧ p_336 (q_r a0) (q_i a1) (q_r a2) σ r σ'
  | _ => True
set_option maxRecDepth 100000 in
theorem sp_336 {sx : zX} (S152 : zEe sx 152 2 qP_152) : zEe sx 336 3 qP_336 := by
  refine zfle zJ_336 (sps := [(152, 2, qP_152)]) (fun q hq => by
    simp only [List.mem_cons, List.not_mem_nil, or_false] at hq
    rcases hq with rfl
    · exact S152) (fun as σ hl => ?_)
  match as, hl with
  | [a0, a1, a2], _ =>
  refine ⟨[], 400, ?_, ?_⟩
  · exact fun q hq => absurd hq List.not_mem_nil
  · refine fun o1 τ1 g1 => ?_
    rcases g1 with ⟨r1, rfl, g1⟩ | ⟨rfl, g1⟩
    · refine fun h2 => ?_
      exact ⟨_, rfl, sp_336_en (q_r a0) (q_i a1) (q_r a2) σ τ1 r1 g1 (q_inp h2)⟩
    · exact ⟨_, rfl, sp_336_ex0_ (q_r a0) (q_i a1) (q_r a2) σ τ1 g1⟩
theorem zJ_337 : zJ3 337 z_m337 z_c337 z_h337 := ⟨rfl, rfl, rfl⟩
noncomputable def p_337 (a : Nat) (a1 : Int32) (o : Nat) (σ : zSg) (k : Int32) (σ' : zSg) : Prop := ∃ e τ, p_153 a a1 σ e τ ∧ ((∃ v, e = .inl v ∧ k = Int32.ofInt 0 ∧ σ' = q_w τ o 0 (.long v.toInt64)) ∨ (e = .inr 0 ∧ k = Int32.ofInt 1 ∧ σ' = τ))
theorem sp_337_en (a0 : Nat) (a1 : Int32) (a2 : Nat) (σ : zSg) (τ1 : zSg) (r1 : Int32) (g1 : p_153 a0 a1 σ (.inl r1) τ1) (h2 : 0 ≤ (Int32.ofInt (0)).toInt ∧ (Int32.ofInt (0)).toInt < (τ1.2.1 a2 : Int)) :
    p_337 (a0) (a1) (a2) σ (Int32.ofInt (0)) (q_w τ1 a2 (Int32.ofInt (0)).toNatClampNeg (.long r1.toInt64)) := by
  exact ⟨_, _, g1, Or.inl ⟨_, rfl, rfl, rfl⟩⟩
theorem sp_337_ex0_ (a0 : Nat) (a1 : Int32) (a2 : Nat) (σ : zSg) (τ1 : zSg) (g1 : p_153 a0 a1 σ (.inr 0) τ1) :
    p_337 (a0) (a1) (a2) σ (Int32.ofInt (1)) τ1 := by
  exact ⟨_, _, g1, Or.inr (⟨rfl, rfl, rfl⟩)⟩
noncomputable def qP_337 : zPp := fun as σ o σ' => match as with
  | [a0, a1, a2] => ∃ r, o = .inl (some (.int r)) ∧ p_337 (q_r a0) (q_i a1) (q_r a2) σ r σ'
  | _ => True
set_option maxRecDepth 100000 in
theorem sp_337 {sx : zX} (S153 : zEe sx 153 2 qP_153) : zEe sx 337 3 qP_337 := by
  refine zfle zJ_337 (sps := [(153, 2, qP_153)]) (fun q hq => by
    simp only [List.mem_cons, List.not_mem_nil, or_false] at hq
    rcases hq with rfl
    · exact S153) (fun as σ hl => ?_)
  match as, hl with
  | [a0, a1, a2], _ =>
  refine ⟨[], 400, ?_, ?_⟩
  · exact fun q hq => absurd hq List.not_mem_nil
  · refine fun o1 τ1 g1 => ?_
    rcases g1 with ⟨r1, rfl, g1⟩ | ⟨rfl, g1⟩
    · refine fun h2 => ?_
      exact ⟨_, rfl, sp_337_en (q_r a0) (q_i a1) (q_r a2) σ τ1 r1 g1 (q_inp h2)⟩
    · exact ⟨_, rfl, sp_337_ex0_ (q_r a0) (q_i a1) (q_r a2) σ τ1 g1⟩
theorem zJ_338 : zJ3 338 z_m338 z_c338 z_h338 := ⟨rfl, rfl, rfl⟩
noncomputable def p_338 (a : Nat) (a1 : Int32) (o : Nat) (σ : zSg) (k : Int32) (σ' : zSg) : Prop := ∃ e τ, p_154 a a1 σ e τ ∧ ((∃ v, e = .inl v ∧ k = Int32.ofInt 0 ∧ σ' = q_w τ o 0 (.long v.toInt64)) ∨ (e = .inr 2 ∧ k = Int32.ofInt 1 ∧ σ' = τ))
theorem sp_338_en (a0 : Nat) (a1 : Int32) (a2 : Nat) (σ : zSg) (τ1 : zSg) (r1 : Int32) (g1 : p_154 a0 a1 σ (.inl r1) τ1) (h2 : 0 ≤ (Int32.ofInt (0)).toInt ∧ (Int32.ofInt (0)).toInt < (τ1.2.1 a2 : Int)) :
    p_338 (a0) (a1) (a2) σ (Int32.ofInt (0)) (q_w τ1 a2 (Int32.ofInt (0)).toNatClampNeg (.long r1.toInt64)) := by
  exact ⟨_, _, g1, Or.inl ⟨_, rfl, rfl, rfl⟩⟩
theorem sp_338_ex2_ (a0 : Nat) (a1 : Int32) (a2 : Nat) (σ : zSg) (τ1 : zSg) (g1 : p_154 a0 a1 σ (.inr 2) τ1) :
    p_338 (a0) (a1) (a2) σ (Int32.ofInt (1)) τ1 := by
  exact ⟨_, _, g1, Or.inr (⟨rfl, rfl, rfl⟩)⟩
noncomputable def qP_338 : zPp := fun as σ o σ' => match as with
  | [a0, a1, a2] => ∃ r, o = .inl (some (.int r)) ∧ p_338 (q_r a0) (q_i a1) (q_r a2) σ r σ'
  | _ => True
set_option maxRecDepth 100000 in
theorem sp_338 {sx : zX} (S154 : zEe sx 154 2 qP_154) : zEe sx 338 3 qP_338 := by
  refine zfle zJ_338 (sps := [(154, 2, qP_154)]) (fun q hq => by
    simp only [List.mem_cons, List.not_mem_nil, or_false] at hq
    rcases hq with rfl
    · exact S154) (fun as σ hl => ?_)
  match as, hl with
  | [a0, a1, a2], _ =>
  refine ⟨[], 400, ?_, ?_⟩
  · exact fun q hq => absurd hq List.not_mem_nil
  · refine fun o1 τ1 g1 => ?_
    rcases g1 with ⟨r1, rfl, g1⟩ | ⟨rfl, g1⟩
    · refine fun h2 => ?_
      exact ⟨_, rfl, sp_338_en (q_r a0) (q_i a1) (q_r a2) σ τ1 r1 g1 (q_inp h2)⟩
    · exact ⟨_, rfl, sp_338_ex2_ (q_r a0) (q_i a1) (q_r a2) σ τ1 g1⟩
theorem zJ_339 : zJ3 339 z_m339 z_c339 z_h339 := ⟨rfl, rfl, rfl⟩
noncomputable def p_339 (a : Nat) (a1 a2 : Int32) (o : Nat) (σ : zSg) (k : Int32) (σ' : zSg) : Prop := ∃ e τ, p_157 a a1 a2 σ e τ ∧ ((∃ v, e = .inl v ∧ k = Int32.ofInt 0 ∧ σ' = q_w τ o 0 (.long v.toInt64)) ∨ (e = .inr 0 ∧ k = Int32.ofInt 1 ∧ σ' = τ))
theorem sp_339_en (a0 : Nat) (a1 : Int32) (a2 : Int32) (a3 : Nat) (σ : zSg) (τ1 : zSg) (r1 : Int32) (g1 : p_157 a0 a1 a2 σ (.inl r1) τ1) (h2 : 0 ≤ (Int32.ofInt (0)).toInt ∧ (Int32.ofInt (0)).toInt < (τ1.2.1 a3 : Int)) :
    p_339 (a0) (a1) (a2) (a3) σ (Int32.ofInt (0)) (q_w τ1 a3 (Int32.ofInt (0)).toNatClampNeg (.long r1.toInt64)) := by
  exact ⟨_, _, g1, Or.inl ⟨_, rfl, rfl, rfl⟩⟩
theorem sp_339_ex0_ (a0 : Nat) (a1 : Int32) (a2 : Int32) (a3 : Nat) (σ : zSg) (τ1 : zSg) (g1 : p_157 a0 a1 a2 σ (.inr 0) τ1) :
    p_339 (a0) (a1) (a2) (a3) σ (Int32.ofInt (1)) τ1 := by
  exact ⟨_, _, g1, Or.inr (⟨rfl, rfl, rfl⟩)⟩
noncomputable def qP_339 : zPp := fun as σ o σ' => match as with
  | [a0, a1, a2, a3] => ∃ r, o = .inl (some (.int r)) ∧ p_339 (q_r a0) (q_i a1) (q_i a2) (q_r a3) σ r σ'
  | _ => True
set_option maxRecDepth 100000 in
theorem sp_339 {sx : zX} (S157 : zEe sx 157 3 qP_157) : zEe sx 339 4 qP_339 := by
  refine zfle zJ_339 (sps := [(157, 3, qP_157)]) (fun q hq => by
    simp only [List.mem_cons, List.not_mem_nil, or_false] at hq
    rcases hq with rfl
    · exact S157) (fun as σ hl => ?_)
  match as, hl with
  | [a0, a1, a2, a3], _ =>
  refine ⟨[], 400, ?_, ?_⟩
  · exact fun q hq => absurd hq List.not_mem_nil
  · refine fun o1 τ1 g1 => ?_
    rcases g1 with ⟨r1, rfl, g1⟩ | ⟨rfl, g1⟩
    · refine fun h2 => ?_
      exact ⟨_, rfl, sp_339_en (q_r a0) (q_i a1) (q_i a2) (q_r a3) σ τ1 r1 g1 (q_inp h2)⟩
    · exact ⟨_, rfl, sp_339_ex0_ (q_r a0) (q_i a1) (q_i a2) (q_r a3) σ τ1 g1⟩
noncomputable def p_121w (x : Nat) (σ : zSg) (e : Int32 ⊕ Nat) (σ' : zSg) : Prop := p_121 x σ e σ' ∧ ∀ t r nw me C K0 K1 K2 B b E, cLw σ x t r nw me C K0 K1 K2 B b E → e = .inr 0 → σ'.2 = σ.2 ∧ σ'.1 nw 5 = σ.1 nw 5 ∧ σ'.1 me 2 = σ.1 me 2
theorem sp_121w_et (a0 : Nat) (σ : zSg) (τ1 : zSg) (r1 : Int32) (τ3 : zSg) (r3 : Nat) (τ4 : zSg) (g1 : p_47 (q_r (σ.1 a0 1)) (q_r (σ.1 a0 0)) σ r1 τ1) (h2 : (q_i ((q_w (q_w τ1 a0 7 (.int r1)) (q_r ((q_w τ1 a0 7 (.int r1)).1 a0 0)) 1 (.int (Int32.ofInt (0)))).1 a0 7)).toInt = (-1 : Int)) (g3 : p_48 (q_r ((q_w (q_w τ1 a0 7 (.int r1)) (q_r ((q_w τ1 a0 7 (.int r1)).1 a0 0)) 1 (.int (Int32.ofInt (0)))).1 a0 1)) (q_w (q_w τ1 a0 7 (.int r1)) (q_r ((q_w τ1 a0 7 (.int r1)).1 a0 0)) 1 (.int (Int32.ofInt (0)))) r3 τ3) (g4 : p_64 (q_r ((q_w τ3 (q_r (τ3.1 a0 2)) 5 (.ref r3)).1 a0 5)) (q_w τ3 (q_r (τ3.1 a0 2)) 5 (.ref r3)) τ4) :
    p_121w (a0) σ (.inl (q_i (τ4.1 r3 0))) τ4 := by
  exact ⟨sp_121_et _ _ _ _ _ _ _ g1 h2 g3 g4, fun _ _ _ _ _ _ _ _ _ _ _ _ h => (by cases h)⟩
theorem sp_121w_ef (a0 : Nat) (σ : zSg) (τ1 : zSg) (r1 : Int32) (g1 : p_47 (q_r (σ.1 a0 1)) (q_r (σ.1 a0 0)) σ r1 τ1) (h2 : (q_i ((q_w (q_w τ1 a0 7 (.int r1)) (q_r ((q_w τ1 a0 7 (.int r1)).1 a0 0)) 1 (.int (Int32.ofInt (0)))).1 a0 7)).toInt ≠ (-1 : Int)) :
    p_121w (a0) σ (.inr 0) (q_w (q_w τ1 a0 7 (.int r1)) (q_r ((q_w τ1 a0 7 (.int r1)).1 a0 0)) 1 (.int (Int32.ofInt (0)))) := by
  refine ⟨sp_121_ef _ _ _ _ g1 h2, ?_⟩
  intro t r nw me C K0 K1 K2 B b E H
  obtain ⟨x0, x1, x2, x5, t0, hA, ⟨l0, l1, l2⟩, ⟨n0, n1, n2, n3, n4, n5, n6, n7, n8⟩, ⟨d1, d2, d3, d4, d5, d6, d7, d8⟩, ⟨w1, w2, w3, w4, w5, w6, w7⟩, ⟨v1, v2, v3, v4, v5, v6⟩⟩ := H
  have qt : q_r (σ.1 a0 0) = t := by rw [x0]; rfl
  have qr : q_r (σ.1 a0 1) = r := by rw [x1]; rfl
  rw [qt, qr] at g1
  obtain ⟨hH, R, hR, hT⟩ := g1 C K0 K1 K2 b E hA
  have hN : τ1.2.2 = σ.2.2 := by rw [hH.1]
  have hx : ∀ k, τ1.1 a0 k = σ.1 a0 k := fun k => hH.2 a0 k (fun q => d1 q.1) (fun q => d2 q.1) d5 d6 d7 d8
  have hn : ∀ k, τ1.1 nw k = σ.1 nw k := fun k => hH.2 nw k (fun q => w1 q.1) (fun q => w2 q.1) w4 w5 w6 w7
  have hm : ∀ k, τ1.1 me k = σ.1 me k := fun k => hH.2 me k (fun q => v1 q.1) (fun q => v2 q.1) v3 v4 v5 v6
  have qt2 : q_r ((q_w τ1 a0 7 (.int r1)).1 a0 0) = t := by rw [q_w_ne (fun _ q => by omega), hx, x0]; rfl
  simp only [qt2] at *
  have e7 : (q_w (q_w τ1 a0 7 (.int r1)) t 1 (.int (Int32.ofInt 0))).1 a0 7 = .int r1 := by rw [q_w_ne (fun q _ => d1 q), q_w_at]
  intro _
  refine ⟨hH.1, ?_, ?_⟩
  · rw [q_w_ne (fun q _ => w1 q), q_w_ne (fun q _ => d3 q.symm)]; exact hn 5
  · rw [q_w_ne (fun q _ => v1 q), q_w_ne (fun q _ => d4 q.symm)]; exact hm 2
noncomputable def qP_121w : zPp := fun as σ o σ' => match as with
  | [a0] => (∃ r, o = .inl (some (.int r)) ∧ p_121w (q_r a0) σ (.inl r) σ') ∨ (o = .inr 0 ∧ p_121w (q_r a0) σ (.inr 0) σ')
  | _ => True
set_option maxRecDepth 100000 in
theorem sp_121w {sx : zX} (S47 : zEe sx 47 2 qP_47) (S48 : zEe sx 48 1 qP_48) (S64 : zEe sx 64 1 qP_64) : zEe sx 121 1 qP_121w := by
  refine zfle zJ_121 (sps := [(47, 2, qP_47), (48, 1, qP_48), (64, 1, qP_64)]) (fun q hq => by
    simp only [List.mem_cons, List.not_mem_nil, or_false] at hq
    rcases hq with rfl | rfl | rfl
    · exact S47
    · exact S48
    · exact S64) (fun as σ hl => ?_)
  match as, hl with
  | [a0], _ =>
  refine ⟨[], 400, ?_, ?_⟩
  · exact fun q hq => absurd hq List.not_mem_nil
  · refine fun o1 τ1 g1 => ?_
    obtain ⟨r1, rfl, g1⟩ := g1
    refine And.intro (fun h2 => ?_) (fun h2 => ?_)
    · refine fun o3 τ3 g3 => ?_
      obtain ⟨r3, rfl, g3⟩ := g3
      refine fun o4 τ4 g4 => ?_
      obtain ⟨rfl, g4⟩ := g4
      exact Or.inl ⟨_, rfl, sp_121w_et (q_r a0) σ τ1 r1 τ3 r3 τ4 g1 (cm0t h2) g3 g4⟩
    · exact Or.inr (⟨rfl, sp_121w_ef (q_r a0) σ τ1 r1 g1 (cm0f h2)⟩)
noncomputable def p_316w (a : Nat) (o : Nat) (σ : zSg) (k : Int32) (σ' : zSg) : Prop := ∃ e τ, p_121w a σ e τ ∧ ((∃ v, e = .inl v ∧ k = Int32.ofInt 0 ∧ σ' = q_w τ o 0 (.long v.toInt64)) ∨ (e = .inr 0 ∧ k = Int32.ofInt 1 ∧ σ' = τ))
theorem sp_316w_en (a0 : Nat) (a1 : Nat) (σ : zSg) (τ1 : zSg) (r1 : Int32) (g1 : p_121w a0 σ (.inl r1) τ1) (h2 : 0 ≤ (Int32.ofInt (0)).toInt ∧ (Int32.ofInt (0)).toInt < (τ1.2.1 a1 : Int)) :
    p_316w (a0) (a1) σ (Int32.ofInt (0)) (q_w τ1 a1 (Int32.ofInt (0)).toNatClampNeg (.long r1.toInt64)) := by
  exact ⟨_, _, g1, Or.inl ⟨_, rfl, rfl, rfl⟩⟩
theorem sp_316w_ex0_ (a0 : Nat) (a1 : Nat) (σ : zSg) (τ1 : zSg) (g1 : p_121w a0 σ (.inr 0) τ1) :
    p_316w (a0) (a1) σ (Int32.ofInt (1)) τ1 := by
  exact ⟨_, _, g1, Or.inr ⟨rfl, rfl, rfl⟩⟩
noncomputable def qP_316w : zPp := fun as σ o σ' => match as with
  | [a0, a1] => ∃ r, o = .inl (some (.int r)) ∧ p_316w (q_r a0) (q_r a1) σ r σ'
  | _ => True
set_option maxRecDepth 100000 in
theorem sp_316w {sx : zX} (S121 : zEe sx 121 1 qP_121w) : zEe sx 316 2 qP_316w := by
  refine zfle zJ_316 (sps := [(121, 1, qP_121w)]) (fun q hq => by
    simp only [List.mem_cons, List.not_mem_nil, or_false] at hq
    rcases hq with rfl
    · exact S121) (fun as σ hl => ?_)
  match as, hl with
  | [a0, a1], _ =>
  refine ⟨[], 400, ?_, ?_⟩
  · exact fun q hq => absurd hq List.not_mem_nil
  · refine fun o1 τ1 g1 => ?_
    rcases g1 with ⟨r1, rfl, g1⟩ | ⟨rfl, g1⟩
    · refine fun h2 => ?_
      exact ⟨_, rfl, sp_316w_en (q_r a0) (q_r a1) σ τ1 r1 g1 (q_inp h2)⟩
    · exact ⟨_, rfl, sp_316w_ex0_ (q_r a0) (q_r a1) σ τ1 g1⟩
theorem zJ_122 : zJ3 122 z_m122 z_c122 z_h122 := ⟨rfl, rfl, rfl⟩
noncomputable def p_122 (a : Nat) (σ : zSg) (r : Int32) (σ' : zSg) : Prop := σ' = σ ∧ r = q_i (σ.1 a 7)
theorem sp_122_e (a0 : Nat) (σ : zSg)  :
    p_122 (a0) σ (q_i (σ.1 a0 7)) σ := by
  exact ⟨rfl, rfl⟩
noncomputable def qP_122 : zPp := fun as σ o σ' => match as with
  | [a0] => ∃ r, o = .inl (some (.int r)) ∧ p_122 (q_r a0) σ r σ'
  | _ => True
set_option maxRecDepth 100000 in
theorem sp_122 {sx : zX}  : zEe sx 122 1 qP_122 := by
  refine zfle zJ_122 (sps := []) (fun q hq => absurd hq List.not_mem_nil) (fun as σ hl => ?_)
  match as, hl with
  | [a0], _ =>
  refine ⟨[], 400, ?_, ?_⟩
  · exact fun q hq => absurd hq List.not_mem_nil
  · exact ⟨_, rfl, sp_122_e (q_r a0) σ ⟩
theorem zJ_209 : zJ3 209 z_m209 z_c209 z_h209 := ⟨rfl, rfl, rfl⟩
noncomputable def p_209 (a : Nat) (σ : zSg) (r : Int32) (σ' : zSg) : Prop := σ' = q_w σ a 0 (.int (Int32.ofInt 0)) ∧ r = q_i (σ.1 a 14)
theorem sp_209_e (a0 : Nat) (σ : zSg)  :
    p_209 (a0) σ (q_i ((q_w σ a0 0 (.int (Int32.ofInt (0)))).1 a0 14)) (q_w σ a0 0 (.int (Int32.ofInt (0)))) := by
  exact ⟨rfl, by rw [q_w_ne (fun _ e => by omega)]⟩
noncomputable def qP_209 : zPp := fun as σ o σ' => match as with
  | [a0] => ∃ r, o = .inl (some (.int r)) ∧ p_209 (q_r a0) σ r σ'
  | _ => True
set_option maxRecDepth 100000 in
theorem sp_209 {sx : zX}  : zEe sx 209 1 qP_209 := by
  refine zfle zJ_209 (sps := []) (fun q hq => absurd hq List.not_mem_nil) (fun as σ hl => ?_)
  match as, hl with
  | [a0], _ =>
  refine ⟨[], 400, ?_, ?_⟩
  · exact fun q hq => absurd hq List.not_mem_nil
  · exact ⟨_, rfl, sp_209_e (q_r a0) σ ⟩
