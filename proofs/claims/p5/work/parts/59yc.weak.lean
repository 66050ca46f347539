/-! weak words on the deed's readers; printed with wip/gen/gen_t6.py -/
theorem zJ_184 : zJ3 184 z_m184 z_c184 z_h184 := ⟨rfl, rfl, rfl⟩
def p_184 (_ : Nat) (_ : zSg) (_ : Int32) (_ : zSg) : Prop := True
theorem sp_184_e (a0 : Nat) (σ : zSg) (h1 : 0 ≤ (Int32.ofInt (0)).toInt ∧ (Int32.ofInt (0)).toInt < (σ.2.1 (q_r (σ.1 a0 1)) : Int)) :
    p_184 (a0) σ (q_i (σ.1 (q_r (σ.1 a0 1)) (Int32.ofInt (0)).toNatClampNeg)) σ := by
  trivial
def qP_184 : zPp := fun as σ o σ' => match as with
  | [a0] => ∃ r, o = .inl (some (.int r)) ∧ p_184 (q_r a0) σ r σ'
  | _ => True
set_option maxRecDepth 100000 in
theorem sp_184 {sx : zX}  : zEe sx 184 1 qP_184 := by
  refine zfle zJ_184 (sps := []) (fun q hq => absurd hq List.not_mem_nil) (fun as σ hl => ?_)
  match as, hl with
  | [a0], _ =>
  refine ⟨[], 400, ?_, ?_⟩
  · exact fun q hq => absurd hq List.not_mem_nil
  · refine fun h1 => ?_
    exact ⟨_, rfl, sp_184_e (q_r a0) σ (q_inp h1)⟩
theorem zJ_185 : zJ3 185 z_m185 z_c185 z_h185 := ⟨rfl, rfl, rfl⟩
def p_185 (_ : Nat) (_ : zSg) (_ : Int32) (_ : zSg) : Prop := True
theorem sp_185_e (a0 : Nat) (σ : zSg) (h1 : 0 ≤ (Int32.ofInt (1)).toInt ∧ (Int32.ofInt (1)).toInt < (σ.2.1 (q_r (σ.1 a0 1)) : Int)) :
    p_185 (a0) σ (q_i (σ.1 (q_r (σ.1 a0 1)) (Int32.ofInt (1)).toNatClampNeg)) σ := by
  trivial
def qP_185 : zPp := fun as σ o σ' => match as with
  | [a0] => ∃ r, o = .inl (some (.int r)) ∧ p_185 (q_r a0) σ r σ'
  | _ => True
set_option maxRecDepth 100000 in
theorem sp_185 {sx : zX}  : zEe sx 185 1 qP_185 := by
  refine zfle zJ_185 (sps := []) (fun q hq => absurd hq List.not_mem_nil) (fun as σ hl => ?_)
  match as, hl with
  | [a0], _ =>
  refine ⟨[], 400, ?_, ?_⟩
  · exact fun q hq => absurd hq List.not_mem_nil
  · refine fun h1 => ?_
    exact ⟨_, rfl, sp_185_e (q_r a0) σ (q_inp h1)⟩
theorem zJ_186 : zJ3 186 z_m186 z_c186 z_h186 := ⟨rfl, rfl, rfl⟩
def p_186 (_ : Nat) (_ : Int32) (_ : zSg) (_ : Int32) (_ : zSg) : Prop := True
theorem sp_186_e (a0 : Nat) (a1 : Int32) (σ : zSg) (h1 : 0 ≤ ((Int32.ofInt (16)) + a1).toInt ∧ ((Int32.ofInt (16)) + a1).toInt < (σ.2.1 (q_r (σ.1 a0 1)) : Int)) :
    p_186 (a0) (a1) σ (q_i (σ.1 (q_r (σ.1 a0 1)) ((Int32.ofInt (16)) + a1).toNatClampNeg)) σ := by
  trivial
def qP_186 : zPp := fun as σ o σ' => match as with
  | [a0, a1] => ∃ r, o = .inl (some (.int r)) ∧ p_186 (q_r a0) (q_i a1) σ r σ'
  | _ => True
set_option maxRecDepth 100000 in
theorem sp_186 {sx : zX}  : zEe sx 186 2 qP_186 := by
  refine zfle zJ_186 (sps := []) (fun q hq => absurd hq List.not_mem_nil) (fun as σ hl => ?_)
  match as, hl with
  | [a0, a1], _ =>
  refine ⟨[], 400, ?_, ?_⟩
  · exact fun q hq => absurd hq List.not_mem_nil
  · refine fun h1 => ?_
    exact ⟨_, rfl, sp_186_e (q_r a0) (q_i a1) σ (q_inp h1)⟩
def p_187 (_ : Int32) (_ : zSg) (_ : Int32) (_ : zSg) : Prop := True
theorem sp_187_e (a0 : Int32) (σ : zSg)  :
    p_187 (a0) σ ((a0 + (Int32.ofInt (1))) - (a0 + (Int32.ofInt (1))) / (Int32.ofInt (24)) * (Int32.ofInt (24))) σ := by
  trivial
def qP_187 : zPp := fun as σ o σ' => match as with
  | [a0] => ∃ r, o = .inl (some (.int r)) ∧ p_187 (q_i a0) σ r σ'
  | _ => True
set_option maxRecDepth 100000 in
theorem sp_187 {sx : zX}  : zEe sx 187 1 qP_187 := by
  refine zfle zJ_187 (sps := []) (fun q hq => absurd hq List.not_mem_nil) (fun as σ hl => ?_)
  match as, hl with
  | [a0], _ =>
  refine ⟨[], 400, ?_, ?_⟩
  · exact fun q hq => absurd hq List.not_mem_nil
  · exact ⟨_, rfl, sp_187_e (q_i a0) σ ⟩
def p_178 (_ : Int32) (_ : Int32) (_ : zSg) (_ : Int32) (_ : zSg) : Prop := True
theorem sp_178_et (a0 : Int32) (a1 : Int32) (σ : zSg) (h1 : ((a0 >>> (a1 &&& 31)) &&& (Int32.ofInt (1))).toInt ≠ (1 : Int)) :
    p_178 (a0) (a1) σ (Int32.ofInt (0)) σ := by
  trivial
theorem sp_178_ef (a0 : Int32) (a1 : Int32) (σ : zSg) (h1 : ((a0 >>> (a1 &&& 31)) &&& (Int32.ofInt (1))).toInt = (1 : Int)) :
    p_178 (a0) (a1) σ (Int32.ofInt (1)) σ := by
  trivial
def qP_178 : zPp := fun as σ o σ' => match as with
  | [a0, a1] => ∃ r, o = .inl (some (.int r)) ∧ p_178 (q_i a0) (q_i a1) σ r σ'
  | _ => True
set_option maxRecDepth 100000 in
theorem sp_178 {sx : zX}  : zEe sx 178 2 qP_178 := by
  refine zfle zJ_178 (sps := []) (fun q hq => absurd hq List.not_mem_nil) (fun as σ hl => ?_)
  match as, hl with
  | [a0, a1], _ =>
  refine ⟨[], 400, ?_, ?_⟩
  · exact fun q hq => absurd hq List.not_mem_nil
  · refine And.intro (fun h1 => ?_) (fun h1 => ?_)
    · exact ⟨_, rfl, sp_178_et (q_i a0) (q_i a1) σ (cm1t h1)⟩
    · exact ⟨_, rfl, sp_178_ef (q_i a0) (q_i a1) σ (cm1f h1)⟩
theorem zJ_189 : zJ3 189 z_m189 z_c189 z_h189 := ⟨rfl, rfl, rfl⟩
def p_189 (_ : Int32) (_ : Int32) (_ : zSg) (_ : Int32) (_ : zSg) : Prop := True
theorem sp_189_e (a0 : Int32) (a1 : Int32) (σ : zSg)  :
    p_189 (a0) (a1) σ (((Int32.ofInt (40)) + ((Int32.ofInt (4)) * a0)) + a1) σ := by
  trivial
def qP_189 : zPp := fun as σ o σ' => match as with
  | [a0, a1] => ∃ r, o = .inl (some (.int r)) ∧ p_189 (q_i a0) (q_i a1) σ r σ'
  | _ => True
set_option maxRecDepth 100000 in
theorem sp_189 {sx : zX}  : zEe sx 189 2 qP_189 := by
  refine zfle zJ_189 (sps := []) (fun q hq => absurd hq List.not_mem_nil) (fun as σ hl => ?_)
  match as, hl with
  | [a0, a1], _ =>
  refine ⟨[], 400, ?_, ?_⟩
  · exact fun q hq => absurd hq List.not_mem_nil
  · exact ⟨_, rfl, sp_189_e (q_i a0) (q_i a1) σ ⟩
theorem zJ_192 : zJ3 192 z_m192 z_c192 z_h192 := ⟨rfl, rfl, rfl⟩
def p_192 (_ : Int32) (_ : Int32) (_ : zSg) (_ : Int32) (_ : zSg) : Prop := True
theorem sp_192_e (a0 : Int32) (a1 : Int32) (σ : zSg)  :
    p_192 (a0) (a1) σ (((Int32.ofInt (64)) + ((Int32.ofInt (3)) * a0)) + a1) σ := by
  trivial
def qP_192 : zPp := fun as σ o σ' => match as with
  | [a0, a1] => ∃ r, o = .inl (some (.int r)) ∧ p_192 (q_i a0) (q_i a1) σ r σ'
  | _ => True
set_option maxRecDepth 100000 in
theorem sp_192 {sx : zX}  : zEe sx 192 2 qP_192 := by
  refine zfle zJ_192 (sps := []) (fun q hq => absurd hq List.not_mem_nil) (fun as σ hl => ?_)
  match as, hl with
  | [a0, a1], _ =>
  refine ⟨[], 400, ?_, ?_⟩
  · exact fun q hq => absurd hq List.not_mem_nil
  · exact ⟨_, rfl, sp_192_e (q_i a0) (q_i a1) σ ⟩
theorem zJ_208 : zJ3 208 z_m208 z_c208 z_h208 := ⟨rfl, rfl, rfl⟩
def p_208 (_ : Nat) (_ : Nat) (_ : Int32) (_ : Int32) (_ : zSg) (_ : Int32) (_ : zSg) : Prop := True
theorem sp_208_et (a0 : Nat) (a1 : Nat) (a2 : Int32) (a3 : Int32) (σ : zSg) (τ1 : zSg) (τ2 : zSg) (r2 : Int32) (g1 : p_203 a0 σ τ1) (g2 : p_204 a0 a1 τ1 r2 τ2) (h3 : r2.toInt = (0 : Int)) :
    p_208 (a0) (a1) (a2) (a3) σ (Int32.ofInt (-1)) τ2 := by
  trivial
theorem sp_208_ef (a0 : Nat) (a1 : Nat) (a2 : Int32) (a3 : Int32) (σ : zSg) (τ1 : zSg) (τ2 : zSg) (r2 : Int32) (τ4 : zSg) (r4 : Int32) (g1 : p_203 a0 σ τ1) (g2 : p_204 a0 a1 τ1 r2 τ2) (h3 : r2.toInt ≠ (0 : Int)) (g4 : p_207 a0 a2 a3 τ2 r4 τ4) :
    p_208 (a0) (a1) (a2) (a3) σ r4 τ4 := by
  trivial
def qP_208 : zPp := fun as σ o σ' => match as with
  | [a0, a1, a2, a3] => ∃ r, o = .inl (some (.int r)) ∧ p_208 (q_r a0) (q_r a1) (q_i a2) (q_i a3) σ r σ'
  | _ => True
set_option maxRecDepth 100000 in
theorem sp_208 {sx : zX} (S203 : zEe sx 203 1 qP_203) (S204 : zEe sx 204 2 qP_204) (S207 : zEe sx 207 3 qP_207) : zEe sx 208 4 qP_208 := by
  refine zfle zJ_208 (sps := [(203, 1, qP_203), (204, 2, qP_204), (207, 3, qP_207)]) (fun q hq => by
    simp only [List.mem_cons, List.not_mem_nil, or_false] at hq
    rcases hq with rfl | rfl | rfl
    · exact S203
    · exact S204
    · exact S207) (fun as σ hl => ?_)
  match as, hl with
  | [a0, a1, a2, a3], _ =>
  refine ⟨[], 400, ?_, ?_⟩
  · exact fun q hq => absurd hq List.not_mem_nil
  · refine fun o1 τ1 g1 => ?_
    obtain ⟨rfl, g1⟩ := g1
    refine fun o2 τ2 g2 => ?_
    obtain ⟨r2, rfl, g2⟩ := g2
    refine And.intro (fun h3 => ?_) (fun h3 => ?_)
    · exact ⟨_, rfl, sp_208_et (q_r a0) (q_r a1) (q_i a2) (q_i a3) σ τ1 τ2 r2 g1 g2 (cm0t h3)⟩
    · refine fun o4 τ4 g4 => ?_
      obtain ⟨r4, rfl, g4⟩ := g4
      exact ⟨_, rfl, sp_208_ef (q_r a0) (q_r a1) (q_i a2) (q_i a3) σ τ1 τ2 r2 τ4 r4 g1 g2 (cm0f h3) g4⟩
theorem zJ_211 : zJ3 211 z_m211 z_c211 z_h211 := ⟨rfl, rfl, rfl⟩
def p_211 (_ : Nat) (_ : Int32) (_ : Int32) (_ : Int32) (_ : zSg) (_ : Int32) (_ : zSg) : Prop := True
theorem sp_211_ett (a0 : Nat) (a1 : Int32) (a2 : Int32) (a3 : Int32) (σ : zSg) (τ1 : zSg) (r1 : Int32) (g1 : p_207 a0 a2 a3 σ r1 τ1) (h2 : r1.toInt ≥ (0 : Int)) (h3 : 0 ≤ a1.toInt ∧ a1.toInt < (τ1.2.1 (q_r (τ1.1 a0 1)) : Int)) (h4 : r1.toInt < (0 : Int)) :
    p_211 (a0) (a1) (a2) (a3) σ (Int32.ofInt (0)) (q_w τ1 (q_r (τ1.1 a0 1)) a1.toNatClampNeg (.int r1)) := by
  trivial
theorem sp_211_etf (a0 : Nat) (a1 : Int32) (a2 : Int32) (a3 : Int32) (σ : zSg) (τ1 : zSg) (r1 : Int32) (g1 : p_207 a0 a2 a3 σ r1 τ1) (h2 : r1.toInt ≥ (0 : Int)) (h3 : 0 ≤ a1.toInt ∧ a1.toInt < (τ1.2.1 (q_r (τ1.1 a0 1)) : Int)) (h4 : r1.toInt ≥ (0 : Int)) :
    p_211 (a0) (a1) (a2) (a3) σ (Int32.ofInt (1)) (q_w τ1 (q_r (τ1.1 a0 1)) a1.toNatClampNeg (.int r1)) := by
  trivial
theorem sp_211_eft (a0 : Nat) (a1 : Int32) (a2 : Int32) (a3 : Int32) (σ : zSg) (τ1 : zSg) (r1 : Int32) (g1 : p_207 a0 a2 a3 σ r1 τ1) (h2 : r1.toInt < (0 : Int)) (h5 : 0 ≤ a1.toInt ∧ a1.toInt < (τ1.2.1 (q_r (τ1.1 a0 1)) : Int)) (h6 : 0 ≤ a1.toInt ∧ a1.toInt < (τ1.2.1 (q_r (τ1.1 a0 1)) : Int)) (h7 : r1.toInt < (0 : Int)) :
    p_211 (a0) (a1) (a2) (a3) σ (Int32.ofInt (0)) (q_w τ1 (q_r (τ1.1 a0 1)) a1.toNatClampNeg (.int (q_i (τ1.1 (q_r (τ1.1 a0 1)) a1.toNatClampNeg)))) := by
  trivial
theorem sp_211_eff (a0 : Nat) (a1 : Int32) (a2 : Int32) (a3 : Int32) (σ : zSg) (τ1 : zSg) (r1 : Int32) (g1 : p_207 a0 a2 a3 σ r1 τ1) (h2 : r1.toInt < (0 : Int)) (h5 : 0 ≤ a1.toInt ∧ a1.toInt < (τ1.2.1 (q_r (τ1.1 a0 1)) : Int)) (h6 : 0 ≤ a1.toInt ∧ a1.toInt < (τ1.2.1 (q_r (τ1.1 a0 1)) : Int)) (h7 : r1.toInt ≥ (0 : Int)) :
    p_211 (a0) (a1) (a2) (a3) σ (Int32.ofInt (1)) (q_w τ1 (q_r (τ1.1 a0 1)) a1.toNatClampNeg (.int (q_i (τ1.1 (q_r (τ1.1 a0 1)) a1.toNatClampNeg)))) := by
  trivial
def qP_211 : zPp := fun as σ o σ' => match as with
  | [a0, a1, a2, a3] => ∃ r, o = .inl (some (.int r)) ∧ p_211 (q_r a0) (q_i a1) (q_i a2) (q_i a3) σ r σ'
  | _ => True
set_option maxRecDepth 100000 in
theorem sp_211 {sx : zX} (S207 : zEe sx 207 3 qP_207) : zEe sx 211 4 qP_211 := by
  refine zfle zJ_211 (sps := [(207, 3, qP_207)]) (fun q hq => by
    simp only [List.mem_cons, List.not_mem_nil, or_false] at hq
    rcases hq with rfl
    · exact S207) (fun as σ hl => ?_)
  match as, hl with
  | [a0, a1, a2, a3], _ =>
  refine ⟨[], 400, ?_, ?_⟩
  · exact fun q hq => absurd hq List.not_mem_nil
  · refine fun o1 τ1 g1 => ?_
    obtain ⟨r1, rfl, g1⟩ := g1
    refine And.intro (fun h2 => ?_) (fun h2 => ?_)
    · refine fun h3 => ?_
      refine And.intro (fun h4 => ?_) (fun h4 => ?_)
      · exact ⟨_, rfl, sp_211_ett (q_r a0) (q_i a1) (q_i a2) (q_i a3) σ τ1 r1 g1 (cm3t h2) (q_inp h3) (cm2t h4)⟩
      · exact ⟨_, rfl, sp_211_etf (q_r a0) (q_i a1) (q_i a2) (q_i a3) σ τ1 r1 g1 (cm3t h2) (q_inp h3) (cm2f h4)⟩
    · refine fun h5 => ?_
      refine fun h6 => ?_
      refine And.intro (fun h7 => ?_) (fun h7 => ?_)
      · exact ⟨_, rfl, sp_211_eft (q_r a0) (q_i a1) (q_i a2) (q_i a3) σ τ1 r1 g1 (cm3f h2) (q_inp h5) (q_inp h6) (cm2t h7)⟩
      · exact ⟨_, rfl, sp_211_eff (q_r a0) (q_i a1) (q_i a2) (q_i a3) σ τ1 r1 g1 (cm3f h2) (q_inp h5) (q_inp h6) (cm2f h7)⟩
def p_212 (_ : Nat) (_ : zSg) (_ : Int32) (_ : zSg) : Prop := True
def i_212_25 (_ : Nat) (_ : zSg) (_ : Int32) (_ : Int32) (_ : Int32) (_ : zSg) : Prop := True
theorem sp_212_ett (a0 : Nat) (σ : zSg) (τ1 : zSg) (r1 : Int32) (τ3 : zSg) (r3 : Int32) (g1 : p_207 a0 (Int32.ofInt (0)) (Int32.ofInt (23)) σ r1 τ1) (h2 : r1.toInt ≥ (0 : Int)) (g3 : p_208 a0 (zB + 42) (Int32.ofInt (0)) (Int32.ofInt (23)) τ1 r3 τ3) (h4 : r3.toInt ≥ (0 : Int)) :
    i_212_25 a0 σ r3 ((Int32.ofInt (1)) <<< (r3 &&& 31)) r1 τ3 := by
  trivial
theorem sp_212_etf (a0 : Nat) (σ : zSg) (τ1 : zSg) (r1 : Int32) (τ3 : zSg) (r3 : Int32) (g1 : p_207 a0 (Int32.ofInt (0)) (Int32.ofInt (23)) σ r1 τ1) (h2 : r1.toInt ≥ (0 : Int)) (g3 : p_208 a0 (zB + 42) (Int32.ofInt (0)) (Int32.ofInt (23)) τ1 r3 τ3) (h4 : r3.toInt < (0 : Int)) :
    p_212 (a0) σ (Int32.ofInt (-1)) τ3 := by
  trivial
theorem sp_212_ef (a0 : Nat) (σ : zSg) (τ1 : zSg) (r1 : Int32) (g1 : p_207 a0 (Int32.ofInt (0)) (Int32.ofInt (23)) σ r1 τ1) (h2 : r1.toInt < (0 : Int)) :
    p_212 (a0) σ (Int32.ofInt (-1)) τ1 := by
  trivial
theorem sp_212_c25_t (a0 : Nat) (σ : zSg) (l2 : Int32) (l3 : Int32) (l4 : Int32) (τ : zSg) (hI : i_212_25 a0 σ l2 l3 l4 τ) (h6 : l4.toInt = l2.toInt) :
    p_212 (a0) σ l3 τ := by
  trivial
theorem sp_212_c25_f (a0 : Nat) (σ : zSg) (l2 : Int32) (l3 : Int32) (l4 : Int32) (τ : zSg) (τ7 : zSg) (r7 : Int32) (hI : i_212_25 a0 σ l2 l3 l4 τ) (h6 : l4.toInt ≠ l2.toInt) (g7 : p_187 l4 τ r7 τ7) :
    i_212_25 a0 σ l2 (l3 ||| ((Int32.ofInt (1)) <<< (l4 &&& 31))) r7 τ7 := by
  trivial
def qP_212 : zPp := fun as σ o σ' => match as with
  | [a0] => ∃ r, o = .inl (some (.int r)) ∧ p_212 (q_r a0) σ r σ'
  | _ => True
set_option maxRecDepth 100000 in
theorem sp_212 {sx : zX} (S207 : zEe sx 207 3 qP_207) (S208 : zEe sx 208 4 qP_208) (S187 : zEe sx 187 1 qP_187) : zEe sx 212 1 qP_212 := by
  refine zfle zJ_212 (sps := [(207, 3, qP_207), (208, 4, qP_208), (187, 1, qP_187)]) (fun q hq => by
    simp only [List.mem_cons, List.not_mem_nil, or_false] at hq
    rcases hq with rfl | rfl | rfl
    · exact S207
    · exact S208
    · exact S187) (fun as σ hl => ?_)
  match as, hl with
  | [a0], _ =>
  refine ⟨[(25, fun lo st τ => st = [] ∧ i_212_25 (q_r a0) σ (q_i (lo 2)) (q_i (lo 3)) (q_i (lo 4)) τ)], 400, ?_, ?_⟩
  · intro q hq
    simp only [List.mem_cons, List.not_mem_nil, or_false] at hq
    rcases hq with rfl
    · rintro lo st τ ⟨rfl, hI⟩
      refine ⟨400, ?_⟩
      refine And.intro (fun h6 => ?_) (fun h6 => ?_)
      · exact ⟨_, rfl, sp_212_c25_t (q_r a0) σ (q_i (lo 2)) (q_i (lo 3)) (q_i (lo 4)) τ hI (cm0t h6)⟩
      · refine fun o7 τ7 g7 => ?_
        obtain ⟨r7, rfl, g7⟩ := g7
        exact ⟨rfl, sp_212_c25_f (q_r a0) σ (q_i (lo 2)) (q_i (lo 3)) (q_i (lo 4)) τ τ7 r7 hI (cm0f h6) g7⟩
  · refine fun o1 τ1 g1 => ?_
    obtain ⟨r1, rfl, g1⟩ := g1
    refine And.intro (fun h2 => ?_) (fun h2 => ?_)
    · refine fun o3 τ3 g3 => ?_
      obtain ⟨r3, rfl, g3⟩ := g3
      refine And.intro (fun h4 => ?_) (fun h4 => ?_)
      · exact ⟨rfl, sp_212_ett (q_r a0) σ τ1 r1 τ3 r3 g1 (cm3t h2) g3 (cm3t h4)⟩
      · exact ⟨_, rfl, sp_212_etf (q_r a0) σ τ1 r1 τ3 r3 g1 (cm3t h2) g3 (cm3f h4)⟩
    · refine And.intro (fun h5 => absurd (show z_cmp 3 (Int32.ofInt (-1)) 0 = true from h5) (by decide)) (fun _ => ?_)
      exact ⟨_, rfl, sp_212_ef (q_r a0) σ τ1 r1 g1 (cm3f h2)⟩
theorem zJ_213 : zJ3 213 z_m213 z_c213 z_h213 := ⟨rfl, rfl, rfl⟩
def p_213 (_ : Nat) (_ : Int32) (_ : Int32) (_ : zSg) (_ : zSg) : Prop := True
def i_213_2 (_ : Nat) (_ : Int32) (_ : Int32) (_ : zSg) (_ : Nat) (_ : Int32) (_ : Int32) (_ : Int32) (_ : zSg) : Prop := True
theorem sp_213_e (a0 : Nat) (a1 : Int32) (a2 : Int32) (σ : zSg)  :
    i_213_2 a0 a1 a2 σ a0 a1 a2 (Int32.ofInt (0)) σ := by
  trivial
theorem sp_213_c2_t (a0 : Nat) (a1 : Int32) (a2 : Int32) (σ : zSg) (l0 : Nat) (l1 : Int32) (l2 : Int32) (l3 : Int32) (τ : zSg) (hI : i_213_2 a0 a1 a2 σ l0 l1 l2 l3 τ) (h1 : l3.toInt ≥ (24 : Int)) :
    p_213 (a0) (a1) (a2) σ τ := by
  trivial
theorem sp_213_c2_ft (a0 : Nat) (a1 : Int32) (a2 : Int32) (σ : zSg) (l0 : Nat) (l1 : Int32) (l2 : Int32) (l3 : Int32) (τ : zSg) (τ2 : zSg) (r2 : Int32) (τ4 : zSg) (r4 : Int32) (hI : i_213_2 a0 a1 a2 σ l0 l1 l2 l3 τ) (h1 : l3.toInt < (24 : Int)) (g2 : p_178 l1 l3 τ r2 τ2) (h3 : r2.toInt = (0 : Int)) (g4 : p_186 l0 l3 τ2 r4 τ4) (h5 : 0 ≤ ((Int32.ofInt (16)) + l3).toInt ∧ ((Int32.ofInt (16)) + l3).toInt < (τ4.2.1 (q_r (τ.1 l0 1)) : Int)) :
    i_213_2 a0 a1 a2 σ l0 l1 l2 (l3 + Int32.ofInt (1)) (q_w τ4 (q_r (τ.1 l0 1)) ((Int32.ofInt (16)) + l3).toNatClampNeg (.int r4)) := by
  trivial
theorem sp_213_c2_ff (a0 : Nat) (a1 : Int32) (a2 : Int32) (σ : zSg) (l0 : Nat) (l1 : Int32) (l2 : Int32) (l3 : Int32) (τ : zSg) (τ2 : zSg) (r2 : Int32) (hI : i_213_2 a0 a1 a2 σ l0 l1 l2 l3 τ) (h1 : l3.toInt < (24 : Int)) (g2 : p_178 l1 l3 τ r2 τ2) (h3 : r2.toInt ≠ (0 : Int)) (h6 : 0 ≤ ((Int32.ofInt (16)) + l3).toInt ∧ ((Int32.ofInt (16)) + l3).toInt < (τ2.2.1 (q_r (τ.1 l0 1)) : Int)) :
    i_213_2 a0 a1 a2 σ l0 l1 l2 (l3 + Int32.ofInt (1)) (q_w τ2 (q_r (τ.1 l0 1)) ((Int32.ofInt (16)) + l3).toNatClampNeg (.int l2)) := by
  trivial
def qP_213 : zPp := fun as σ o σ' => match as with
  | [a0, a1, a2] => o = .inl none ∧ p_213 (q_r a0) (q_i a1) (q_i a2) σ σ'
  | _ => True
set_option maxRecDepth 100000 in
theorem sp_213 {sx : zX} (S178 : zEe sx 178 2 qP_178) (S186 : zEe sx 186 2 qP_186) : zEe sx 213 3 qP_213 := by
  refine zfle zJ_213 (sps := [(178, 2, qP_178), (186, 2, qP_186)]) (fun q hq => by
    simp only [List.mem_cons, List.not_mem_nil, or_false] at hq
    rcases hq with rfl | rfl
    · exact S178
    · exact S186) (fun as σ hl => ?_)
  match as, hl with
  | [a0, a1, a2], _ =>
  refine ⟨[(2, fun lo st τ => st = [] ∧ i_213_2 (q_r a0) (q_i a1) (q_i a2) σ (q_r (lo 0)) (q_i (lo 1)) (q_i (lo 2)) (q_i (lo 3)) τ)], 400, ?_, ?_⟩
  · intro q hq
    simp only [List.mem_cons, List.not_mem_nil, or_false] at hq
    rcases hq with rfl
    · rintro lo st τ ⟨rfl, hI⟩
      refine ⟨400, ?_⟩
      refine And.intro (fun h1 => ?_) (fun h1 => ?_)
      · exact ⟨rfl, sp_213_c2_t (q_r a0) (q_i a1) (q_i a2) σ (q_r (lo 0)) (q_i (lo 1)) (q_i (lo 2)) (q_i (lo 3)) τ hI (cm3t h1)⟩
      · refine fun o2 τ2 g2 => ?_
        obtain ⟨r2, rfl, g2⟩ := g2
        refine And.intro (fun h3 => ?_) (fun h3 => ?_)
        · refine fun o4 τ4 g4 => ?_
          obtain ⟨r4, rfl, g4⟩ := g4
          refine fun h5 => ?_
          exact ⟨rfl, sp_213_c2_ft (q_r a0) (q_i a1) (q_i a2) σ (q_r (lo 0)) (q_i (lo 1)) (q_i (lo 2)) (q_i (lo 3)) τ τ2 r2 τ4 r4 hI (cm3f h1) g2 (cm0t h3) g4 (q_inp h5)⟩
        · refine fun h6 => ?_
          exact ⟨rfl, sp_213_c2_ff (q_r a0) (q_i a1) (q_i a2) σ (q_r (lo 0)) (q_i (lo 1)) (q_i (lo 2)) (q_i (lo 3)) τ τ2 r2 hI (cm3f h1) g2 (cm0f h3) (q_inp h6)⟩
  · exact ⟨rfl, sp_213_e (q_r a0) (q_i a1) (q_i a2) σ ⟩
theorem zJ_215 : zJ3 215 z_m215 z_c215 z_h215 := ⟨rfl, rfl, rfl⟩
def p_215 (_ : Nat) (_ : zSg) (_ : Int32) (_ : zSg) : Prop := True
theorem sp_215_e (a0 : Nat) (σ : zSg) (τ1 : zSg) (r1 : Int32) (τ2 : zSg) (r2 : Int32) (g1 : p_184 a0 σ r1 τ1) (g2 : p_207 a0 (Int32.ofInt (0)) (r1 - (Int32.ofInt (1))) τ1 r2 τ2) :
    p_215 (a0) σ r2 τ2 := by
  trivial
def qP_215 : zPp := fun as σ o σ' => match as with
  | [a0] => ∃ r, o = .inl (some (.int r)) ∧ p_215 (q_r a0) σ r σ'
  | _ => True
set_option maxRecDepth 100000 in
theorem sp_215 {sx : zX} (S184 : zEe sx 184 1 qP_184) (S207 : zEe sx 207 3 qP_207) : zEe sx 215 1 qP_215 := by
  refine zfle zJ_215 (sps := [(184, 1, qP_184), (207, 3, qP_207)]) (fun q hq => by
    simp only [List.mem_cons, List.not_mem_nil, or_false] at hq
    rcases hq with rfl | rfl
    · exact S184
    · exact S207) (fun as σ hl => ?_)
  match as, hl with
  | [a0], _ =>
  refine ⟨[], 400, ?_, ?_⟩
  · exact fun q hq => absurd hq List.not_mem_nil
  · refine fun o1 τ1 g1 => ?_
    obtain ⟨r1, rfl, g1⟩ := g1
    refine fun o2 τ2 g2 => ?_
    obtain ⟨r2, rfl, g2⟩ := g2
    exact ⟨_, rfl, sp_215_e (q_r a0) σ τ1 r1 τ2 r2 g1 g2⟩
theorem zJ_214 : zJ3 214 z_m214 z_c214 z_h214 := ⟨rfl, rfl, rfl⟩
def p_214 (_ : Nat) (_ : zSg) (_ : Int32) (_ : zSg) : Prop := True
theorem sp_214_etttttt (a0 : Nat) (σ : zSg) (τ1 : zSg) (r1 : Int32) (τ3 : zSg) (r3 : Int32) (τ5 : zSg) (r5 : Int32) (τ7 : zSg) (r7 : Int32) (τ9 : zSg) (r9 : Int32) (τ12 : zSg) (r12 : Int32) (τ15 : zSg) (r15 : Int32) (τ17 : zSg) (r17 : Int32) (τ19 : zSg) (r19 : Int32) (τ21 : zSg) (r21 : Int32) (τ23 : zSg) (g1 : p_184 a0 σ r1 τ1) (h2 : r1.toInt ≠ (6 : Int)) (g3 : p_208 a0 (zB + 43) (Int32.ofInt (0)) (Int32.ofInt (999)) τ1 r3 τ3) (h4 : r3.toInt ≥ (0 : Int)) (g5 : p_208 a0 (zB + 44) (Int32.ofInt (0)) (Int32.ofInt (9)) τ3 r5 τ5) (h6 : r5.toInt ≥ (0 : Int)) (g7 : p_208 a0 (zB + 45) (Int32.ofInt (0)) (Int32.ofInt (9)) τ5 r7 τ7) (h8 : r7.toInt ≥ (0 : Int)) (g9 : p_205 a0 (zB + 46) τ7 r9 τ9) (h10 : r9.toInt = (0 : Int)) (g12 : p_205 a0 (zB + 47) τ9 r12 τ12) (h13 : r12.toInt = (0 : Int)) (g15 : p_189 r1 (Int32.ofInt (0)) τ12 r15 τ15) (h16 : 0 ≤ r15.toInt ∧ r15.toInt < (τ15.2.1 (q_r (τ12.1 a0 1)) : Int)) (g17 : p_189 r1 (Int32.ofInt (1)) (q_w τ15 (q_r (τ12.1 a0 1)) r15.toNatClampNeg (.int r3)) r17 τ17) (h18 : 0 ≤ r17.toInt ∧ r17.toInt < (τ17.2.1 (q_r ((q_w τ15 (q_r (τ12.1 a0 1)) r15.toNatClampNeg (.int r3)).1 a0 1)) : Int)) (g19 : p_189 r1 (Int32.ofInt (2)) (q_w τ17 (q_r ((q_w τ15 (q_r (τ12.1 a0 1)) r15.toNatClampNeg (.int r3)).1 a0 1)) r17.toNatClampNeg (.int r5)) r19 τ19) (h20 : 0 ≤ r19.toInt ∧ r19.toInt < (τ19.2.1 (q_r ((q_w τ17 (q_r ((q_w τ15 (q_r (τ12.1 a0 1)) r15.toNatClampNeg (.int r3)).1 a0 1)) r17.toNatClampNeg (.int r5)).1 a0 1)) : Int)) (g21 : p_189 r1 (Int32.ofInt (3)) (q_w τ19 (q_r ((q_w τ17 (q_r ((q_w τ15 (q_r (τ12.1 a0 1)) r15.toNatClampNeg (.int r3)).1 a0 1)) r17.toNatClampNeg (.int r5)).1 a0 1)) r19.toNatClampNeg (.int r7)) r21 τ21) (h22 : 0 ≤ r21.toInt ∧ r21.toInt < (τ21.2.1 (q_r ((q_w τ19 (q_r ((q_w τ17 (q_r ((q_w τ15 (q_r (τ12.1 a0 1)) r15.toNatClampNeg (.int r3)).1 a0 1)) r17.toNatClampNeg (.int r5)).1 a0 1)) r19.toNatClampNeg (.int r7)).1 a0 1)) : Int)) (g23 : p_213 a0 (Int32.ofInt (0)) r1 (q_w τ21 (q_r ((q_w τ19 (q_r ((q_w τ17 (q_r ((q_w τ15 (q_r (τ12.1 a0 1)) r15.toNatClampNeg (.int r3)).1 a0 1)) r17.toNatClampNeg (.int r5)).1 a0 1)) r19.toNatClampNeg (.int r7)).1 a0 1)) r21.toNatClampNeg (.int (Int32.ofInt (0)))) τ23) (h24 : 0 ≤ (Int32.ofInt (0)).toInt ∧ (Int32.ofInt (0)).toInt < (τ23.2.1 (q_r (τ23.1 a0 1)) : Int)) (h25 : 0 ≤ (Int32.ofInt (0)).toInt ∧ (Int32.ofInt (0)).toInt < (τ23.2.1 (q_r (τ23.1 a0 1)) : Int)) :
    p_214 (a0) σ (Int32.ofInt (1)) (q_w τ23 (q_r (τ23.1 a0 1)) (Int32.ofInt (0)).toNatClampNeg (.int ((q_i (τ23.1 (q_r (τ23.1 a0 1)) (Int32.ofInt (0)).toNatClampNeg)) + (Int32.ofInt (1))))) := by
  trivial
theorem sp_214_etttttft (a0 : Nat) (σ : zSg) (τ1 : zSg) (r1 : Int32) (τ3 : zSg) (r3 : Int32) (τ5 : zSg) (r5 : Int32) (τ7 : zSg) (r7 : Int32) (τ9 : zSg) (r9 : Int32) (τ12 : zSg) (r12 : Int32) (τ26 : zSg) (r26 : Int32) (τ28 : zSg) (r28 : Int32) (τ30 : zSg) (r30 : Int32) (τ32 : zSg) (r32 : Int32) (τ34 : zSg) (r34 : Int32) (τ36 : zSg) (g1 : p_184 a0 σ r1 τ1) (h2 : r1.toInt ≠ (6 : Int)) (g3 : p_208 a0 (zB + 43) (Int32.ofInt (0)) (Int32.ofInt (999)) τ1 r3 τ3) (h4 : r3.toInt ≥ (0 : Int)) (g5 : p_208 a0 (zB + 44) (Int32.ofInt (0)) (Int32.ofInt (9)) τ3 r5 τ5) (h6 : r5.toInt ≥ (0 : Int)) (g7 : p_208 a0 (zB + 45) (Int32.ofInt (0)) (Int32.ofInt (9)) τ5 r7 τ7) (h8 : r7.toInt ≥ (0 : Int)) (g9 : p_205 a0 (zB + 46) τ7 r9 τ9) (h10 : r9.toInt = (0 : Int)) (g12 : p_205 a0 (zB + 47) τ9 r12 τ12) (h13 : r12.toInt ≠ (0 : Int)) (g26 : p_212 a0 τ12 r26 τ26) (h27 : r26.toInt ≥ (0 : Int)) (g28 : p_189 r1 (Int32.ofInt (0)) τ26 r28 τ28) (h29 : 0 ≤ r28.toInt ∧ r28.toInt < (τ28.2.1 (q_r (τ26.1 a0 1)) : Int)) (g30 : p_189 r1 (Int32.ofInt (1)) (q_w τ28 (q_r (τ26.1 a0 1)) r28.toNatClampNeg (.int r3)) r30 τ30) (h31 : 0 ≤ r30.toInt ∧ r30.toInt < (τ30.2.1 (q_r ((q_w τ28 (q_r (τ26.1 a0 1)) r28.toNatClampNeg (.int r3)).1 a0 1)) : Int)) (g32 : p_189 r1 (Int32.ofInt (2)) (q_w τ30 (q_r ((q_w τ28 (q_r (τ26.1 a0 1)) r28.toNatClampNeg (.int r3)).1 a0 1)) r30.toNatClampNeg (.int r5)) r32 τ32) (h33 : 0 ≤ r32.toInt ∧ r32.toInt < (τ32.2.1 (q_r ((q_w τ30 (q_r ((q_w τ28 (q_r (τ26.1 a0 1)) r28.toNatClampNeg (.int r3)).1 a0 1)) r30.toNatClampNeg (.int r5)).1 a0 1)) : Int)) (g34 : p_189 r1 (Int32.ofInt (3)) (q_w τ32 (q_r ((q_w τ30 (q_r ((q_w τ28 (q_r (τ26.1 a0 1)) r28.toNatClampNeg (.int r3)).1 a0 1)) r30.toNatClampNeg (.int r5)).1 a0 1)) r32.toNatClampNeg (.int r7)) r34 τ34) (h35 : 0 ≤ r34.toInt ∧ r34.toInt < (τ34.2.1 (q_r ((q_w τ32 (q_r ((q_w τ30 (q_r ((q_w τ28 (q_r (τ26.1 a0 1)) r28.toNatClampNeg (.int r3)).1 a0 1)) r30.toNatClampNeg (.int r5)).1 a0 1)) r32.toNatClampNeg (.int r7)).1 a0 1)) : Int)) (g36 : p_213 a0 (Int32.ofInt (0)) r1 (q_w τ34 (q_r ((q_w τ32 (q_r ((q_w τ30 (q_r ((q_w τ28 (q_r (τ26.1 a0 1)) r28.toNatClampNeg (.int r3)).1 a0 1)) r30.toNatClampNeg (.int r5)).1 a0 1)) r32.toNatClampNeg (.int r7)).1 a0 1)) r34.toNatClampNeg (.int r26)) τ36) (h37 : 0 ≤ (Int32.ofInt (0)).toInt ∧ (Int32.ofInt (0)).toInt < (τ36.2.1 (q_r (τ36.1 a0 1)) : Int)) (h38 : 0 ≤ (Int32.ofInt (0)).toInt ∧ (Int32.ofInt (0)).toInt < (τ36.2.1 (q_r (τ36.1 a0 1)) : Int)) :
    p_214 (a0) σ (Int32.ofInt (1)) (q_w τ36 (q_r (τ36.1 a0 1)) (Int32.ofInt (0)).toNatClampNeg (.int ((q_i (τ36.1 (q_r (τ36.1 a0 1)) (Int32.ofInt (0)).toNatClampNeg)) + (Int32.ofInt (1))))) := by
  trivial
theorem sp_214_etttttff (a0 : Nat) (σ : zSg) (τ1 : zSg) (r1 : Int32) (τ3 : zSg) (r3 : Int32) (τ5 : zSg) (r5 : Int32) (τ7 : zSg) (r7 : Int32) (τ9 : zSg) (r9 : Int32) (τ12 : zSg) (r12 : Int32) (τ26 : zSg) (r26 : Int32) (g1 : p_184 a0 σ r1 τ1) (h2 : r1.toInt ≠ (6 : Int)) (g3 : p_208 a0 (zB + 43) (Int32.ofInt (0)) (Int32.ofInt (999)) τ1 r3 τ3) (h4 : r3.toInt ≥ (0 : Int)) (g5 : p_208 a0 (zB + 44) (Int32.ofInt (0)) (Int32.ofInt (9)) τ3 r5 τ5) (h6 : r5.toInt ≥ (0 : Int)) (g7 : p_208 a0 (zB + 45) (Int32.ofInt (0)) (Int32.ofInt (9)) τ5 r7 τ7) (h8 : r7.toInt ≥ (0 : Int)) (g9 : p_205 a0 (zB + 46) τ7 r9 τ9) (h10 : r9.toInt = (0 : Int)) (g12 : p_205 a0 (zB + 47) τ9 r12 τ12) (h13 : r12.toInt ≠ (0 : Int)) (g26 : p_212 a0 τ12 r26 τ26) (h27 : r26.toInt < (0 : Int)) :
    p_214 (a0) σ (Int32.ofInt (0)) τ26 := by
  trivial
theorem sp_214_ettttftt (a0 : Nat) (σ : zSg) (τ1 : zSg) (r1 : Int32) (τ3 : zSg) (r3 : Int32) (τ5 : zSg) (r5 : Int32) (τ7 : zSg) (r7 : Int32) (τ9 : zSg) (r9 : Int32) (τ39 : zSg) (r39 : Int32) (τ41 : zSg) (r41 : Int32) (τ44 : zSg) (r44 : Int32) (τ46 : zSg) (r46 : Int32) (τ48 : zSg) (r48 : Int32) (τ50 : zSg) (r50 : Int32) (τ52 : zSg) (g1 : p_184 a0 σ r1 τ1) (h2 : r1.toInt ≠ (6 : Int)) (g3 : p_208 a0 (zB + 43) (Int32.ofInt (0)) (Int32.ofInt (999)) τ1 r3 τ3) (h4 : r3.toInt ≥ (0 : Int)) (g5 : p_208 a0 (zB + 44) (Int32.ofInt (0)) (Int32.ofInt (9)) τ3 r5 τ5) (h6 : r5.toInt ≥ (0 : Int)) (g7 : p_208 a0 (zB + 45) (Int32.ofInt (0)) (Int32.ofInt (9)) τ5 r7 τ7) (h8 : r7.toInt ≥ (0 : Int)) (g9 : p_205 a0 (zB + 46) τ7 r9 τ9) (h10 : r9.toInt ≠ (0 : Int)) (g39 : p_212 a0 τ9 r39 τ39) (h40 : r39.toInt ≥ (0 : Int)) (g41 : p_205 a0 (zB + 47) τ39 r41 τ41) (h42 : r41.toInt = (0 : Int)) (g44 : p_189 r1 (Int32.ofInt (0)) τ41 r44 τ44) (h45 : 0 ≤ r44.toInt ∧ r44.toInt < (τ44.2.1 (q_r (τ41.1 a0 1)) : Int)) (g46 : p_189 r1 (Int32.ofInt (1)) (q_w τ44 (q_r (τ41.1 a0 1)) r44.toNatClampNeg (.int r3)) r46 τ46) (h47 : 0 ≤ r46.toInt ∧ r46.toInt < (τ46.2.1 (q_r ((q_w τ44 (q_r (τ41.1 a0 1)) r44.toNatClampNeg (.int r3)).1 a0 1)) : Int)) (g48 : p_189 r1 (Int32.ofInt (2)) (q_w τ46 (q_r ((q_w τ44 (q_r (τ41.1 a0 1)) r44.toNatClampNeg (.int r3)).1 a0 1)) r46.toNatClampNeg (.int r5)) r48 τ48) (h49 : 0 ≤ r48.toInt ∧ r48.toInt < (τ48.2.1 (q_r ((q_w τ46 (q_r ((q_w τ44 (q_r (τ41.1 a0 1)) r44.toNatClampNeg (.int r3)).1 a0 1)) r46.toNatClampNeg (.int r5)).1 a0 1)) : Int)) (g50 : p_189 r1 (Int32.ofInt (3)) (q_w τ48 (q_r ((q_w τ46 (q_r ((q_w τ44 (q_r (τ41.1 a0 1)) r44.toNatClampNeg (.int r3)).1 a0 1)) r46.toNatClampNeg (.int r5)).1 a0 1)) r48.toNatClampNeg (.int r7)) r50 τ50) (h51 : 0 ≤ r50.toInt ∧ r50.toInt < (τ50.2.1 (q_r ((q_w τ48 (q_r ((q_w τ46 (q_r ((q_w τ44 (q_r (τ41.1 a0 1)) r44.toNatClampNeg (.int r3)).1 a0 1)) r46.toNatClampNeg (.int r5)).1 a0 1)) r48.toNatClampNeg (.int r7)).1 a0 1)) : Int)) (g52 : p_213 a0 r39 r1 (q_w τ50 (q_r ((q_w τ48 (q_r ((q_w τ46 (q_r ((q_w τ44 (q_r (τ41.1 a0 1)) r44.toNatClampNeg (.int r3)).1 a0 1)) r46.toNatClampNeg (.int r5)).1 a0 1)) r48.toNatClampNeg (.int r7)).1 a0 1)) r50.toNatClampNeg (.int (Int32.ofInt (0)))) τ52) (h53 : 0 ≤ (Int32.ofInt (0)).toInt ∧ (Int32.ofInt (0)).toInt < (τ52.2.1 (q_r (τ52.1 a0 1)) : Int)) (h54 : 0 ≤ (Int32.ofInt (0)).toInt ∧ (Int32.ofInt (0)).toInt < (τ52.2.1 (q_r (τ52.1 a0 1)) : Int)) :
    p_214 (a0) σ (Int32.ofInt (1)) (q_w τ52 (q_r (τ52.1 a0 1)) (Int32.ofInt (0)).toNatClampNeg (.int ((q_i (τ52.1 (q_r (τ52.1 a0 1)) (Int32.ofInt (0)).toNatClampNeg)) + (Int32.ofInt (1))))) := by
  trivial
theorem sp_214_ettttftft (a0 : Nat) (σ : zSg) (τ1 : zSg) (r1 : Int32) (τ3 : zSg) (r3 : Int32) (τ5 : zSg) (r5 : Int32) (τ7 : zSg) (r7 : Int32) (τ9 : zSg) (r9 : Int32) (τ39 : zSg) (r39 : Int32) (τ41 : zSg) (r41 : Int32) (τ55 : zSg) (r55 : Int32) (τ57 : zSg) (r57 : Int32) (τ59 : zSg) (r59 : Int32) (τ61 : zSg) (r61 : Int32) (τ63 : zSg) (r63 : Int32) (τ65 : zSg) (g1 : p_184 a0 σ r1 τ1) (h2 : r1.toInt ≠ (6 : Int)) (g3 : p_208 a0 (zB + 43) (Int32.ofInt (0)) (Int32.ofInt (999)) τ1 r3 τ3) (h4 : r3.toInt ≥ (0 : Int)) (g5 : p_208 a0 (zB + 44) (Int32.ofInt (0)) (Int32.ofInt (9)) τ3 r5 τ5) (h6 : r5.toInt ≥ (0 : Int)) (g7 : p_208 a0 (zB + 45) (Int32.ofInt (0)) (Int32.ofInt (9)) τ5 r7 τ7) (h8 : r7.toInt ≥ (0 : Int)) (g9 : p_205 a0 (zB + 46) τ7 r9 τ9) (h10 : r9.toInt ≠ (0 : Int)) (g39 : p_212 a0 τ9 r39 τ39) (h40 : r39.toInt ≥ (0 : Int)) (g41 : p_205 a0 (zB + 47) τ39 r41 τ41) (h42 : r41.toInt ≠ (0 : Int)) (g55 : p_212 a0 τ41 r55 τ55) (h56 : r55.toInt ≥ (0 : Int)) (g57 : p_189 r1 (Int32.ofInt (0)) τ55 r57 τ57) (h58 : 0 ≤ r57.toInt ∧ r57.toInt < (τ57.2.1 (q_r (τ55.1 a0 1)) : Int)) (g59 : p_189 r1 (Int32.ofInt (1)) (q_w τ57 (q_r (τ55.1 a0 1)) r57.toNatClampNeg (.int r3)) r59 τ59) (h60 : 0 ≤ r59.toInt ∧ r59.toInt < (τ59.2.1 (q_r ((q_w τ57 (q_r (τ55.1 a0 1)) r57.toNatClampNeg (.int r3)).1 a0 1)) : Int)) (g61 : p_189 r1 (Int32.ofInt (2)) (q_w τ59 (q_r ((q_w τ57 (q_r (τ55.1 a0 1)) r57.toNatClampNeg (.int r3)).1 a0 1)) r59.toNatClampNeg (.int r5)) r61 τ61) (h62 : 0 ≤ r61.toInt ∧ r61.toInt < (τ61.2.1 (q_r ((q_w τ59 (q_r ((q_w τ57 (q_r (τ55.1 a0 1)) r57.toNatClampNeg (.int r3)).1 a0 1)) r59.toNatClampNeg (.int r5)).1 a0 1)) : Int)) (g63 : p_189 r1 (Int32.ofInt (3)) (q_w τ61 (q_r ((q_w τ59 (q_r ((q_w τ57 (q_r (τ55.1 a0 1)) r57.toNatClampNeg (.int r3)).1 a0 1)) r59.toNatClampNeg (.int r5)).1 a0 1)) r61.toNatClampNeg (.int r7)) r63 τ63) (h64 : 0 ≤ r63.toInt ∧ r63.toInt < (τ63.2.1 (q_r ((q_w τ61 (q_r ((q_w τ59 (q_r ((q_w τ57 (q_r (τ55.1 a0 1)) r57.toNatClampNeg (.int r3)).1 a0 1)) r59.toNatClampNeg (.int r5)).1 a0 1)) r61.toNatClampNeg (.int r7)).1 a0 1)) : Int)) (g65 : p_213 a0 r39 r1 (q_w τ63 (q_r ((q_w τ61 (q_r ((q_w τ59 (q_r ((q_w τ57 (q_r (τ55.1 a0 1)) r57.toNatClampNeg (.int r3)).1 a0 1)) r59.toNatClampNeg (.int r5)).1 a0 1)) r61.toNatClampNeg (.int r7)).1 a0 1)) r63.toNatClampNeg (.int r55)) τ65) (h66 : 0 ≤ (Int32.ofInt (0)).toInt ∧ (Int32.ofInt (0)).toInt < (τ65.2.1 (q_r (τ65.1 a0 1)) : Int)) (h67 : 0 ≤ (Int32.ofInt (0)).toInt ∧ (Int32.ofInt (0)).toInt < (τ65.2.1 (q_r (τ65.1 a0 1)) : Int)) :
    p_214 (a0) σ (Int32.ofInt (1)) (q_w τ65 (q_r (τ65.1 a0 1)) (Int32.ofInt (0)).toNatClampNeg (.int ((q_i (τ65.1 (q_r (τ65.1 a0 1)) (Int32.ofInt (0)).toNatClampNeg)) + (Int32.ofInt (1))))) := by
  trivial
theorem sp_214_ettttftff (a0 : Nat) (σ : zSg) (τ1 : zSg) (r1 : Int32) (τ3 : zSg) (r3 : Int32) (τ5 : zSg) (r5 : Int32) (τ7 : zSg) (r7 : Int32) (τ9 : zSg) (r9 : Int32) (τ39 : zSg) (r39 : Int32) (τ41 : zSg) (r41 : Int32) (τ55 : zSg) (r55 : Int32) (g1 : p_184 a0 σ r1 τ1) (h2 : r1.toInt ≠ (6 : Int)) (g3 : p_208 a0 (zB + 43) (Int32.ofInt (0)) (Int32.ofInt (999)) τ1 r3 τ3) (h4 : r3.toInt ≥ (0 : Int)) (g5 : p_208 a0 (zB + 44) (Int32.ofInt (0)) (Int32.ofInt (9)) τ3 r5 τ5) (h6 : r5.toInt ≥ (0 : Int)) (g7 : p_208 a0 (zB + 45) (Int32.ofInt (0)) (Int32.ofInt (9)) τ5 r7 τ7) (h8 : r7.toInt ≥ (0 : Int)) (g9 : p_205 a0 (zB + 46) τ7 r9 τ9) (h10 : r9.toInt ≠ (0 : Int)) (g39 : p_212 a0 τ9 r39 τ39) (h40 : r39.toInt ≥ (0 : Int)) (g41 : p_205 a0 (zB + 47) τ39 r41 τ41) (h42 : r41.toInt ≠ (0 : Int)) (g55 : p_212 a0 τ41 r55 τ55) (h56 : r55.toInt < (0 : Int)) :
    p_214 (a0) σ (Int32.ofInt (0)) τ55 := by
  trivial
theorem sp_214_ettttff (a0 : Nat) (σ : zSg) (τ1 : zSg) (r1 : Int32) (τ3 : zSg) (r3 : Int32) (τ5 : zSg) (r5 : Int32) (τ7 : zSg) (r7 : Int32) (τ9 : zSg) (r9 : Int32) (τ39 : zSg) (r39 : Int32) (g1 : p_184 a0 σ r1 τ1) (h2 : r1.toInt ≠ (6 : Int)) (g3 : p_208 a0 (zB + 43) (Int32.ofInt (0)) (Int32.ofInt (999)) τ1 r3 τ3) (h4 : r3.toInt ≥ (0 : Int)) (g5 : p_208 a0 (zB + 44) (Int32.ofInt (0)) (Int32.ofInt (9)) τ3 r5 τ5) (h6 : r5.toInt ≥ (0 : Int)) (g7 : p_208 a0 (zB + 45) (Int32.ofInt (0)) (Int32.ofInt (9)) τ5 r7 τ7) (h8 : r7.toInt ≥ (0 : Int)) (g9 : p_205 a0 (zB + 46) τ7 r9 τ9) (h10 : r9.toInt ≠ (0 : Int)) (g39 : p_212 a0 τ9 r39 τ39) (h40 : r39.toInt < (0 : Int)) :
    p_214 (a0) σ (Int32.ofInt (0)) τ39 := by
  trivial
theorem sp_214_etttf (a0 : Nat) (σ : zSg) (τ1 : zSg) (r1 : Int32) (τ3 : zSg) (r3 : Int32) (τ5 : zSg) (r5 : Int32) (τ7 : zSg) (r7 : Int32) (g1 : p_184 a0 σ r1 τ1) (h2 : r1.toInt ≠ (6 : Int)) (g3 : p_208 a0 (zB + 43) (Int32.ofInt (0)) (Int32.ofInt (999)) τ1 r3 τ3) (h4 : r3.toInt ≥ (0 : Int)) (g5 : p_208 a0 (zB + 44) (Int32.ofInt (0)) (Int32.ofInt (9)) τ3 r5 τ5) (h6 : r5.toInt ≥ (0 : Int)) (g7 : p_208 a0 (zB + 45) (Int32.ofInt (0)) (Int32.ofInt (9)) τ5 r7 τ7) (h8 : r7.toInt < (0 : Int)) :
    p_214 (a0) σ (Int32.ofInt (0)) τ7 := by
  trivial
theorem sp_214_ettf (a0 : Nat) (σ : zSg) (τ1 : zSg) (r1 : Int32) (τ3 : zSg) (r3 : Int32) (τ5 : zSg) (r5 : Int32) (g1 : p_184 a0 σ r1 τ1) (h2 : r1.toInt ≠ (6 : Int)) (g3 : p_208 a0 (zB + 43) (Int32.ofInt (0)) (Int32.ofInt (999)) τ1 r3 τ3) (h4 : r3.toInt ≥ (0 : Int)) (g5 : p_208 a0 (zB + 44) (Int32.ofInt (0)) (Int32.ofInt (9)) τ3 r5 τ5) (h6 : r5.toInt < (0 : Int)) :
    p_214 (a0) σ (Int32.ofInt (0)) τ5 := by
  trivial
theorem sp_214_etf (a0 : Nat) (σ : zSg) (τ1 : zSg) (r1 : Int32) (τ3 : zSg) (r3 : Int32) (g1 : p_184 a0 σ r1 τ1) (h2 : r1.toInt ≠ (6 : Int)) (g3 : p_208 a0 (zB + 43) (Int32.ofInt (0)) (Int32.ofInt (999)) τ1 r3 τ3) (h4 : r3.toInt < (0 : Int)) :
    p_214 (a0) σ (Int32.ofInt (0)) τ3 := by
  trivial
theorem sp_214_ef (a0 : Nat) (σ : zSg) (τ1 : zSg) (r1 : Int32) (g1 : p_184 a0 σ r1 τ1) (h2 : r1.toInt = (6 : Int)) :
    p_214 (a0) σ (Int32.ofInt (0)) τ1 := by
  trivial
def qP_214 : zPp := fun as σ o σ' => match as with
  | [a0] => ∃ r, o = .inl (some (.int r)) ∧ p_214 (q_r a0) σ r σ'
  | _ => True
set_option maxRecDepth 100000 in
theorem sp_214 {sx : zX} (S184 : zEe sx 184 1 qP_184) (S208 : zEe sx 208 4 qP_208) (S205 : zEe sx 205 2 qP_205) (S189 : zEe sx 189 2 qP_189) (S213 : zEe sx 213 3 qP_213) (S212 : zEe sx 212 1 qP_212) : zEe sx 214 1 qP_214 := by
  refine zfle zJ_214 (sps := [(184, 1, qP_184), (208, 4, qP_208), (205, 2, qP_205), (189, 2, qP_189), (213, 3, qP_213), (212, 1, qP_212)]) (fun q hq => by
    simp only [List.mem_cons, List.not_mem_nil, or_false] at hq
    rcases hq with rfl | rfl | rfl | rfl | rfl | rfl
    · exact S184
    · exact S208
    · exact S205
    · exact S189
    · exact S213
    · exact S212) (fun as σ hl => ?_)
  match as, hl with
  | [a0], _ =>
  refine ⟨[], 400, ?_, ?_⟩
  · exact fun q hq => absurd hq List.not_mem_nil
  · refine fun o1 τ1 g1 => ?_
    obtain ⟨r1, rfl, g1⟩ := g1
    refine And.intro (fun h2 => ?_) (fun h2 => ?_)
    · refine fun o3 τ3 g3 => ?_
      obtain ⟨r3, rfl, g3⟩ := g3
      refine And.intro (fun h4 => ?_) (fun h4 => ?_)
      · refine fun o5 τ5 g5 => ?_
        obtain ⟨r5, rfl, g5⟩ := g5
        refine And.intro (fun h6 => ?_) (fun h6 => ?_)
        · refine fun o7 τ7 g7 => ?_
          obtain ⟨r7, rfl, g7⟩ := g7
          refine And.intro (fun h8 => ?_) (fun h8 => ?_)
          · refine fun o9 τ9 g9 => ?_
            obtain ⟨r9, rfl, g9⟩ := g9
            refine And.intro (fun h10 => ?_) (fun h10 => ?_)
            · refine And.intro (fun _ => ?_) (fun h11 => absurd (show z_cmp 3 (Int32.ofInt (0)) 0 = false from h11) (by decide))
              refine fun o12 τ12 g12 => ?_
              obtain ⟨r12, rfl, g12⟩ := g12
              refine And.intro (fun h13 => ?_) (fun h13 => ?_)
              · refine And.intro (fun _ => ?_) (fun h14 => absurd (show z_cmp 3 (Int32.ofInt (0)) 0 = false from h14) (by decide))
                refine fun o15 τ15 g15 => ?_
                obtain ⟨r15, rfl, g15⟩ := g15
                refine fun h16 => ?_
                refine fun o17 τ17 g17 => ?_
                obtain ⟨r17, rfl, g17⟩ := g17
                refine fun h18 => ?_
                refine fun o19 τ19 g19 => ?_
                obtain ⟨r19, rfl, g19⟩ := g19
                refine fun h20 => ?_
                refine fun o21 τ21 g21 => ?_
                obtain ⟨r21, rfl, g21⟩ := g21
                refine fun h22 => ?_
                refine fun o23 τ23 g23 => ?_
                obtain ⟨rfl, g23⟩ := g23
                refine fun h24 => ?_
                refine fun h25 => ?_
                exact ⟨_, rfl, sp_214_etttttt (q_r a0) σ τ1 r1 τ3 r3 τ5 r5 τ7 r7 τ9 r9 τ12 r12 τ15 r15 τ17 r17 τ19 r19 τ21 r21 τ23 g1 (cm1t h2) g3 (cm3t h4) g5 (cm3t h6) g7 (cm3t h8) g9 (cm0t h10) g12 (cm0t h13) g15 (q_inp h16) g17 (q_inp h18) g19 (q_inp h20) g21 (q_inp h22) g23 (q_inp h24) (q_inp h25)⟩
              · refine fun o26 τ26 g26 => ?_
                obtain ⟨r26, rfl, g26⟩ := g26
                refine And.intro (fun h27 => ?_) (fun h27 => ?_)
                · refine fun o28 τ28 g28 => ?_
                  obtain ⟨r28, rfl, g28⟩ := g28
                  refine fun h29 => ?_
                  refine fun o30 τ30 g30 => ?_
                  obtain ⟨r30, rfl, g30⟩ := g30
                  refine fun h31 => ?_
                  refine fun o32 τ32 g32 => ?_
                  obtain ⟨r32, rfl, g32⟩ := g32
                  refine fun h33 => ?_
                  refine fun o34 τ34 g34 => ?_
                  obtain ⟨r34, rfl, g34⟩ := g34
                  refine fun h35 => ?_
                  refine fun o36 τ36 g36 => ?_
                  obtain ⟨rfl, g36⟩ := g36
                  refine fun h37 => ?_
                  refine fun h38 => ?_
                  exact ⟨_, rfl, sp_214_etttttft (q_r a0) σ τ1 r1 τ3 r3 τ5 r5 τ7 r7 τ9 r9 τ12 r12 τ26 r26 τ28 r28 τ30 r30 τ32 r32 τ34 r34 τ36 g1 (cm1t h2) g3 (cm3t h4) g5 (cm3t h6) g7 (cm3t h8) g9 (cm0t h10) g12 (cm0f h13) g26 (cm3t h27) g28 (q_inp h29) g30 (q_inp h31) g32 (q_inp h33) g34 (q_inp h35) g36 (q_inp h37) (q_inp h38)⟩
                · exact ⟨_, rfl, sp_214_etttttff (q_r a0) σ τ1 r1 τ3 r3 τ5 r5 τ7 r7 τ9 r9 τ12 r12 τ26 r26 g1 (cm1t h2) g3 (cm3t h4) g5 (cm3t h6) g7 (cm3t h8) g9 (cm0t h10) g12 (cm0f h13) g26 (cm3f h27)⟩
            · refine fun o39 τ39 g39 => ?_
              obtain ⟨r39, rfl, g39⟩ := g39
              refine And.intro (fun h40 => ?_) (fun h40 => ?_)
              · refine fun o41 τ41 g41 => ?_
                obtain ⟨r41, rfl, g41⟩ := g41
                refine And.intro (fun h42 => ?_) (fun h42 => ?_)
                · refine And.intro (fun _ => ?_) (fun h43 => absurd (show z_cmp 3 (Int32.ofInt (0)) 0 = false from h43) (by decide))
                  refine fun o44 τ44 g44 => ?_
                  obtain ⟨r44, rfl, g44⟩ := g44
                  refine fun h45 => ?_
                  refine fun o46 τ46 g46 => ?_
                  obtain ⟨r46, rfl, g46⟩ := g46
                  refine fun h47 => ?_
                  refine fun o48 τ48 g48 => ?_
                  obtain ⟨r48, rfl, g48⟩ := g48
                  refine fun h49 => ?_
                  refine fun o50 τ50 g50 => ?_
                  obtain ⟨r50, rfl, g50⟩ := g50
                  refine fun h51 => ?_
                  refine fun o52 τ52 g52 => ?_
                  obtain ⟨rfl, g52⟩ := g52
                  refine fun h53 => ?_
                  refine fun h54 => ?_
                  exact ⟨_, rfl, sp_214_ettttftt (q_r a0) σ τ1 r1 τ3 r3 τ5 r5 τ7 r7 τ9 r9 τ39 r39 τ41 r41 τ44 r44 τ46 r46 τ48 r48 τ50 r50 τ52 g1 (cm1t h2) g3 (cm3t h4) g5 (cm3t h6) g7 (cm3t h8) g9 (cm0f h10) g39 (cm3t h40) g41 (cm0t h42) g44 (q_inp h45) g46 (q_inp h47) g48 (q_inp h49) g50 (q_inp h51) g52 (q_inp h53) (q_inp h54)⟩
                · refine fun o55 τ55 g55 => ?_
                  obtain ⟨r55, rfl, g55⟩ := g55
                  refine And.intro (fun h56 => ?_) (fun h56 => ?_)
                  · refine fun o57 τ57 g57 => ?_
                    obtain ⟨r57, rfl, g57⟩ := g57
                    refine fun h58 => ?_
                    refine fun o59 τ59 g59 => ?_
                    obtain ⟨r59, rfl, g59⟩ := g59
                    refine fun h60 => ?_
                    refine fun o61 τ61 g61 => ?_
                    obtain ⟨r61, rfl, g61⟩ := g61
                    refine fun h62 => ?_
                    refine fun o63 τ63 g63 => ?_
                    obtain ⟨r63, rfl, g63⟩ := g63
                    refine fun h64 => ?_
                    refine fun o65 τ65 g65 => ?_
                    obtain ⟨rfl, g65⟩ := g65
                    refine fun h66 => ?_
                    refine fun h67 => ?_
                    exact ⟨_, rfl, sp_214_ettttftft (q_r a0) σ τ1 r1 τ3 r3 τ5 r5 τ7 r7 τ9 r9 τ39 r39 τ41 r41 τ55 r55 τ57 r57 τ59 r59 τ61 r61 τ63 r63 τ65 g1 (cm1t h2) g3 (cm3t h4) g5 (cm3t h6) g7 (cm3t h8) g9 (cm0f h10) g39 (cm3t h40) g41 (cm0f h42) g55 (cm3t h56) g57 (q_inp h58) g59 (q_inp h60) g61 (q_inp h62) g63 (q_inp h64) g65 (q_inp h66) (q_inp h67)⟩
                  · exact ⟨_, rfl, sp_214_ettttftff (q_r a0) σ τ1 r1 τ3 r3 τ5 r5 τ7 r7 τ9 r9 τ39 r39 τ41 r41 τ55 r55 g1 (cm1t h2) g3 (cm3t h4) g5 (cm3t h6) g7 (cm3t h8) g9 (cm0f h10) g39 (cm3t h40) g41 (cm0f h42) g55 (cm3f h56)⟩
              · exact ⟨_, rfl, sp_214_ettttff (q_r a0) σ τ1 r1 τ3 r3 τ5 r5 τ7 r7 τ9 r9 τ39 r39 g1 (cm1t h2) g3 (cm3t h4) g5 (cm3t h6) g7 (cm3t h8) g9 (cm0f h10) g39 (cm3f h40)⟩
          · exact ⟨_, rfl, sp_214_etttf (q_r a0) σ τ1 r1 τ3 r3 τ5 r5 τ7 r7 g1 (cm1t h2) g3 (cm3t h4) g5 (cm3t h6) g7 (cm3f h8)⟩
        · refine And.intro (fun h68 => absurd (show z_cmp 3 (Int32.ofInt (-1)) 0 = true from h68) (by decide)) (fun _ => ?_)
          exact ⟨_, rfl, sp_214_ettf (q_r a0) σ τ1 r1 τ3 r3 τ5 r5 g1 (cm1t h2) g3 (cm3t h4) g5 (cm3f h6)⟩
      · refine And.intro (fun h69 => absurd (show z_cmp 3 (Int32.ofInt (-1)) 0 = true from h69) (by decide)) (fun _ => ?_)
        refine And.intro (fun h70 => absurd (show z_cmp 3 (Int32.ofInt (-1)) 0 = true from h70) (by decide)) (fun _ => ?_)
        exact ⟨_, rfl, sp_214_etf (q_r a0) σ τ1 r1 τ3 r3 g1 (cm1t h2) g3 (cm3f h4)⟩
    · exact ⟨_, rfl, sp_214_ef (q_r a0) σ τ1 r1 g1 (cm1f h2)⟩
theorem zJ_216 : zJ3 216 z_m216 z_c216 z_h216 := ⟨rfl, rfl, rfl⟩
def p_216 (_ : Nat) (_ : zSg) (_ : Int32) (_ : zSg) : Prop := True
theorem sp_216_ettt (a0 : Nat) (σ : zSg) (τ1 : zSg) (r1 : Int32) (τ3 : zSg) (r3 : Int32) (g1 : p_215 a0 σ r1 τ1) (h2 : r1.toInt ≥ (0 : Int)) (g3 : p_212 a0 τ1 r3 τ3) (h4 : r3.toInt < (0 : Int)) (h5 : r3.toInt < (0 : Int)) :
    p_216 (a0) σ (Int32.ofInt (0)) τ3 := by
  trivial
theorem sp_216_ettf (a0 : Nat) (σ : zSg) (τ1 : zSg) (r1 : Int32) (τ3 : zSg) (r3 : Int32) (g1 : p_215 a0 σ r1 τ1) (h2 : r1.toInt ≥ (0 : Int)) (g3 : p_212 a0 τ1 r3 τ3) (h4 : r3.toInt < (0 : Int)) (h5 : r3.toInt ≥ (0 : Int)) :
    p_216 (a0) σ (Int32.ofInt (1)) τ3 := by
  trivial
theorem sp_216_etft (a0 : Nat) (σ : zSg) (τ1 : zSg) (r1 : Int32) (τ3 : zSg) (r3 : Int32) (τ6 : zSg) (g1 : p_215 a0 σ r1 τ1) (h2 : r1.toInt ≥ (0 : Int)) (g3 : p_212 a0 τ1 r3 τ3) (h4 : r3.toInt ≥ (0 : Int)) (g6 : p_213 a0 r3 r1 τ3 τ6) (h7 : r3.toInt < (0 : Int)) :
    p_216 (a0) σ (Int32.ofInt (0)) τ6 := by
  trivial
theorem sp_216_etff (a0 : Nat) (σ : zSg) (τ1 : zSg) (r1 : Int32) (τ3 : zSg) (r3 : Int32) (τ6 : zSg) (g1 : p_215 a0 σ r1 τ1) (h2 : r1.toInt ≥ (0 : Int)) (g3 : p_212 a0 τ1 r3 τ3) (h4 : r3.toInt ≥ (0 : Int)) (g6 : p_213 a0 r3 r1 τ3 τ6) (h7 : r3.toInt ≥ (0 : Int)) :
    p_216 (a0) σ (Int32.ofInt (1)) τ6 := by
  trivial
theorem sp_216_ef (a0 : Nat) (σ : zSg) (τ1 : zSg) (r1 : Int32) (g1 : p_215 a0 σ r1 τ1) (h2 : r1.toInt < (0 : Int)) :
    p_216 (a0) σ (Int32.ofInt (0)) τ1 := by
  trivial
def qP_216 : zPp := fun as σ o σ' => match as with
  | [a0] => ∃ r, o = .inl (some (.int r)) ∧ p_216 (q_r a0) σ r σ'
  | _ => True
set_option maxRecDepth 100000 in
theorem sp_216 {sx : zX} (S215 : zEe sx 215 1 qP_215) (S212 : zEe sx 212 1 qP_212) (S213 : zEe sx 213 3 qP_213) : zEe sx 216 1 qP_216 := by
  refine zfle zJ_216 (sps := [(215, 1, qP_215), (212, 1, qP_212), (213, 3, qP_213)]) (fun q hq => by
    simp only [List.mem_cons, List.not_mem_nil, or_false] at hq
    rcases hq with rfl | rfl | rfl
    · exact S215
    · exact S212
    · exact S213) (fun as σ hl => ?_)
  match as, hl with
  | [a0], _ =>
  refine ⟨[], 400, ?_, ?_⟩
  · exact fun q hq => absurd hq List.not_mem_nil
  · refine fun o1 τ1 g1 => ?_
    obtain ⟨r1, rfl, g1⟩ := g1
    refine And.intro (fun h2 => ?_) (fun h2 => ?_)
    · refine fun o3 τ3 g3 => ?_
      obtain ⟨r3, rfl, g3⟩ := g3
      refine And.intro (fun h4 => ?_) (fun h4 => ?_)
      · refine And.intro (fun h5 => ?_) (fun h5 => ?_)
        · exact ⟨_, rfl, sp_216_ettt (q_r a0) σ τ1 r1 τ3 r3 g1 (cm3t h2) g3 (cm2t h4) (cm2t h5)⟩
        · exact ⟨_, rfl, sp_216_ettf (q_r a0) σ τ1 r1 τ3 r3 g1 (cm3t h2) g3 (cm2t h4) (cm2f h5)⟩
      · refine fun o6 τ6 g6 => ?_
        obtain ⟨rfl, g6⟩ := g6
        refine And.intro (fun h7 => ?_) (fun h7 => ?_)
        · exact ⟨_, rfl, sp_216_etft (q_r a0) σ τ1 r1 τ3 r3 τ6 g1 (cm3t h2) g3 (cm2f h4) g6 (cm2t h7)⟩
        · exact ⟨_, rfl, sp_216_etff (q_r a0) σ τ1 r1 τ3 r3 τ6 g1 (cm3t h2) g3 (cm2f h4) g6 (cm2f h7)⟩
    · refine And.intro (fun _ => ?_) (fun h8 => absurd (show z_cmp 2 (Int32.ofInt (-1)) 0 = false from h8) (by decide))
      refine And.intro (fun _ => ?_) (fun h9 => absurd (show z_cmp 2 (Int32.ofInt (-1)) 0 = false from h9) (by decide))
      exact ⟨_, rfl, sp_216_ef (q_r a0) σ τ1 r1 g1 (cm3f h2)⟩
theorem zJ_217 : zJ3 217 z_m217 z_c217 z_h217 := ⟨rfl, rfl, rfl⟩
def p_217 (_ : Nat) (_ : zSg) (_ : Int32) (_ : zSg) : Prop := True
theorem sp_217_ett (a0 : Nat) (σ : zSg) (τ1 : zSg) (r1 : Int32) (g1 : p_212 a0 σ r1 τ1) (h2 : r1.toInt < (0 : Int)) (h3 : r1.toInt < (0 : Int)) :
    p_217 (a0) σ (Int32.ofInt (0)) τ1 := by
  trivial
theorem sp_217_etf (a0 : Nat) (σ : zSg) (τ1 : zSg) (r1 : Int32) (g1 : p_212 a0 σ r1 τ1) (h2 : r1.toInt < (0 : Int)) (h3 : r1.toInt ≥ (0 : Int)) :
    p_217 (a0) σ (Int32.ofInt (1)) τ1 := by
  trivial
theorem sp_217_eft (a0 : Nat) (σ : zSg) (τ1 : zSg) (r1 : Int32) (τ4 : zSg) (g1 : p_212 a0 σ r1 τ1) (h2 : r1.toInt ≥ (0 : Int)) (g4 : p_213 a0 r1 (Int32.ofInt (-1)) τ1 τ4) (h5 : r1.toInt < (0 : Int)) :
    p_217 (a0) σ (Int32.ofInt (0)) τ4 := by
  trivial
theorem sp_217_eff (a0 : Nat) (σ : zSg) (τ1 : zSg) (r1 : Int32) (τ4 : zSg) (g1 : p_212 a0 σ r1 τ1) (h2 : r1.toInt ≥ (0 : Int)) (g4 : p_213 a0 r1 (Int32.ofInt (-1)) τ1 τ4) (h5 : r1.toInt ≥ (0 : Int)) :
    p_217 (a0) σ (Int32.ofInt (1)) τ4 := by
  trivial
def qP_217 : zPp := fun as σ o σ' => match as with
  | [a0] => ∃ r, o = .inl (some (.int r)) ∧ p_217 (q_r a0) σ r σ'
  | _ => True
set_option maxRecDepth 100000 in
theorem sp_217 {sx : zX} (S212 : zEe sx 212 1 qP_212) (S213 : zEe sx 213 3 qP_213) : zEe sx 217 1 qP_217 := by
  refine zfle zJ_217 (sps := [(212, 1, qP_212), (213, 3, qP_213)]) (fun q hq => by
    simp only [List.mem_cons, List.not_mem_nil, or_false] at hq
    rcases hq with rfl | rfl
    · exact S212
    · exact S213) (fun as σ hl => ?_)
  match as, hl with
  | [a0], _ =>
  refine ⟨[], 400, ?_, ?_⟩
  · exact fun q hq => absurd hq List.not_mem_nil
  · refine fun o1 τ1 g1 => ?_
    obtain ⟨r1, rfl, g1⟩ := g1
    refine And.intro (fun h2 => ?_) (fun h2 => ?_)
    · refine And.intro (fun h3 => ?_) (fun h3 => ?_)
      · exact ⟨_, rfl, sp_217_ett (q_r a0) σ τ1 r1 g1 (cm2t h2) (cm2t h3)⟩
      · exact ⟨_, rfl, sp_217_etf (q_r a0) σ τ1 r1 g1 (cm2t h2) (cm2f h3)⟩
    · refine fun o4 τ4 g4 => ?_
      obtain ⟨rfl, g4⟩ := g4
      refine And.intro (fun h5 => ?_) (fun h5 => ?_)
      · exact ⟨_, rfl, sp_217_eft (q_r a0) σ τ1 r1 τ4 g1 (cm2f h2) g4 (cm2t h5)⟩
      · exact ⟨_, rfl, sp_217_eff (q_r a0) σ τ1 r1 τ4 g1 (cm2f h2) g4 (cm2f h5)⟩
theorem zJ_218 : zJ3 218 z_m218 z_c218 z_h218 := ⟨rfl, rfl, rfl⟩
def p_218 (_ : Nat) (_ : zSg) (_ : Int32) (_ : zSg) : Prop := True
theorem sp_218_ettt (a0 : Nat) (σ : zSg) (τ1 : zSg) (r1 : Int32) (τ3 : zSg) (r3 : Int32) (g1 : p_215 a0 σ r1 τ1) (h2 : r1.toInt ≥ (0 : Int)) (g3 : p_212 a0 τ1 r3 τ3) (h4 : r3.toInt < (0 : Int)) (h5 : r3.toInt < (0 : Int)) :
    p_218 (a0) σ (Int32.ofInt (0)) τ3 := by
  trivial
theorem sp_218_ettf (a0 : Nat) (σ : zSg) (τ1 : zSg) (r1 : Int32) (τ3 : zSg) (r3 : Int32) (g1 : p_215 a0 σ r1 τ1) (h2 : r1.toInt ≥ (0 : Int)) (g3 : p_212 a0 τ1 r3 τ3) (h4 : r3.toInt < (0 : Int)) (h5 : r3.toInt ≥ (0 : Int)) :
    p_218 (a0) σ (Int32.ofInt (1)) τ3 := by
  trivial
theorem sp_218_etft (a0 : Nat) (σ : zSg) (τ1 : zSg) (r1 : Int32) (τ3 : zSg) (r3 : Int32) (τ6 : zSg) (r6 : Int32) (g1 : p_215 a0 σ r1 τ1) (h2 : r1.toInt ≥ (0 : Int)) (g3 : p_212 a0 τ1 r3 τ3) (h4 : r3.toInt ≥ (0 : Int)) (g6 : p_189 r1 (Int32.ofInt (3)) τ3 r6 τ6) (h7 : 0 ≤ r6.toInt ∧ r6.toInt < (τ6.2.1 (q_r (τ3.1 a0 1)) : Int)) (h8 : 0 ≤ r6.toInt ∧ r6.toInt < (τ6.2.1 (q_r (τ3.1 a0 1)) : Int)) (h9 : r3.toInt < (0 : Int)) :
    p_218 (a0) σ (Int32.ofInt (0)) (q_w τ6 (q_r (τ3.1 a0 1)) r6.toNatClampNeg (.int ((q_i (τ6.1 (q_r (τ3.1 a0 1)) r6.toNatClampNeg)) ||| r3))) := by
  trivial
theorem sp_218_etff (a0 : Nat) (σ : zSg) (τ1 : zSg) (r1 : Int32) (τ3 : zSg) (r3 : Int32) (τ6 : zSg) (r6 : Int32) (g1 : p_215 a0 σ r1 τ1) (h2 : r1.toInt ≥ (0 : Int)) (g3 : p_212 a0 τ1 r3 τ3) (h4 : r3.toInt ≥ (0 : Int)) (g6 : p_189 r1 (Int32.ofInt (3)) τ3 r6 τ6) (h7 : 0 ≤ r6.toInt ∧ r6.toInt < (τ6.2.1 (q_r (τ3.1 a0 1)) : Int)) (h8 : 0 ≤ r6.toInt ∧ r6.toInt < (τ6.2.1 (q_r (τ3.1 a0 1)) : Int)) (h9 : r3.toInt ≥ (0 : Int)) :
    p_218 (a0) σ (Int32.ofInt (1)) (q_w τ6 (q_r (τ3.1 a0 1)) r6.toNatClampNeg (.int ((q_i (τ6.1 (q_r (τ3.1 a0 1)) r6.toNatClampNeg)) ||| r3))) := by
  trivial
theorem sp_218_ef (a0 : Nat) (σ : zSg) (τ1 : zSg) (r1 : Int32) (g1 : p_215 a0 σ r1 τ1) (h2 : r1.toInt < (0 : Int)) :
    p_218 (a0) σ (Int32.ofInt (0)) τ1 := by
  trivial
def qP_218 : zPp := fun as σ o σ' => match as with
  | [a0] => ∃ r, o = .inl (some (.int r)) ∧ p_218 (q_r a0) σ r σ'
  | _ => True
set_option maxRecDepth 100000 in
theorem sp_218 {sx : zX} (S215 : zEe sx 215 1 qP_215) (S212 : zEe sx 212 1 qP_212) (S189 : zEe sx 189 2 qP_189) : zEe sx 218 1 qP_218 := by
  refine zfle zJ_218 (sps := [(215, 1, qP_215), (212, 1, qP_212), (189, 2, qP_189)]) (fun q hq => by
    simp only [List.mem_cons, List.not_mem_nil, or_false] at hq
    rcases hq with rfl | rfl | rfl
    · exact S215
    · exact S212
    · exact S189) (fun as σ hl => ?_)
  match as, hl with
  | [a0], _ =>
  refine ⟨[], 400, ?_, ?_⟩
  · exact fun q hq => absurd hq List.not_mem_nil
  · refine fun o1 τ1 g1 => ?_
    obtain ⟨r1, rfl, g1⟩ := g1
    refine And.intro (fun h2 => ?_) (fun h2 => ?_)
    · refine fun o3 τ3 g3 => ?_
      obtain ⟨r3, rfl, g3⟩ := g3
      refine And.intro (fun h4 => ?_) (fun h4 => ?_)
      · refine And.intro (fun h5 => ?_) (fun h5 => ?_)
        · exact ⟨_, rfl, sp_218_ettt (q_r a0) σ τ1 r1 τ3 r3 g1 (cm3t h2) g3 (cm2t h4) (cm2t h5)⟩
        · exact ⟨_, rfl, sp_218_ettf (q_r a0) σ τ1 r1 τ3 r3 g1 (cm3t h2) g3 (cm2t h4) (cm2f h5)⟩
      · refine fun o6 τ6 g6 => ?_
        obtain ⟨r6, rfl, g6⟩ := g6
        refine fun h7 => ?_
        refine fun h8 => ?_
        refine And.intro (fun h9 => ?_) (fun h9 => ?_)
        · exact ⟨_, rfl, sp_218_etft (q_r a0) σ τ1 r1 τ3 r3 τ6 r6 g1 (cm3t h2) g3 (cm2f h4) g6 (q_inp h7) (q_inp h8) (cm2t h9)⟩
        · exact ⟨_, rfl, sp_218_etff (q_r a0) σ τ1 r1 τ3 r3 τ6 r6 g1 (cm3t h2) g3 (cm2f h4) g6 (q_inp h7) (q_inp h8) (cm2f h9)⟩
    · refine And.intro (fun _ => ?_) (fun h10 => absurd (show z_cmp 2 (Int32.ofInt (-1)) 0 = false from h10) (by decide))
      refine And.intro (fun _ => ?_) (fun h11 => absurd (show z_cmp 2 (Int32.ofInt (-1)) 0 = false from h11) (by decide))
      exact ⟨_, rfl, sp_218_ef (q_r a0) σ τ1 r1 g1 (cm3f h2)⟩
theorem zJ_219 : zJ3 219 z_m219 z_c219 z_h219 := ⟨rfl, rfl, rfl⟩
def p_219 (_ : Nat) (_ : zSg) (_ : Int32) (_ : zSg) : Prop := True
theorem sp_219_etttt (a0 : Nat) (σ : zSg) (τ1 : zSg) (r1 : Int32) (τ3 : zSg) (r3 : Int32) (τ5 : zSg) (r5 : Int32) (τ7 : zSg) (r7 : Int32) (τ9 : zSg) (r9 : Int32) (τ11 : zSg) (r11 : Int32) (τ12 : zSg) (r12 : Int32) (g1 : p_185 a0 σ r1 τ1) (h2 : r1.toInt ≠ (8 : Int)) (g3 : p_215 a0 τ1 r3 τ3) (h4 : r3.toInt ≥ (0 : Int)) (g5 : p_208 a0 (zB + 48) (Int32.ofInt (1)) (Int32.ofInt (9)) τ3 r5 τ5) (h6 : r5.toInt ≥ (0 : Int)) (g7 : p_192 r1 (Int32.ofInt (0)) τ5 r7 τ7) (h8 : 0 ≤ r7.toInt ∧ r7.toInt < (τ7.2.1 (q_r (τ5.1 a0 1)) : Int)) (g9 : p_192 r1 (Int32.ofInt (1)) (q_w τ7 (q_r (τ5.1 a0 1)) r7.toNatClampNeg (.int r3)) r9 τ9) (h10 : 0 ≤ r9.toInt ∧ r9.toInt < (τ9.2.1 (q_r ((q_w τ7 (q_r (τ5.1 a0 1)) r7.toNatClampNeg (.int r3)).1 a0 1)) : Int)) (g11 : p_192 r1 (Int32.ofInt (2)) (q_w τ9 (q_r ((q_w τ7 (q_r (τ5.1 a0 1)) r7.toNatClampNeg (.int r3)).1 a0 1)) r9.toNatClampNeg (.int r5)) r11 τ11) (g12 : p_205 a0 (zB + 49) τ11 r12 τ12) (h13 : r12.toInt = (0 : Int)) (h14 : 0 ≤ r11.toInt ∧ r11.toInt < (τ12.2.1 (q_r ((q_w τ9 (q_r ((q_w τ7 (q_r (τ5.1 a0 1)) r7.toNatClampNeg (.int r3)).1 a0 1)) r9.toNatClampNeg (.int r5)).1 a0 1)) : Int)) (h15 : 0 ≤ (Int32.ofInt (1)).toInt ∧ (Int32.ofInt (1)).toInt < ((q_w τ12 (q_r ((q_w τ9 (q_r ((q_w τ7 (q_r (τ5.1 a0 1)) r7.toNatClampNeg (.int r3)).1 a0 1)) r9.toNatClampNeg (.int r5)).1 a0 1)) r11.toNatClampNeg (.int (Int32.ofInt (0)))).2.1 (q_r ((q_w τ12 (q_r ((q_w τ9 (q_r ((q_w τ7 (q_r (τ5.1 a0 1)) r7.toNatClampNeg (.int r3)).1 a0 1)) r9.toNatClampNeg (.int r5)).1 a0 1)) r11.toNatClampNeg (.int (Int32.ofInt (0)))).1 a0 1)) : Int)) (h16 : 0 ≤ (Int32.ofInt (1)).toInt ∧ (Int32.ofInt (1)).toInt < ((q_w τ12 (q_r ((q_w τ9 (q_r ((q_w τ7 (q_r (τ5.1 a0 1)) r7.toNatClampNeg (.int r3)).1 a0 1)) r9.toNatClampNeg (.int r5)).1 a0 1)) r11.toNatClampNeg (.int (Int32.ofInt (0)))).2.1 (q_r ((q_w τ12 (q_r ((q_w τ9 (q_r ((q_w τ7 (q_r (τ5.1 a0 1)) r7.toNatClampNeg (.int r3)).1 a0 1)) r9.toNatClampNeg (.int r5)).1 a0 1)) r11.toNatClampNeg (.int (Int32.ofInt (0)))).1 a0 1)) : Int)) :
    p_219 (a0) σ (Int32.ofInt (1)) (q_w (q_w τ12 (q_r ((q_w τ9 (q_r ((q_w τ7 (q_r (τ5.1 a0 1)) r7.toNatClampNeg (.int r3)).1 a0 1)) r9.toNatClampNeg (.int r5)).1 a0 1)) r11.toNatClampNeg (.int (Int32.ofInt (0)))) (q_r ((q_w τ12 (q_r ((q_w τ9 (q_r ((q_w τ7 (q_r (τ5.1 a0 1)) r7.toNatClampNeg (.int r3)).1 a0 1)) r9.toNatClampNeg (.int r5)).1 a0 1)) r11.toNatClampNeg (.int (Int32.ofInt (0)))).1 a0 1)) (Int32.ofInt (1)).toNatClampNeg (.int ((q_i ((q_w τ12 (q_r ((q_w τ9 (q_r ((q_w τ7 (q_r (τ5.1 a0 1)) r7.toNatClampNeg (.int r3)).1 a0 1)) r9.toNatClampNeg (.int r5)).1 a0 1)) r11.toNatClampNeg (.int (Int32.ofInt (0)))).1 (q_r ((q_w τ12 (q_r ((q_w τ9 (q_r ((q_w τ7 (q_r (τ5.1 a0 1)) r7.toNatClampNeg (.int r3)).1 a0 1)) r9.toNatClampNeg (.int r5)).1 a0 1)) r11.toNatClampNeg (.int (Int32.ofInt (0)))).1 a0 1)) (Int32.ofInt (1)).toNatClampNeg)) + (Int32.ofInt (1))))) := by
  trivial
theorem sp_219_etttf (a0 : Nat) (σ : zSg) (τ1 : zSg) (r1 : Int32) (τ3 : zSg) (r3 : Int32) (τ5 : zSg) (r5 : Int32) (τ7 : zSg) (r7 : Int32) (τ9 : zSg) (r9 : Int32) (τ11 : zSg) (r11 : Int32) (τ12 : zSg) (r12 : Int32) (g1 : p_185 a0 σ r1 τ1) (h2 : r1.toInt ≠ (8 : Int)) (g3 : p_215 a0 τ1 r3 τ3) (h4 : r3.toInt ≥ (0 : Int)) (g5 : p_208 a0 (zB + 48) (Int32.ofInt (1)) (Int32.ofInt (9)) τ3 r5 τ5) (h6 : r5.toInt ≥ (0 : Int)) (g7 : p_192 r1 (Int32.ofInt (0)) τ5 r7 τ7) (h8 : 0 ≤ r7.toInt ∧ r7.toInt < (τ7.2.1 (q_r (τ5.1 a0 1)) : Int)) (g9 : p_192 r1 (Int32.ofInt (1)) (q_w τ7 (q_r (τ5.1 a0 1)) r7.toNatClampNeg (.int r3)) r9 τ9) (h10 : 0 ≤ r9.toInt ∧ r9.toInt < (τ9.2.1 (q_r ((q_w τ7 (q_r (τ5.1 a0 1)) r7.toNatClampNeg (.int r3)).1 a0 1)) : Int)) (g11 : p_192 r1 (Int32.ofInt (2)) (q_w τ9 (q_r ((q_w τ7 (q_r (τ5.1 a0 1)) r7.toNatClampNeg (.int r3)).1 a0 1)) r9.toNatClampNeg (.int r5)) r11 τ11) (g12 : p_205 a0 (zB + 49) τ11 r12 τ12) (h13 : r12.toInt ≠ (0 : Int)) (h17 : 0 ≤ r11.toInt ∧ r11.toInt < (τ12.2.1 (q_r ((q_w τ9 (q_r ((q_w τ7 (q_r (τ5.1 a0 1)) r7.toNatClampNeg (.int r3)).1 a0 1)) r9.toNatClampNeg (.int r5)).1 a0 1)) : Int)) (h18 : 0 ≤ (Int32.ofInt (1)).toInt ∧ (Int32.ofInt (1)).toInt < ((q_w τ12 (q_r ((q_w τ9 (q_r ((q_w τ7 (q_r (τ5.1 a0 1)) r7.toNatClampNeg (.int r3)).1 a0 1)) r9.toNatClampNeg (.int r5)).1 a0 1)) r11.toNatClampNeg (.int (Int32.ofInt (1)))).2.1 (q_r ((q_w τ12 (q_r ((q_w τ9 (q_r ((q_w τ7 (q_r (τ5.1 a0 1)) r7.toNatClampNeg (.int r3)).1 a0 1)) r9.toNatClampNeg (.int r5)).1 a0 1)) r11.toNatClampNeg (.int (Int32.ofInt (1)))).1 a0 1)) : Int)) (h19 : 0 ≤ (Int32.ofInt (1)).toInt ∧ (Int32.ofInt (1)).toInt < ((q_w τ12 (q_r ((q_w τ9 (q_r ((q_w τ7 (q_r (τ5.1 a0 1)) r7.toNatClampNeg (.int r3)).1 a0 1)) r9.toNatClampNeg (.int r5)).1 a0 1)) r11.toNatClampNeg (.int (Int32.ofInt (1)))).2.1 (q_r ((q_w τ12 (q_r ((q_w τ9 (q_r ((q_w τ7 (q_r (τ5.1 a0 1)) r7.toNatClampNeg (.int r3)).1 a0 1)) r9.toNatClampNeg (.int r5)).1 a0 1)) r11.toNatClampNeg (.int (Int32.ofInt (1)))).1 a0 1)) : Int)) :
    p_219 (a0) σ (Int32.ofInt (1)) (q_w (q_w τ12 (q_r ((q_w τ9 (q_r ((q_w τ7 (q_r (τ5.1 a0 1)) r7.toNatClampNeg (.int r3)).1 a0 1)) r9.toNatClampNeg (.int r5)).1 a0 1)) r11.toNatClampNeg (.int (Int32.ofInt (1)))) (q_r ((q_w τ12 (q_r ((q_w τ9 (q_r ((q_w τ7 (q_r (τ5.1 a0 1)) r7.toNatClampNeg (.int r3)).1 a0 1)) r9.toNatClampNeg (.int r5)).1 a0 1)) r11.toNatClampNeg (.int (Int32.ofInt (1)))).1 a0 1)) (Int32.ofInt (1)).toNatClampNeg (.int ((q_i ((q_w τ12 (q_r ((q_w τ9 (q_r ((q_w τ7 (q_r (τ5.1 a0 1)) r7.toNatClampNeg (.int r3)).1 a0 1)) r9.toNatClampNeg (.int r5)).1 a0 1)) r11.toNatClampNeg (.int (Int32.ofInt (1)))).1 (q_r ((q_w τ12 (q_r ((q_w τ9 (q_r ((q_w τ7 (q_r (τ5.1 a0 1)) r7.toNatClampNeg (.int r3)).1 a0 1)) r9.toNatClampNeg (.int r5)).1 a0 1)) r11.toNatClampNeg (.int (Int32.ofInt (1)))).1 a0 1)) (Int32.ofInt (1)).toNatClampNeg)) + (Int32.ofInt (1))))) := by
  trivial
theorem sp_219_ettf (a0 : Nat) (σ : zSg) (τ1 : zSg) (r1 : Int32) (τ3 : zSg) (r3 : Int32) (τ5 : zSg) (r5 : Int32) (g1 : p_185 a0 σ r1 τ1) (h2 : r1.toInt ≠ (8 : Int)) (g3 : p_215 a0 τ1 r3 τ3) (h4 : r3.toInt ≥ (0 : Int)) (g5 : p_208 a0 (zB + 48) (Int32.ofInt (1)) (Int32.ofInt (9)) τ3 r5 τ5) (h6 : r5.toInt < (0 : Int)) :
    p_219 (a0) σ (Int32.ofInt (0)) τ5 := by
  trivial
theorem sp_219_etf (a0 : Nat) (σ : zSg) (τ1 : zSg) (r1 : Int32) (τ3 : zSg) (r3 : Int32) (g1 : p_185 a0 σ r1 τ1) (h2 : r1.toInt ≠ (8 : Int)) (g3 : p_215 a0 τ1 r3 τ3) (h4 : r3.toInt < (0 : Int)) :
    p_219 (a0) σ (Int32.ofInt (0)) τ3 := by
  trivial
theorem sp_219_ef (a0 : Nat) (σ : zSg) (τ1 : zSg) (r1 : Int32) (g1 : p_185 a0 σ r1 τ1) (h2 : r1.toInt = (8 : Int)) :
    p_219 (a0) σ (Int32.ofInt (0)) τ1 := by
  trivial
def qP_219 : zPp := fun as σ o σ' => match as with
  | [a0] => ∃ r, o = .inl (some (.int r)) ∧ p_219 (q_r a0) σ r σ'
  | _ => True
set_option maxRecDepth 100000 in
theorem sp_219 {sx : zX} (S185 : zEe sx 185 1 qP_185) (S215 : zEe sx 215 1 qP_215) (S208 : zEe sx 208 4 qP_208) (S192 : zEe sx 192 2 qP_192) (S205 : zEe sx 205 2 qP_205) : zEe sx 219 1 qP_219 := by
  refine zfle zJ_219 (sps := [(185, 1, qP_185), (215, 1, qP_215), (208, 4, qP_208), (192, 2, qP_192), (205, 2, qP_205)]) (fun q hq => by
    simp only [List.mem_cons, List.not_mem_nil, or_false] at hq
    rcases hq with rfl | rfl | rfl | rfl | rfl
    · exact S185
    · exact S215
    · exact S208
    · exact S192
    · exact S205) (fun as σ hl => ?_)
  match as, hl with
  | [a0], _ =>
  refine ⟨[], 400, ?_, ?_⟩
  · exact fun q hq => absurd hq List.not_mem_nil
  · refine fun o1 τ1 g1 => ?_
    obtain ⟨r1, rfl, g1⟩ := g1
    refine And.intro (fun h2 => ?_) (fun h2 => ?_)
    · refine fun o3 τ3 g3 => ?_
      obtain ⟨r3, rfl, g3⟩ := g3
      refine And.intro (fun h4 => ?_) (fun h4 => ?_)
      · refine fun o5 τ5 g5 => ?_
        obtain ⟨r5, rfl, g5⟩ := g5
        refine And.intro (fun h6 => ?_) (fun h6 => ?_)
        · refine fun o7 τ7 g7 => ?_
          obtain ⟨r7, rfl, g7⟩ := g7
          refine fun h8 => ?_
          refine fun o9 τ9 g9 => ?_
          obtain ⟨r9, rfl, g9⟩ := g9
          refine fun h10 => ?_
          refine fun o11 τ11 g11 => ?_
          obtain ⟨r11, rfl, g11⟩ := g11
          refine fun o12 τ12 g12 => ?_
          obtain ⟨r12, rfl, g12⟩ := g12
          refine And.intro (fun h13 => ?_) (fun h13 => ?_)
          · refine fun h14 => ?_
            refine fun h15 => ?_
            refine fun h16 => ?_
            exact ⟨_, rfl, sp_219_etttt (q_r a0) σ τ1 r1 τ3 r3 τ5 r5 τ7 r7 τ9 r9 τ11 r11 τ12 r12 g1 (cm1t h2) g3 (cm3t h4) g5 (cm3t h6) g7 (q_inp h8) g9 (q_inp h10) g11 g12 (cm0t h13) (q_inp h14) (q_inp h15) (q_inp h16)⟩
          · refine fun h17 => ?_
            refine fun h18 => ?_
            refine fun h19 => ?_
            exact ⟨_, rfl, sp_219_etttf (q_r a0) σ τ1 r1 τ3 r3 τ5 r5 τ7 r7 τ9 r9 τ11 r11 τ12 r12 g1 (cm1t h2) g3 (cm3t h4) g5 (cm3t h6) g7 (q_inp h8) g9 (q_inp h10) g11 g12 (cm0f h13) (q_inp h17) (q_inp h18) (q_inp h19)⟩
        · exact ⟨_, rfl, sp_219_ettf (q_r a0) σ τ1 r1 τ3 r3 τ5 r5 g1 (cm1t h2) g3 (cm3t h4) g5 (cm3f h6)⟩
      · refine And.intro (fun h20 => absurd (show z_cmp 3 (Int32.ofInt (-1)) 0 = true from h20) (by decide)) (fun _ => ?_)
        exact ⟨_, rfl, sp_219_etf (q_r a0) σ τ1 r1 τ3 r3 g1 (cm1t h2) g3 (cm3f h4)⟩
    · exact ⟨_, rfl, sp_219_ef (q_r a0) σ τ1 r1 g1 (cm1f h2)⟩
theorem zJ_220 : zJ3 220 z_m220 z_c220 z_h220 := ⟨rfl, rfl, rfl⟩
def p_220 (_ : Nat) (_ : zSg) (_ : Int32) (_ : zSg) : Prop := True
theorem sp_220_etttttttttt (a0 : Nat) (σ : zSg) (τ1 : zSg) (r1 : Int32) (τ3 : zSg) (r3 : Int32) (τ5 : zSg) (r5 : Int32) (τ7 : zSg) (r7 : Int32) (τ9 : zSg) (r9 : Int32) (τ11 : zSg) (r11 : Int32) (τ13 : zSg) (r13 : Int32) (τ15 : zSg) (r15 : Int32) (τ17 : zSg) (r17 : Int32) (τ19 : zSg) (r19 : Int32) (g1 : p_204 a0 (zB + 50) σ r1 τ1) (h2 : r1.toInt = (0 : Int)) (g3 : p_204 a0 (zB + 46) τ1 r3 τ3) (h4 : r3.toInt = (0 : Int)) (g5 : p_204 a0 (zB + 51) τ3 r5 τ5) (h6 : r5.toInt = (0 : Int)) (g7 : p_204 a0 (zB + 52) τ5 r7 τ7) (h8 : r7.toInt = (0 : Int)) (g9 : p_204 a0 (zB + 47) τ7 r9 τ9) (h10 : r9.toInt = (0 : Int)) (g11 : p_204 a0 (zB + 53) τ9 r11 τ11) (h12 : r11.toInt = (0 : Int)) (g13 : p_204 a0 (zB + 54) τ11 r13 τ13) (h14 : r13.toInt = (0 : Int)) (g15 : p_204 a0 (zB + 55) τ13 r15 τ15) (h16 : r15.toInt = (0 : Int)) (g17 : p_204 a0 (zB + 56) τ15 r17 τ17) (h18 : r17.toInt = (0 : Int)) (g19 : p_204 a0 (zB + 57) τ17 r19 τ19) (h20 : r19.toInt = (0 : Int)) :
    p_220 (a0) σ (Int32.ofInt (0)) τ19 := by
  trivial
theorem sp_220_etttttttttft (a0 : Nat) (σ : zSg) (τ1 : zSg) (r1 : Int32) (τ3 : zSg) (r3 : Int32) (τ5 : zSg) (r5 : Int32) (τ7 : zSg) (r7 : Int32) (τ9 : zSg) (r9 : Int32) (τ11 : zSg) (r11 : Int32) (τ13 : zSg) (r13 : Int32) (τ15 : zSg) (r15 : Int32) (τ17 : zSg) (r17 : Int32) (τ19 : zSg) (r19 : Int32) (τ21 : zSg) (r21 : Int32) (g1 : p_204 a0 (zB + 50) σ r1 τ1) (h2 : r1.toInt = (0 : Int)) (g3 : p_204 a0 (zB + 46) τ1 r3 τ3) (h4 : r3.toInt = (0 : Int)) (g5 : p_204 a0 (zB + 51) τ3 r5 τ5) (h6 : r5.toInt = (0 : Int)) (g7 : p_204 a0 (zB + 52) τ5 r7 τ7) (h8 : r7.toInt = (0 : Int)) (g9 : p_204 a0 (zB + 47) τ7 r9 τ9) (h10 : r9.toInt = (0 : Int)) (g11 : p_204 a0 (zB + 53) τ9 r11 τ11) (h12 : r11.toInt = (0 : Int)) (g13 : p_204 a0 (zB + 54) τ11 r13 τ13) (h14 : r13.toInt = (0 : Int)) (g15 : p_204 a0 (zB + 55) τ13 r15 τ15) (h16 : r15.toInt = (0 : Int)) (g17 : p_204 a0 (zB + 56) τ15 r17 τ17) (h18 : r17.toInt = (0 : Int)) (g19 : p_204 a0 (zB + 57) τ17 r19 τ19) (h20 : r19.toInt ≠ (0 : Int)) (g21 : p_211 a0 (Int32.ofInt (4)) (Int32.ofInt (0)) (Int32.ofInt (23)) τ19 r21 τ21) (h22 : r21.toInt = (0 : Int)) :
    p_220 (a0) σ (Int32.ofInt (0)) τ21 := by
  trivial
theorem sp_220_etttttttttff (a0 : Nat) (σ : zSg) (τ1 : zSg) (r1 : Int32) (τ3 : zSg) (r3 : Int32) (τ5 : zSg) (r5 : Int32) (τ7 : zSg) (r7 : Int32) (τ9 : zSg) (r9 : Int32) (τ11 : zSg) (r11 : Int32) (τ13 : zSg) (r13 : Int32) (τ15 : zSg) (r15 : Int32) (τ17 : zSg) (r17 : Int32) (τ19 : zSg) (r19 : Int32) (τ21 : zSg) (r21 : Int32) (g1 : p_204 a0 (zB + 50) σ r1 τ1) (h2 : r1.toInt = (0 : Int)) (g3 : p_204 a0 (zB + 46) τ1 r3 τ3) (h4 : r3.toInt = (0 : Int)) (g5 : p_204 a0 (zB + 51) τ3 r5 τ5) (h6 : r5.toInt = (0 : Int)) (g7 : p_204 a0 (zB + 52) τ5 r7 τ7) (h8 : r7.toInt = (0 : Int)) (g9 : p_204 a0 (zB + 47) τ7 r9 τ9) (h10 : r9.toInt = (0 : Int)) (g11 : p_204 a0 (zB + 53) τ9 r11 τ11) (h12 : r11.toInt = (0 : Int)) (g13 : p_204 a0 (zB + 54) τ11 r13 τ13) (h14 : r13.toInt = (0 : Int)) (g15 : p_204 a0 (zB + 55) τ13 r15 τ15) (h16 : r15.toInt = (0 : Int)) (g17 : p_204 a0 (zB + 56) τ15 r17 τ17) (h18 : r17.toInt = (0 : Int)) (g19 : p_204 a0 (zB + 57) τ17 r19 τ19) (h20 : r19.toInt ≠ (0 : Int)) (g21 : p_211 a0 (Int32.ofInt (4)) (Int32.ofInt (0)) (Int32.ofInt (23)) τ19 r21 τ21) (h22 : r21.toInt ≠ (0 : Int)) :
    p_220 (a0) σ (Int32.ofInt (1)) τ21 := by
  trivial
theorem sp_220_ettttttttf (a0 : Nat) (σ : zSg) (τ1 : zSg) (r1 : Int32) (τ3 : zSg) (r3 : Int32) (τ5 : zSg) (r5 : Int32) (τ7 : zSg) (r7 : Int32) (τ9 : zSg) (r9 : Int32) (τ11 : zSg) (r11 : Int32) (τ13 : zSg) (r13 : Int32) (τ15 : zSg) (r15 : Int32) (τ17 : zSg) (r17 : Int32) (τ23 : zSg) (r23 : Int32) (g1 : p_204 a0 (zB + 50) σ r1 τ1) (h2 : r1.toInt = (0 : Int)) (g3 : p_204 a0 (zB + 46) τ1 r3 τ3) (h4 : r3.toInt = (0 : Int)) (g5 : p_204 a0 (zB + 51) τ3 r5 τ5) (h6 : r5.toInt = (0 : Int)) (g7 : p_204 a0 (zB + 52) τ5 r7 τ7) (h8 : r7.toInt = (0 : Int)) (g9 : p_204 a0 (zB + 47) τ7 r9 τ9) (h10 : r9.toInt = (0 : Int)) (g11 : p_204 a0 (zB + 53) τ9 r11 τ11) (h12 : r11.toInt = (0 : Int)) (g13 : p_204 a0 (zB + 54) τ11 r13 τ13) (h14 : r13.toInt = (0 : Int)) (g15 : p_204 a0 (zB + 55) τ13 r15 τ15) (h16 : r15.toInt = (0 : Int)) (g17 : p_204 a0 (zB + 56) τ15 r17 τ17) (h18 : r17.toInt ≠ (0 : Int)) (g23 : p_211 a0 (Int32.ofInt (13)) (Int32.ofInt (0)) (Int32.ofInt (100)) τ17 r23 τ23) :
    p_220 (a0) σ r23 τ23 := by
  trivial
theorem sp_220_etttttttf (a0 : Nat) (σ : zSg) (τ1 : zSg) (r1 : Int32) (τ3 : zSg) (r3 : Int32) (τ5 : zSg) (r5 : Int32) (τ7 : zSg) (r7 : Int32) (τ9 : zSg) (r9 : Int32) (τ11 : zSg) (r11 : Int32) (τ13 : zSg) (r13 : Int32) (τ15 : zSg) (r15 : Int32) (τ24 : zSg) (r24 : Int32) (g1 : p_204 a0 (zB + 50) σ r1 τ1) (h2 : r1.toInt = (0 : Int)) (g3 : p_204 a0 (zB + 46) τ1 r3 τ3) (h4 : r3.toInt = (0 : Int)) (g5 : p_204 a0 (zB + 51) τ3 r5 τ5) (h6 : r5.toInt = (0 : Int)) (g7 : p_204 a0 (zB + 52) τ5 r7 τ7) (h8 : r7.toInt = (0 : Int)) (g9 : p_204 a0 (zB + 47) τ7 r9 τ9) (h10 : r9.toInt = (0 : Int)) (g11 : p_204 a0 (zB + 53) τ9 r11 τ11) (h12 : r11.toInt = (0 : Int)) (g13 : p_204 a0 (zB + 54) τ11 r13 τ13) (h14 : r13.toInt = (0 : Int)) (g15 : p_204 a0 (zB + 55) τ13 r15 τ15) (h16 : r15.toInt ≠ (0 : Int)) (g24 : p_211 a0 (Int32.ofInt (12)) (Int32.ofInt (0)) (Int32.ofInt (99)) τ15 r24 τ24) :
    p_220 (a0) σ r24 τ24 := by
  trivial
theorem sp_220_ettttttf (a0 : Nat) (σ : zSg) (τ1 : zSg) (r1 : Int32) (τ3 : zSg) (r3 : Int32) (τ5 : zSg) (r5 : Int32) (τ7 : zSg) (r7 : Int32) (τ9 : zSg) (r9 : Int32) (τ11 : zSg) (r11 : Int32) (τ13 : zSg) (r13 : Int32) (τ25 : zSg) (r25 : Int32) (g1 : p_204 a0 (zB + 50) σ r1 τ1) (h2 : r1.toInt = (0 : Int)) (g3 : p_204 a0 (zB + 46) τ1 r3 τ3) (h4 : r3.toInt = (0 : Int)) (g5 : p_204 a0 (zB + 51) τ3 r5 τ5) (h6 : r5.toInt = (0 : Int)) (g7 : p_204 a0 (zB + 52) τ5 r7 τ7) (h8 : r7.toInt = (0 : Int)) (g9 : p_204 a0 (zB + 47) τ7 r9 τ9) (h10 : r9.toInt = (0 : Int)) (g11 : p_204 a0 (zB + 53) τ9 r11 τ11) (h12 : r11.toInt = (0 : Int)) (g13 : p_204 a0 (zB + 54) τ11 r13 τ13) (h14 : r13.toInt ≠ (0 : Int)) (g25 : p_211 a0 (Int32.ofInt (11)) (Int32.ofInt (0)) (Int32.ofInt (20)) τ13 r25 τ25) :
    p_220 (a0) σ r25 τ25 := by
  trivial
theorem sp_220_etttttf (a0 : Nat) (σ : zSg) (τ1 : zSg) (r1 : Int32) (τ3 : zSg) (r3 : Int32) (τ5 : zSg) (r5 : Int32) (τ7 : zSg) (r7 : Int32) (τ9 : zSg) (r9 : Int32) (τ11 : zSg) (r11 : Int32) (τ26 : zSg) (r26 : Int32) (g1 : p_204 a0 (zB + 50) σ r1 τ1) (h2 : r1.toInt = (0 : Int)) (g3 : p_204 a0 (zB + 46) τ1 r3 τ3) (h4 : r3.toInt = (0 : Int)) (g5 : p_204 a0 (zB + 51) τ3 r5 τ5) (h6 : r5.toInt = (0 : Int)) (g7 : p_204 a0 (zB + 52) τ5 r7 τ7) (h8 : r7.toInt = (0 : Int)) (g9 : p_204 a0 (zB + 47) τ7 r9 τ9) (h10 : r9.toInt = (0 : Int)) (g11 : p_204 a0 (zB + 53) τ9 r11 τ11) (h12 : r11.toInt ≠ (0 : Int)) (g26 : p_211 a0 (Int32.ofInt (10)) (Int32.ofInt (0)) (Int32.ofInt (9)) τ11 r26 τ26) :
    p_220 (a0) σ r26 τ26 := by
  trivial
theorem sp_220_ettttf (a0 : Nat) (σ : zSg) (τ1 : zSg) (r1 : Int32) (τ3 : zSg) (r3 : Int32) (τ5 : zSg) (r5 : Int32) (τ7 : zSg) (r7 : Int32) (τ9 : zSg) (r9 : Int32) (τ27 : zSg) (r27 : Int32) (g1 : p_204 a0 (zB + 50) σ r1 τ1) (h2 : r1.toInt = (0 : Int)) (g3 : p_204 a0 (zB + 46) τ1 r3 τ3) (h4 : r3.toInt = (0 : Int)) (g5 : p_204 a0 (zB + 51) τ3 r5 τ5) (h6 : r5.toInt = (0 : Int)) (g7 : p_204 a0 (zB + 52) τ5 r7 τ7) (h8 : r7.toInt = (0 : Int)) (g9 : p_204 a0 (zB + 47) τ7 r9 τ9) (h10 : r9.toInt ≠ (0 : Int)) (g27 : p_218 a0 τ9 r27 τ27) :
    p_220 (a0) σ r27 τ27 := by
  trivial
theorem sp_220_etttf (a0 : Nat) (σ : zSg) (τ1 : zSg) (r1 : Int32) (τ3 : zSg) (r3 : Int32) (τ5 : zSg) (r5 : Int32) (τ7 : zSg) (r7 : Int32) (τ28 : zSg) (r28 : Int32) (g1 : p_204 a0 (zB + 50) σ r1 τ1) (h2 : r1.toInt = (0 : Int)) (g3 : p_204 a0 (zB + 46) τ1 r3 τ3) (h4 : r3.toInt = (0 : Int)) (g5 : p_204 a0 (zB + 51) τ3 r5 τ5) (h6 : r5.toInt = (0 : Int)) (g7 : p_204 a0 (zB + 52) τ5 r7 τ7) (h8 : r7.toInt ≠ (0 : Int)) (g28 : p_219 a0 τ7 r28 τ28) :
    p_220 (a0) σ r28 τ28 := by
  trivial
theorem sp_220_ettf (a0 : Nat) (σ : zSg) (τ1 : zSg) (r1 : Int32) (τ3 : zSg) (r3 : Int32) (τ5 : zSg) (r5 : Int32) (τ29 : zSg) (r29 : Int32) (g1 : p_204 a0 (zB + 50) σ r1 τ1) (h2 : r1.toInt = (0 : Int)) (g3 : p_204 a0 (zB + 46) τ1 r3 τ3) (h4 : r3.toInt = (0 : Int)) (g5 : p_204 a0 (zB + 51) τ3 r5 τ5) (h6 : r5.toInt ≠ (0 : Int)) (g29 : p_217 a0 τ5 r29 τ29) :
    p_220 (a0) σ r29 τ29 := by
  trivial
theorem sp_220_etf (a0 : Nat) (σ : zSg) (τ1 : zSg) (r1 : Int32) (τ3 : zSg) (r3 : Int32) (τ30 : zSg) (r30 : Int32) (g1 : p_204 a0 (zB + 50) σ r1 τ1) (h2 : r1.toInt = (0 : Int)) (g3 : p_204 a0 (zB + 46) τ1 r3 τ3) (h4 : r3.toInt ≠ (0 : Int)) (g30 : p_216 a0 τ3 r30 τ30) :
    p_220 (a0) σ r30 τ30 := by
  trivial
theorem sp_220_ef (a0 : Nat) (σ : zSg) (τ1 : zSg) (r1 : Int32) (τ31 : zSg) (r31 : Int32) (g1 : p_204 a0 (zB + 50) σ r1 τ1) (h2 : r1.toInt ≠ (0 : Int)) (g31 : p_214 a0 τ1 r31 τ31) :
    p_220 (a0) σ r31 τ31 := by
  trivial
def qP_220 : zPp := fun as σ o σ' => match as with
  | [a0] => ∃ r, o = .inl (some (.int r)) ∧ p_220 (q_r a0) σ r σ'
  | _ => True
set_option maxRecDepth 100000 in
theorem sp_220 {sx : zX} (S204 : zEe sx 204 2 qP_204) (S211 : zEe sx 211 4 qP_211) (S218 : zEe sx 218 1 qP_218) (S219 : zEe sx 219 1 qP_219) (S217 : zEe sx 217 1 qP_217) (S216 : zEe sx 216 1 qP_216) (S214 : zEe sx 214 1 qP_214) : zEe sx 220 1 qP_220 := by
  refine zfle zJ_220 (sps := [(204, 2, qP_204), (211, 4, qP_211), (218, 1, qP_218), (219, 1, qP_219), (217, 1, qP_217), (216, 1, qP_216), (214, 1, qP_214)]) (fun q hq => by
    simp only [List.mem_cons, List.not_mem_nil, or_false] at hq
    rcases hq with rfl | rfl | rfl | rfl | rfl | rfl | rfl
    · exact S204
    · exact S211
    · exact S218
    · exact S219
    · exact S217
    · exact S216
    · exact S214) (fun as σ hl => ?_)
  match as, hl with
  | [a0], _ =>
  refine ⟨[], 400, ?_, ?_⟩
  · exact fun q hq => absurd hq List.not_mem_nil
  · refine fun o1 τ1 g1 => ?_
    obtain ⟨r1, rfl, g1⟩ := g1
    refine And.intro (fun h2 => ?_) (fun h2 => ?_)
    · refine fun o3 τ3 g3 => ?_
      obtain ⟨r3, rfl, g3⟩ := g3
      refine And.intro (fun h4 => ?_) (fun h4 => ?_)
      · refine fun o5 τ5 g5 => ?_
        obtain ⟨r5, rfl, g5⟩ := g5
        refine And.intro (fun h6 => ?_) (fun h6 => ?_)
        · refine fun o7 τ7 g7 => ?_
          obtain ⟨r7, rfl, g7⟩ := g7
          refine And.intro (fun h8 => ?_) (fun h8 => ?_)
          · refine fun o9 τ9 g9 => ?_
            obtain ⟨r9, rfl, g9⟩ := g9
            refine And.intro (fun h10 => ?_) (fun h10 => ?_)
            · refine fun o11 τ11 g11 => ?_
              obtain ⟨r11, rfl, g11⟩ := g11
              refine And.intro (fun h12 => ?_) (fun h12 => ?_)
              · refine fun o13 τ13 g13 => ?_
                obtain ⟨r13, rfl, g13⟩ := g13
                refine And.intro (fun h14 => ?_) (fun h14 => ?_)
                · refine fun o15 τ15 g15 => ?_
                  obtain ⟨r15, rfl, g15⟩ := g15
                  refine And.intro (fun h16 => ?_) (fun h16 => ?_)
                  · refine fun o17 τ17 g17 => ?_
                    obtain ⟨r17, rfl, g17⟩ := g17
                    refine And.intro (fun h18 => ?_) (fun h18 => ?_)
                    · refine fun o19 τ19 g19 => ?_
                      obtain ⟨r19, rfl, g19⟩ := g19
                      refine And.intro (fun h20 => ?_) (fun h20 => ?_)
                      · exact ⟨_, rfl, sp_220_etttttttttt (q_r a0) σ τ1 r1 τ3 r3 τ5 r5 τ7 r7 τ9 r9 τ11 r11 τ13 r13 τ15 r15 τ17 r17 τ19 r19 g1 (cm0t h2) g3 (cm0t h4) g5 (cm0t h6) g7 (cm0t h8) g9 (cm0t h10) g11 (cm0t h12) g13 (cm0t h14) g15 (cm0t h16) g17 (cm0t h18) g19 (cm0t h20)⟩
                      · refine fun o21 τ21 g21 => ?_
                        obtain ⟨r21, rfl, g21⟩ := g21
                        refine And.intro (fun h22 => ?_) (fun h22 => ?_)
                        · exact ⟨_, rfl, sp_220_etttttttttft (q_r a0) σ τ1 r1 τ3 r3 τ5 r5 τ7 r7 τ9 r9 τ11 r11 τ13 r13 τ15 r15 τ17 r17 τ19 r19 τ21 r21 g1 (cm0t h2) g3 (cm0t h4) g5 (cm0t h6) g7 (cm0t h8) g9 (cm0t h10) g11 (cm0t h12) g13 (cm0t h14) g15 (cm0t h16) g17 (cm0t h18) g19 (cm0f h20) g21 (cm0t h22)⟩
                        · exact ⟨_, rfl, sp_220_etttttttttff (q_r a0) σ τ1 r1 τ3 r3 τ5 r5 τ7 r7 τ9 r9 τ11 r11 τ13 r13 τ15 r15 τ17 r17 τ19 r19 τ21 r21 g1 (cm0t h2) g3 (cm0t h4) g5 (cm0t h6) g7 (cm0t h8) g9 (cm0t h10) g11 (cm0t h12) g13 (cm0t h14) g15 (cm0t h16) g17 (cm0t h18) g19 (cm0f h20) g21 (cm0f h22)⟩
                    · refine fun o23 τ23 g23 => ?_
                      obtain ⟨r23, rfl, g23⟩ := g23
                      exact ⟨_, rfl, sp_220_ettttttttf (q_r a0) σ τ1 r1 τ3 r3 τ5 r5 τ7 r7 τ9 r9 τ11 r11 τ13 r13 τ15 r15 τ17 r17 τ23 r23 g1 (cm0t h2) g3 (cm0t h4) g5 (cm0t h6) g7 (cm0t h8) g9 (cm0t h10) g11 (cm0t h12) g13 (cm0t h14) g15 (cm0t h16) g17 (cm0f h18) g23⟩
                  · refine fun o24 τ24 g24 => ?_
                    obtain ⟨r24, rfl, g24⟩ := g24
                    exact ⟨_, rfl, sp_220_etttttttf (q_r a0) σ τ1 r1 τ3 r3 τ5 r5 τ7 r7 τ9 r9 τ11 r11 τ13 r13 τ15 r15 τ24 r24 g1 (cm0t h2) g3 (cm0t h4) g5 (cm0t h6) g7 (cm0t h8) g9 (cm0t h10) g11 (cm0t h12) g13 (cm0t h14) g15 (cm0f h16) g24⟩
                · refine fun o25 τ25 g25 => ?_
                  obtain ⟨r25, rfl, g25⟩ := g25
                  exact ⟨_, rfl, sp_220_ettttttf (q_r a0) σ τ1 r1 τ3 r3 τ5 r5 τ7 r7 τ9 r9 τ11 r11 τ13 r13 τ25 r25 g1 (cm0t h2) g3 (cm0t h4) g5 (cm0t h6) g7 (cm0t h8) g9 (cm0t h10) g11 (cm0t h12) g13 (cm0f h14) g25⟩
              · refine fun o26 τ26 g26 => ?_
                obtain ⟨r26, rfl, g26⟩ := g26
                exact ⟨_, rfl, sp_220_etttttf (q_r a0) σ τ1 r1 τ3 r3 τ5 r5 τ7 r7 τ9 r9 τ11 r11 τ26 r26 g1 (cm0t h2) g3 (cm0t h4) g5 (cm0t h6) g7 (cm0t h8) g9 (cm0t h10) g11 (cm0f h12) g26⟩
            · refine fun o27 τ27 g27 => ?_
              obtain ⟨r27, rfl, g27⟩ := g27
              exact ⟨_, rfl, sp_220_ettttf (q_r a0) σ τ1 r1 τ3 r3 τ5 r5 τ7 r7 τ9 r9 τ27 r27 g1 (cm0t h2) g3 (cm0t h4) g5 (cm0t h6) g7 (cm0t h8) g9 (cm0f h10) g27⟩
          · refine fun o28 τ28 g28 => ?_
            obtain ⟨r28, rfl, g28⟩ := g28
            exact ⟨_, rfl, sp_220_etttf (q_r a0) σ τ1 r1 τ3 r3 τ5 r5 τ7 r7 τ28 r28 g1 (cm0t h2) g3 (cm0t h4) g5 (cm0t h6) g7 (cm0f h8) g28⟩
        · refine fun o29 τ29 g29 => ?_
          obtain ⟨r29, rfl, g29⟩ := g29
          exact ⟨_, rfl, sp_220_ettf (q_r a0) σ τ1 r1 τ3 r3 τ5 r5 τ29 r29 g1 (cm0t h2) g3 (cm0t h4) g5 (cm0f h6) g29⟩
      · refine fun o30 τ30 g30 => ?_
        obtain ⟨r30, rfl, g30⟩ := g30
        exact ⟨_, rfl, sp_220_etf (q_r a0) σ τ1 r1 τ3 r3 τ30 r30 g1 (cm0t h2) g3 (cm0f h4) g30⟩
    · refine fun o31 τ31 g31 => ?_
      obtain ⟨r31, rfl, g31⟩ := g31
      exact ⟨_, rfl, sp_220_ef (q_r a0) σ τ1 r1 τ31 r31 g1 (cm0f h2) g31⟩
