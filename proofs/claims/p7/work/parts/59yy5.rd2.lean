/-! readers of both sides, exact: holds, changes, gaps; printed with wip/gen/gen_ds.py -/
theorem fm48 : (List.range 48).all (fun t => decide (0 ≤ (Int32.ofNat t ^^^ Int32.ofInt 24).toInt) && decide (Int32.ofNat t - Int32.ofNat t / Int32.ofInt 24 * Int32.ofInt 24 = Int32.ofNat (t % 24))) = true := by decide +kernel
theorem fm48_at {t : Nat} (h : t < 48) : 0 ≤ (Int32.ofNat t ^^^ Int32.ofInt 24).toInt ∧ Int32.ofNat t - Int32.ofNat t / Int32.ofInt 24 * Int32.ofInt 24 = Int32.ofNat (t % 24) := by
  have := List.all_eq_true.mp fm48 t (List.mem_range.mpr h)
  rw [Bool.and_eq_true, decide_eq_true_eq, decide_eq_true_eq] at this
  exact this
noncomputable def p_312w (x y : Int32) (σ : zSg) (r : Int32) (σ' : zSg) : Prop := σ' = σ ∧ (y = Int32.ofInt 24 → ∀ t, t < 48 → x = Int32.ofNat t → r = Int32.ofNat (t % 24))
theorem sp_312w_et (a0 : Int32) (a1 : Int32) (σ : zSg) (h1 : (a0 ^^^ a1).toInt ≥ (0 : Int)) :
    p_312w (a0) (a1) σ (a0 - a0 / a1 * a1) σ := by
  refine ⟨rfl, ?_⟩
  rintro rfl t ht rfl
  exact (fm48_at ht).2
theorem sp_312w_eft (a0 : Int32) (a1 : Int32) (σ : zSg) (h1 : (a0 ^^^ a1).toInt < (0 : Int)) (h2 : (a0 - a0 / a1 * a1).toInt = (0 : Int)) :
    p_312w (a0) (a1) σ (a0 - a0 / a1 * a1) σ := by
  refine ⟨rfl, ?_⟩
  rintro rfl t ht rfl
  exact (fm48_at ht).2
theorem sp_312w_eff (a0 : Int32) (a1 : Int32) (σ : zSg) (h1 : (a0 ^^^ a1).toInt < (0 : Int)) (h2 : (a0 - a0 / a1 * a1).toInt ≠ (0 : Int)) :
    p_312w (a0) (a1) σ ((a0 - a0 / a1 * a1) + a1) σ := by
  refine ⟨rfl, ?_⟩
  rintro rfl t ht rfl
  exact absurd (fm48_at ht).1 (by omega)
noncomputable def qP_312w : zPp := fun as σ o σ' => match as with
  | [a0, a1] => ∃ r, o = .inl (some (.int r)) ∧ p_312w (q_i a0) (q_i a1) σ r σ'
  | _ => True
set_option maxRecDepth 100000 in
theorem sp_312w {sx : zX}  : zEe sx 312 2 qP_312w := by
  refine zfle zJ_312 (sps := []) (fun q hq => absurd hq List.not_mem_nil) (fun as σ hl => ?_)
  match as, hl with
  | [a0, a1], _ =>
  refine ⟨[], 400, ?_, ?_⟩
  · exact fun q hq => absurd hq List.not_mem_nil
  · refine And.intro (fun h1 => ?_) (fun h1 => ?_)
    · exact ⟨_, rfl, sp_312w_et (q_i a0) (q_i a1) σ (cm3t h1)⟩
    · refine And.intro (fun h2 => ?_) (fun h2 => ?_)
      · exact ⟨_, rfl, sp_312w_eft (q_i a0) (q_i a1) σ (cm3f h1) (cm0t h2)⟩
      · exact ⟨_, rfl, sp_312w_eff (q_i a0) (q_i a1) σ (cm3f h1) (cm0f h2)⟩
noncomputable def p_26w (a : Nat) (t : Int32) (σ : zSg) (r : Int32) (σ' : zSg) : Prop := σ' = σ ∧ ∀ H n, hH σ a H → t = Int32.ofNat n → n < 48 → r = H (16 + n % 24)
theorem sp_26w_e (a0 : Nat) (a1 : Int32) (σ : zSg) (τ1 : zSg) (r1 : Int32) (g1 : p_312w a1 (Int32.ofInt (24)) σ r1 τ1) (h2 : 0 ≤ r1.toInt ∧ r1.toInt < (τ1.2.1 (q_r (σ.1 a0 0)) : Int)) :
    p_26w (a0) (a1) σ (q_i (τ1.1 (q_r (σ.1 a0 0)) r1.toNatClampNeg)) τ1 := by
  obtain ⟨rfl, g⟩ := g1
  refine ⟨rfl, ?_⟩
  rintro H n K rfl hn
  have e := g rfl n hn rfl
  have hm : n % 24 < 24 := Nat.mod_lt _ (by omega)
  rw [e, o32n (by omega), K.k hk_0]
  exact K.p (hp_h hm)
noncomputable def qP_26w : zPp := fun as σ o σ' => match as with
  | [a0, a1] => ∃ r, o = .inl (some (.int r)) ∧ p_26w (q_r a0) (q_i a1) σ r σ'
  | _ => True
set_option maxRecDepth 100000 in
theorem sp_26w {sx : zX} (S312 : zEe sx 312 2 qP_312w) : zEe sx 26 2 qP_26w := by
  refine zfle zJ_26 (sps := [(312, 2, qP_312w)]) (fun q hq => by
    simp only [List.mem_cons, List.not_mem_nil, or_false] at hq
    rcases hq with rfl
    · exact S312) (fun as σ hl => ?_)
  match as, hl with
  | [a0, a1], _ =>
  refine ⟨[], 400, ?_, ?_⟩
  · exact fun q hq => absurd hq List.not_mem_nil
  · refine fun o1 τ1 g1 => ?_
    obtain ⟨r1, rfl, g1⟩ := g1
    refine fun h2 => ?_
    exact ⟨_, rfl, sp_26w_e (q_r a0) (q_i a1) σ τ1 r1 g1 (q_inp h2)⟩
noncomputable def fCh (A : Nat → Int32) : Nat → Int32
  | 0 => Int32.ofInt 0
  | n + 1 => fCh A n + (if A (16 + n) = A (16 + (n + 1) % 24) then Int32.ofInt 0 else Int32.ofInt 1)
theorem zJ_69 : zJ3 69 z_m69 z_c69 z_h69 := ⟨rfl, rfl, rfl⟩
noncomputable def p_69 (b : Nat) (σ : zSg) (r : Int32) (σ' : zSg) : Prop := σ' = σ ∧ ∀ A, hH σ b A → r = fCh A 24
noncomputable def i_69 (b : Nat) (σ : zSg) (l0 : Nat) (l1 l2 : Int32) (τ : zSg) : Prop := l0 = b ∧ τ = σ ∧ ∃ n, n ≤ 24 ∧ l2 = Int32.ofNat n ∧ ∀ A, hH σ b A → l1 = fCh A n
theorem sp_69_e (a0 : Nat) (σ : zSg)  :
    i_69 a0 σ a0 (Int32.ofInt (0)) (Int32.ofInt (0)) σ := by
  exact ⟨rfl, rfl, 0, by omega, rfl, fun A K => rfl⟩
theorem sp_69_c4_t (a0 : Nat) (σ : zSg) (l0 : Nat) (l1 : Int32) (l2 : Int32) (τ : zSg) (hI : i_69 a0 σ l0 l1 l2 τ) (h1 : l2.toInt ≥ (24 : Int)) :
    p_69 (a0) σ l1 τ := by
  obtain ⟨rfl, rfl, n, hn, rfl, hI⟩ := hI
  rw [o32 (by omega)] at h1
  have : n = 24 := by omega
  subst this
  exact ⟨rfl, hI⟩
theorem sp_69_c4_ft (a0 : Nat) (σ : zSg) (l0 : Nat) (l1 : Int32) (l2 : Int32) (τ : zSg) (τ2 : zSg) (r2 : Int32) (τ3 : zSg) (r3 : Int32) (hI : i_69 a0 σ l0 l1 l2 τ) (h1 : l2.toInt < (24 : Int)) (g2 : p_26w l0 l2 τ r2 τ2) (g3 : p_26w l0 (l2 + (Int32.ofInt (1))) τ2 r3 τ3) (h4 : r2.toInt = r3.toInt) :
    i_69 a0 σ l0 l1 (l2 + Int32.ofInt (1)) τ3 := by
  obtain ⟨rfl, rfl, n, hn, rfl, hI⟩ := hI
  rw [o32 (by omega)] at h1
  obtain ⟨rfl, ga⟩ := g2
  obtain ⟨rfl, gb⟩ := g3
  refine ⟨rfl, rfl, n + 1, by omega, o32i (by omega), fun A K => ?_⟩
  have xa := ga A n K rfl (by omega)
  rw [Nat.mod_eq_of_lt (show n < 24 by omega)] at xa
  have xb := gb A (n + 1) K (o32i (by omega)) (by omega)
  rw [xa, xb] at h4
  show _ = fCh A n + _
  rw [if_pos (Int32.toInt_inj.mp h4), hI A K]
  exact (Int32.add_zero _).symm
theorem sp_69_c4_ff (a0 : Nat) (σ : zSg) (l0 : Nat) (l1 : Int32) (l2 : Int32) (τ : zSg) (τ2 : zSg) (r2 : Int32) (τ3 : zSg) (r3 : Int32) (hI : i_69 a0 σ l0 l1 l2 τ) (h1 : l2.toInt < (24 : Int)) (g2 : p_26w l0 l2 τ r2 τ2) (g3 : p_26w l0 (l2 + (Int32.ofInt (1))) τ2 r3 τ3) (h4 : r2.toInt ≠ r3.toInt) :
    i_69 a0 σ l0 (l1 + Int32.ofInt (1)) (l2 + Int32.ofInt (1)) τ3 := by
  obtain ⟨rfl, rfl, n, hn, rfl, hI⟩ := hI
  rw [o32 (by omega)] at h1
  obtain ⟨rfl, ga⟩ := g2
  obtain ⟨rfl, gb⟩ := g3
  refine ⟨rfl, rfl, n + 1, by omega, o32i (by omega), fun A K => ?_⟩
  have xa := ga A n K rfl (by omega)
  rw [Nat.mod_eq_of_lt (show n < 24 by omega)] at xa
  have xb := gb A (n + 1) K (o32i (by omega)) (by omega)
  rw [xa, xb] at h4
  show _ = fCh A n + _
  rw [if_neg (fun q => h4 (congrArg Int32.toInt q)), hI A K]
noncomputable def qP_69 : zPp := fun as σ o σ' => match as with
  | [a0] => ∃ r, o = .inl (some (.int r)) ∧ p_69 (q_r a0) σ r σ'
  | _ => True
set_option maxRecDepth 100000 in
theorem sp_69 {sx : zX} (S26 : zEe sx 26 2 qP_26w) : zEe sx 69 1 qP_69 := by
  refine zfle zJ_69 (sps := [(26, 2, qP_26w)]) (fun q hq => by
    simp only [List.mem_cons, List.not_mem_nil, or_false] at hq
    rcases hq with rfl
    · exact S26) (fun as σ hl => ?_)
  match as, hl with
  | [a0], _ =>
  refine ⟨[(4, fun lo st τ => st = [] ∧ i_69 (q_r a0) σ (q_r (lo 0)) (q_i (lo 1)) (q_i (lo 2)) τ)], 400, ?_, ?_⟩
  · intro q hq
    simp only [List.mem_cons, List.not_mem_nil, or_false] at hq
    rcases hq with rfl
    · rintro lo st τ ⟨rfl, hI⟩
      refine ⟨400, ?_⟩
      refine And.intro (fun h1 => ?_) (fun h1 => ?_)
      · exact ⟨_, rfl, sp_69_c4_t (q_r a0) σ (q_r (lo 0)) (q_i (lo 1)) (q_i (lo 2)) τ hI (cm3t h1)⟩
      · refine fun o2 τ2 g2 => ?_
        obtain ⟨r2, rfl, g2⟩ := g2
        refine fun o3 τ3 g3 => ?_
        obtain ⟨r3, rfl, g3⟩ := g3
        refine And.intro (fun h4 => ?_) (fun h4 => ?_)
        · exact ⟨rfl, sp_69_c4_ft (q_r a0) σ (q_r (lo 0)) (q_i (lo 1)) (q_i (lo 2)) τ τ2 r2 τ3 r3 hI (cm3f h1) g2 g3 (cm0t h4)⟩
        · exact ⟨rfl, sp_69_c4_ff (q_r a0) σ (q_r (lo 0)) (q_i (lo 1)) (q_i (lo 2)) τ τ2 r2 τ3 r3 hI (cm3f h1) g2 g3 (cm0f h4)⟩
  · exact ⟨rfl, sp_69_e (q_r a0) σ ⟩
theorem zJ_136 : zJ3 136 z_m136 z_c136 z_h136 := ⟨rfl, rfl, rfl⟩
noncomputable def p_136 (a : Nat) (σ : zSg) (r : Int32) (σ' : zSg) : Prop := a = 0 → xSk σ → σ' = σ ∧ ∀ A, hH σ 8 A → r = fCh A 24
theorem sp_136_e (a0 : Nat) (σ : zSg) (τ1 : zSg) (r1 : Int32) (g1 : p_69 (q_r (σ.1 a0 2)) σ r1 τ1) :
    p_136 (a0) σ r1 τ1 := by
  rintro rfl K
  have d2 : q_r (σ.1 0 2) = 8 := by rw [K.2.1]; rfl
  rw [d2] at g1
  exact g1
noncomputable def qP_136 : zPp := fun as σ o σ' => match as with
  | [a0] => ∃ r, o = .inl (some (.int r)) ∧ p_136 (q_r a0) σ r σ'
  | _ => True
set_option maxRecDepth 100000 in
theorem sp_136 {sx : zX} (S69 : zEe sx 69 1 qP_69) : zEe sx 136 1 qP_136 := by
  refine zfle zJ_136 (sps := [(69, 1, qP_69)]) (fun q hq => by
    simp only [List.mem_cons, List.not_mem_nil, or_false] at hq
    rcases hq with rfl
    · exact S69) (fun as σ hl => ?_)
  match as, hl with
  | [a0], _ =>
  refine ⟨[], 400, ?_, ?_⟩
  · exact fun q hq => absurd hq List.not_mem_nil
  · refine fun o1 τ1 g1 => ?_
    obtain ⟨r1, rfl, g1⟩ := g1
    exact ⟨_, rfl, sp_136_e (q_r a0) σ τ1 r1 g1⟩
theorem zJ_274 : zJ3 274 z_m274 z_c274 z_h274 := ⟨rfl, rfl, rfl⟩
noncomputable def p_274 (a : Nat) (σ : zSg) (r : Int32) (σ' : zSg) : Prop := a = 205 → ∀ A, rW σ A → σ' = r0 σ ∧ r = fCh A 24
noncomputable def i_274 (a : Nat) (σ : zSg) (l0 : Nat) (l1 l2 : Int32) (τ : zSg) : Prop := l0 = a ∧ (a = 205 → ∀ A, rW σ A → τ = r0 σ ∧ ∃ n, n ≤ 24 ∧ l2 = Int32.ofNat n ∧ l1 = fCh A n)
theorem sp_274_e (a0 : Nat) (σ : zSg)  :
    i_274 a0 σ a0 (Int32.ofInt (0)) (Int32.ofInt (0)) (q_w σ a0 0 (.int (Int32.ofInt (0)))) := by
  refine ⟨rfl, ?_⟩
  rintro rfl A w
  exact ⟨rfl, 0, by omega, rfl, rfl⟩
theorem sp_274_c7_t (a0 : Nat) (σ : zSg) (l0 : Nat) (l1 : Int32) (l2 : Int32) (τ : zSg) (hI : i_274 a0 σ l0 l1 l2 τ) (h1 : l2.toInt ≥ (24 : Int)) :
    p_274 (a0) σ l1 τ := by
  obtain ⟨rfl, hI⟩ := hI
  intro h A w
  obtain ⟨e0, n, hn, e2, e1⟩ := hI h A w
  rw [e2, o32 (by omega)] at h1
  have : n = 24 := by omega
  subst this
  exact ⟨e0, e1⟩
theorem sp_274_c7_ft (a0 : Nat) (σ : zSg) (l0 : Nat) (l1 : Int32) (l2 : Int32) (τ : zSg) (τ2 : zSg) (r2 : Int32) (τ3 : zSg) (r3 : Int32) (τ4 : zSg) (r4 : Int32) (hI : i_274 a0 σ l0 l1 l2 τ) (h1 : l2.toInt < (24 : Int)) (g2 : p_186 l0 l2 τ r2 τ2) (g3 : p_187 l2 τ2 r3 τ3) (g4 : p_186 l0 r3 τ3 r4 τ4) (h5 : r2.toInt = r4.toInt) :
    i_274 a0 σ l0 (l1 + (Int32.ofInt (0))) (l2 + Int32.ofInt (1)) τ4 := by
  obtain ⟨rfl, hI⟩ := hI
  refine ⟨rfl, fun h A w => ?_⟩
  obtain ⟨e0, n, hn, e2, e1⟩ := hI h A w
  have w0 : rW τ A := by rw [e0]; exact w.el (by omega)
  rw [e2, o32 (by omega)] at h1
  obtain ⟨ea, ga⟩ := g2
  subst ea
  obtain ⟨eb, gb⟩ := g3
  subst eb
  obtain ⟨ec, gc⟩ := g4
  subst ec
  have xa := ga h A n w0 e2 (by omega)
  have xb := gb n e2 (by omega)
  have xc := gc h A _ w0 xb (Nat.mod_lt _ (by omega))
  rw [xa, xc] at h5
  refine ⟨e0, n + 1, by omega, by rw [e2]; exact o32i (by omega), ?_⟩
  show _ = fCh A n + _
  rw [if_pos (Int32.toInt_inj.mp h5), e1]
theorem sp_274_c7_ff (a0 : Nat) (σ : zSg) (l0 : Nat) (l1 : Int32) (l2 : Int32) (τ : zSg) (τ2 : zSg) (r2 : Int32) (τ3 : zSg) (r3 : Int32) (τ4 : zSg) (r4 : Int32) (hI : i_274 a0 σ l0 l1 l2 τ) (h1 : l2.toInt < (24 : Int)) (g2 : p_186 l0 l2 τ r2 τ2) (g3 : p_187 l2 τ2 r3 τ3) (g4 : p_186 l0 r3 τ3 r4 τ4) (h5 : r2.toInt ≠ r4.toInt) :
    i_274 a0 σ l0 (l1 + (Int32.ofInt (1))) (l2 + Int32.ofInt (1)) τ4 := by
  obtain ⟨rfl, hI⟩ := hI
  refine ⟨rfl, fun h A w => ?_⟩
  obtain ⟨e0, n, hn, e2, e1⟩ := hI h A w
  have w0 : rW τ A := by rw [e0]; exact w.el (by omega)
  rw [e2, o32 (by omega)] at h1
  obtain ⟨ea, ga⟩ := g2
  subst ea
  obtain ⟨eb, gb⟩ := g3
  subst eb
  obtain ⟨ec, gc⟩ := g4
  subst ec
  have xa := ga h A n w0 e2 (by omega)
  have xb := gb n e2 (by omega)
  have xc := gc h A _ w0 xb (Nat.mod_lt _ (by omega))
  rw [xa, xc] at h5
  refine ⟨e0, n + 1, by omega, by rw [e2]; exact o32i (by omega), ?_⟩
  show _ = fCh A n + _
  rw [if_neg (fun q => h5 (congrArg Int32.toInt q)), e1]
noncomputable def qP_274 : zPp := fun as σ o σ' => match as with
  | [a0] => ∃ r, o = .inl (some (.int r)) ∧ p_274 (q_r a0) σ r σ'
  | _ => True
set_option maxRecDepth 100000 in
theorem sp_274 {sx : zX} (S186 : zEe sx 186 2 qP_186) (S187 : zEe sx 187 1 qP_187) : zEe sx 274 1 qP_274 := by
  refine zfle zJ_274 (sps := [(186, 2, qP_186), (187, 1, qP_187)]) (fun q hq => by
    simp only [List.mem_cons, List.not_mem_nil, or_false] at hq
    rcases hq with rfl | rfl
    · exact S186
    · exact S187) (fun as σ hl => ?_)
  match as, hl with
  | [a0], _ =>
  refine ⟨[(7, fun lo st τ => st = [] ∧ i_274 (q_r a0) σ (q_r (lo 0)) (q_i (lo 1)) (q_i (lo 2)) τ)], 400, ?_, ?_⟩
  · intro q hq
    simp only [List.mem_cons, List.not_mem_nil, or_false] at hq
    rcases hq with rfl
    · rintro lo st τ ⟨rfl, hI⟩
      refine ⟨400, ?_⟩
      refine And.intro (fun h1 => ?_) (fun h1 => ?_)
      · exact ⟨_, rfl, sp_274_c7_t (q_r a0) σ (q_r (lo 0)) (q_i (lo 1)) (q_i (lo 2)) τ hI (cm3t h1)⟩
      · refine fun o2 τ2 g2 => ?_
        obtain ⟨r2, rfl, g2⟩ := g2
        refine fun o3 τ3 g3 => ?_
        obtain ⟨r3, rfl, g3⟩ := g3
        refine fun o4 τ4 g4 => ?_
        obtain ⟨r4, rfl, g4⟩ := g4
        refine And.intro (fun h5 => ?_) (fun h5 => ?_)
        · exact ⟨rfl, sp_274_c7_ft (q_r a0) σ (q_r (lo 0)) (q_i (lo 1)) (q_i (lo 2)) τ τ2 r2 τ3 r3 τ4 r4 hI (cm3f h1) g2 g3 g4 (cm0t h5)⟩
        · exact ⟨rfl, sp_274_c7_ff (q_r a0) σ (q_r (lo 0)) (q_i (lo 1)) (q_i (lo 2)) τ τ2 r2 τ3 r3 τ4 r4 hI (cm3f h1) g2 g3 g4 (cm0f h5)⟩
  · exact ⟨rfl, sp_274_e (q_r a0) σ ⟩
theorem zJ_123 : zJ3 123 z_m123 z_c123 z_h123 := ⟨rfl, rfl, rfl⟩
noncomputable def p_123 (a : Nat) (h : Int32) (σ : zSg) (e : Int32 ⊕ Nat) (σ' : zSg) : Prop := a = 0 → ∀ A, xSk σ → hH σ 8 A → σ' = σ ∧ (¬ (0 ≤ h.toInt ∧ h.toInt < 24) → e = .inr 2) ∧ (∀ n, h = Int32.ofNat n → n < 24 → e = .inl (A (16 + n)))
theorem sp_123_en (a0 : Nat) (a1 : Int32) (σ : zSg) (τ1 : zSg) (g1 : p_166 a0 a1 σ (.inl 0) τ1) (h2 : 0 ≤ a1.toInt ∧ a1.toInt < (τ1.2.1 (q_r (τ1.1 (q_r (τ1.1 a0 2)) 0)) : Int)) :
    p_123 (a0) (a1) σ (.inl (q_i (τ1.1 (q_r (τ1.1 (q_r (τ1.1 a0 2)) 0)) a1.toNatClampNeg))) τ1 := by
  rintro rfl A K H
  obtain ⟨e1, u, -⟩ := g1
  subst e1
  have u := u rfl
  refine ⟨rfl, fun q => absurd u q, fun n en hn => ?_⟩
  subst en
  have d2 : q_r (τ1.1 0 2) = 8 := by rw [K.2.1]; rfl
  rw [d2, H.k hk_0, o32n (by omega)]
  exact congrArg Sum.inl (H.p (hp_h hn))
theorem sp_123_ex2_ (a0 : Nat) (a1 : Int32) (σ : zSg) (τ1 : zSg) (g1 : p_166 a0 a1 σ (.inr 2) τ1) :
    p_123 (a0) (a1) σ (.inr 2) τ1 := by
  rintro rfl A K H
  obtain ⟨e1, -, u⟩ := g1
  have u := u rfl
  exact ⟨e1, fun _ => rfl, fun n en hn => absurd (by rw [en, o32 (by omega)]; omega) u⟩
noncomputable def qP_123 : zPp := fun as σ o σ' => match as with
  | [a0, a1] => (∃ r, o = .inl (some (.int r)) ∧ p_123 (q_r a0) (q_i a1) σ (.inl r) σ') ∨ (o = .inr 2 ∧ p_123 (q_r a0) (q_i a1) σ (.inr 2) σ')
  | _ => True
set_option maxRecDepth 100000 in
theorem sp_123 {sx : zX} (S166 : zEe sx 166 2 qP_166) : zEe sx 123 2 qP_123 := by
  refine zfle zJ_123 (sps := [(166, 2, qP_166)]) (fun q hq => by
    simp only [List.mem_cons, List.not_mem_nil, or_false] at hq
    rcases hq with rfl
    · exact S166) (fun as σ hl => ?_)
  match as, hl with
  | [a0, a1], _ =>
  refine ⟨[], 400, ?_, ?_⟩
  · exact fun q hq => absurd hq List.not_mem_nil
  · refine fun o1 τ1 g1 => ?_
    rcases g1 with ⟨rfl, g1⟩ | ⟨rfl, g1⟩
    · refine fun h2 => ?_
      exact Or.inl ⟨_, rfl, sp_123_en (q_r a0) (q_i a1) σ τ1 g1 (q_inp h2)⟩
    · exact Or.inr (⟨rfl, sp_123_ex2_ (q_r a0) (q_i a1) σ τ1 g1⟩)
theorem zJ_248 : zJ3 248 z_m248 z_c248 z_h248 := ⟨rfl, rfl, rfl⟩
noncomputable def p_248 (a : Nat) (h : Int32) (σ : zSg) (r : Int32) (σ' : zSg) : Prop := a = 205 → ∀ A, rW σ A → (¬ (0 ≤ h.toInt ∧ h.toInt < 24) → r = Int32.ofInt 0 ∧ σ' = rTh σ 1) ∧ (∀ n, h = Int32.ofNat n → n < 24 → σ' = r0 σ ∧ r = A (16 + n))
theorem sp_248_et (a0 : Nat) (a1 : Int32) (σ : zSg) (τ1 : zSg) (r1 : Int32) (τ2 : zSg) (r2 : Int32) (τ4 : zSg) (r4 : Int32) (g1 : p_197 a1 (q_w σ a0 0 (.int (Int32.ofInt (0)))) r1 τ1) (g2 : p_176 a0 r1 (Int32.ofInt (1)) τ1 r2 τ2) (h3 : r2.toInt = (0 : Int)) (g4 : p_186 a0 a1 τ2 r4 τ4) :
    p_248 (a0) (a1) σ r4 τ4 := by
  rintro rfl A w
  have w0 : rW (r0 σ) A := w.el (by omega)
  obtain ⟨e1, u1⟩ := g1
  have e1 : τ1 = r0 σ := e1
  subst e1
  obtain ⟨x2, y2, n2⟩ := g2
  rw [x2] at h3
  have e2 := n2 h3
  subst e2
  obtain ⟨e3, g3⟩ := g4
  exact ⟨fun q => absurd h3 (u1.mpr q), fun n en hn => ⟨e3, g3 rfl A n w0 en hn⟩⟩
theorem sp_248_ef (a0 : Nat) (a1 : Int32) (σ : zSg) (τ1 : zSg) (r1 : Int32) (τ2 : zSg) (r2 : Int32) (g1 : p_197 a1 (q_w σ a0 0 (.int (Int32.ofInt (0)))) r1 τ1) (g2 : p_176 a0 r1 (Int32.ofInt (1)) τ1 r2 τ2) (h3 : r2.toInt ≠ (0 : Int)) :
    p_248 (a0) (a1) σ (Int32.ofInt (0)) τ2 := by
  rintro rfl A w
  obtain ⟨e1, u1⟩ := g1
  have e1 : τ1 = r0 σ := e1
  subst e1
  obtain ⟨x2, y2, n2⟩ := g2
  rw [x2] at h3
  have e2 := y2 h3
  subst e2
  exact ⟨fun _ => ⟨rfl, r0_T⟩, fun n en hn => absurd (by rw [en, o32 (by omega)]; omega) (u1.mp h3)⟩
noncomputable def qP_248 : zPp := fun as σ o σ' => match as with
  | [a0, a1] => ∃ r, o = .inl (some (.int r)) ∧ p_248 (q_r a0) (q_i a1) σ r σ'
  | _ => True
set_option maxRecDepth 100000 in
theorem sp_248 {sx : zX} (S197 : zEe sx 197 1 qP_197) (S176 : zEe sx 176 3 qP_176) (S186 : zEe sx 186 2 qP_186) : zEe sx 248 2 qP_248 := by
  refine zfle zJ_248 (sps := [(197, 1, qP_197), (176, 3, qP_176), (186, 2, qP_186)]) (fun q hq => by
    simp only [List.mem_cons, List.not_mem_nil, or_false] at hq
    rcases hq with rfl | rfl | rfl
    · exact S197
    · exact S176
    · exact S186) (fun as σ hl => ?_)
  match as, hl with
  | [a0, a1], _ =>
  refine ⟨[], 400, ?_, ?_⟩
  · exact fun q hq => absurd hq List.not_mem_nil
  · refine fun o1 τ1 g1 => ?_
    obtain ⟨r1, rfl, g1⟩ := g1
    refine fun o2 τ2 g2 => ?_
    obtain ⟨r2, rfl, g2⟩ := g2
    refine And.intro (fun h3 => ?_) (fun h3 => ?_)
    · refine fun o4 τ4 g4 => ?_
      obtain ⟨r4, rfl, g4⟩ := g4
      exact ⟨_, rfl, sp_248_et (q_r a0) (q_i a1) σ τ1 r1 τ2 r2 τ4 r4 g1 g2 (cm0t h3) g4⟩
    · exact ⟨_, rfl, sp_248_ef (q_r a0) (q_i a1) σ τ1 r1 τ2 r2 g1 g2 (cm0f h3)⟩
noncomputable def fB (P : Nat → Bool) : Nat → Int32
  | 0 => Int32.ofInt 0
  | n + 1 => fB P n ||| (if P n = true then Int32.ofInt 1 <<< (Int32.ofNat n &&& 31) else Int32.ofInt 0)
theorem fB_cg {P Q : Nat → Bool} : ∀ n, (∀ i, i < n → P i = Q i) → fB P n = fB Q n
  | 0, _ => rfl
  | n + 1, h => by
    show fB P n ||| _ = fB Q n ||| _
    rw [fB_cg n (fun i hi => h i (by omega)), h n (by omega)]
theorem sl_all : (List.range 32).all (fun n => (List.range 32).all (fun i => decide ((Int32.ofInt 1 <<< (Int32.ofNat n &&& 31)).toBitVec.getLsbD i = decide (i = n)))) = true := by decide +kernel
theorem sl_at {n i : Nat} (hn : n < 32) (hi : i < 32) : (Int32.ofInt 1 <<< (Int32.ofNat n &&& 31)).toBitVec.getLsbD i = decide (i = n) := of_decide_eq_true (List.all_eq_true.mp (List.all_eq_true.mp sl_all n (List.mem_range.mpr hn)) i (List.mem_range.mpr hi))
theorem z0_bit {i : Nat} : (Int32.ofInt 0).toBitVec.getLsbD i = false := BitVec.getLsbD_zero
theorem fB_bit {P : Nat → Bool} {i : Nat} (hi : i < 32) : ∀ n, n ≤ 24 → (fB P n).toBitVec.getLsbD i = (decide (i < n) && P i)
  | 0, _ => by
    show (Int32.ofInt 0).toBitVec.getLsbD i = _
    rw [z0_bit, decide_eq_false (by omega), Bool.false_and]
  | n + 1, hn => by
    show (fB P n ||| _).toBitVec.getLsbD i = _
    rw [Int32.toBitVec_or, BitVec.getLsbD_or, fB_bit hi n (by omega)]
    by_cases hp : P n = true
    · rw [if_pos hp, sl_at (by omega) hi]
      by_cases q : i = n
      · subst q
        rw [decide_eq_true (p := i = i) rfl, Bool.or_true, hp, decide_eq_true (show i < i + 1 by omega)]
        rfl
      · rw [decide_eq_false q, Bool.or_false]
        by_cases q2 : i < n
        · rw [decide_eq_true q2, decide_eq_true (show i < n + 1 by omega)]
        · rw [decide_eq_false q2, decide_eq_false (show ¬ i < n + 1 by omega)]
    · rw [if_neg hp, z0_bit, Bool.or_false]
      by_cases q : i = n
      · subst q
        rw [Bool.not_eq_true] at hp
        rw [hp, Bool.and_false, Bool.and_false]
      · by_cases q2 : i < n
        · rw [decide_eq_true q2, decide_eq_true (show i < n + 1 by omega)]
        · rw [decide_eq_false q2, decide_eq_false (show ¬ i < n + 1 by omega)]
theorem i_bits {x y : Int32} (h : ∀ i, i < 32 → x.toBitVec.getLsbD i = y.toBitVec.getLsbD i) : x = y := Int32.toBitVec_inj.mp (BitVec.eq_of_getLsbD_eq h)
theorem m1_all : (List.range 32).all (fun i => decide ((Int32.ofInt (-1)).toBitVec.getLsbD i = true) && decide ((Int32.ofInt 16777215).toBitVec.getLsbD i = decide (i < 24))) = true := by decide +kernel
theorem fB_not {P : Nat → Bool} : Int32.ofInt 16777215 &&& (fB P 24 ^^^ Int32.ofInt (-1)) = fB (fun i => !P i) 24 := i_bits (fun i hi => by
  have m := List.all_eq_true.mp m1_all i (List.mem_range.mpr hi)
  rw [Bool.and_eq_true, decide_eq_true_eq, decide_eq_true_eq] at m
  rw [Int32.toBitVec_and, BitVec.getLsbD_and, Int32.toBitVec_xor, BitVec.getLsbD_xor, m.1, m.2, fB_bit hi 24 (by omega), fB_bit hi 24 (by omega)]
  by_cases q : i < 24
  · rw [decide_eq_true q, Bool.true_and, Bool.true_and, Bool.true_and, Bool.xor_true]
  · rw [decide_eq_false q, Bool.false_and, Bool.false_and])
theorem zJ_28 : zJ3 28 z_m28 z_c28 z_h28 := ⟨rfl, rfl, rfl⟩
noncomputable def p_28 (a : Nat) (m : Int32) (σ : zSg) (r : Int32) (σ' : zSg) : Prop := σ' = σ ∧ ∀ H, hH σ a H → r = fB (fun h => decide (H (16 + h) ≠ Int32.ofInt (-1)) && btb m (H (16 + h))) 24
noncomputable def i_28 (a : Nat) (m : Int32) (σ : zSg) (l0 : Nat) (l1 l2 l3 : Int32) (τ : zSg) : Prop := l0 = a ∧ l1 = m ∧ τ = σ ∧ ∃ n, n ≤ 24 ∧ l3 = Int32.ofNat n ∧ ∀ H, hH σ a H → l2 = fB (fun h => decide (H (16 + h) ≠ Int32.ofInt (-1)) && btb m (H (16 + h))) n
theorem sp_28_e (a0 : Nat) (a1 : Int32) (σ : zSg)  :
    i_28 a0 a1 σ a0 a1 (Int32.ofInt (0)) (Int32.ofInt (0)) σ := by
  exact ⟨rfl, rfl, rfl, 0, by omega, rfl, fun H K => rfl⟩
theorem sp_28_c4_t (a0 : Nat) (a1 : Int32) (σ : zSg) (l0 : Nat) (l1 : Int32) (l2 : Int32) (l3 : Int32) (τ : zSg) (hI : i_28 a0 a1 σ l0 l1 l2 l3 τ) (h1 : l3.toInt ≥ (24 : Int)) :
    p_28 (a0) (a1) σ l2 τ := by
  obtain ⟨rfl, rfl, rfl, n, hn, rfl, hI⟩ := hI
  rw [o32 (by omega)] at h1
  have : n = 24 := by omega
  subst this
  exact ⟨rfl, hI⟩
theorem sp_28_c4_ft (a0 : Nat) (a1 : Int32) (σ : zSg) (l0 : Nat) (l1 : Int32) (l2 : Int32) (l3 : Int32) (τ : zSg) (hI : i_28 a0 a1 σ l0 l1 l2 l3 τ) (h1 : l3.toInt < (24 : Int)) (h2 : 0 ≤ l3.toInt ∧ l3.toInt < (τ.2.1 (q_r (τ.1 l0 0)) : Int)) (h3 : (q_i (τ.1 (q_r (τ.1 l0 0)) l3.toNatClampNeg)).toInt = (-1 : Int)) :
    i_28 a0 a1 σ l0 l1 l2 (l3 + Int32.ofInt (1)) τ := by
  obtain ⟨rfl, rfl, rfl, n, hn, rfl, hI⟩ := hI
  rw [o32 (by omega)] at h1
  refine ⟨rfl, rfl, rfl, n + 1, by omega, o32i (by omega), fun H K => ?_⟩
  have ev : q_i (τ.1 (q_r (τ.1 l0 0)) (Int32.ofNat n).toNatClampNeg) = H (16 + n) := by
    rw [K.k hk_0, o32n (by omega)]
    exact K.p (hp_h (by omega))
  show _ = fB (fun h => decide (H (16 + h) ≠ Int32.ofInt (-1)) && btb l1 (H (16 + h))) n ||| _
  rw [ev] at h3
  have hm : H (16 + n) = Int32.ofInt (-1) := Int32.toInt_inj.mp (h3.trans (show (-1 : Int) = (Int32.ofInt (-1)).toInt from rfl))
  rw [if_neg (fun q => by
    have q : (decide (H (16 + n) ≠ Int32.ofInt (-1)) && btb l1 (H (16 + n))) = true := q
    rw [hm] at q
    simp at q), hI H K]
  exact Int32.or_zero.symm
theorem sp_28_c4_fft (a0 : Nat) (a1 : Int32) (σ : zSg) (l0 : Nat) (l1 : Int32) (l2 : Int32) (l3 : Int32) (τ : zSg) (hI : i_28 a0 a1 σ l0 l1 l2 l3 τ) (h1 : l3.toInt < (24 : Int)) (h2 : 0 ≤ l3.toInt ∧ l3.toInt < (τ.2.1 (q_r (τ.1 l0 0)) : Int)) (h3 : (q_i (τ.1 (q_r (τ.1 l0 0)) l3.toNatClampNeg)).toInt ≠ (-1 : Int)) (h4 : 0 ≤ l3.toInt ∧ l3.toInt < (τ.2.1 (q_r (τ.1 l0 0)) : Int)) (h5 : ((l1 >>> ((q_i (τ.1 (q_r (τ.1 l0 0)) l3.toNatClampNeg)) &&& 31)) &&& (Int32.ofInt (1))).toInt ≠ (1 : Int)) :
    i_28 a0 a1 σ l0 l1 l2 (l3 + Int32.ofInt (1)) τ := by
  obtain ⟨rfl, rfl, rfl, n, hn, rfl, hI⟩ := hI
  rw [o32 (by omega)] at h1
  refine ⟨rfl, rfl, rfl, n + 1, by omega, o32i (by omega), fun H K => ?_⟩
  have ev : q_i (τ.1 (q_r (τ.1 l0 0)) (Int32.ofNat n).toNatClampNeg) = H (16 + n) := by
    rw [K.k hk_0, o32n (by omega)]
    exact K.p (hp_h (by omega))
  show _ = fB (fun h => decide (H (16 + h) ≠ Int32.ofInt (-1)) && btb l1 (H (16 + h))) n ||| _
  rw [ev] at h5
  have hb : btb l1 (H (16 + n)) = false := decide_eq_false h5
  rw [if_neg (fun q => by
    have q : (decide (H (16 + n) ≠ Int32.ofInt (-1)) && btb l1 (H (16 + n))) = true := q
    rw [hb, Bool.and_false] at q
    cases q), hI H K]
  exact Int32.or_zero.symm
theorem sp_28_c4_fff (a0 : Nat) (a1 : Int32) (σ : zSg) (l0 : Nat) (l1 : Int32) (l2 : Int32) (l3 : Int32) (τ : zSg) (hI : i_28 a0 a1 σ l0 l1 l2 l3 τ) (h1 : l3.toInt < (24 : Int)) (h2 : 0 ≤ l3.toInt ∧ l3.toInt < (τ.2.1 (q_r (τ.1 l0 0)) : Int)) (h3 : (q_i (τ.1 (q_r (τ.1 l0 0)) l3.toNatClampNeg)).toInt ≠ (-1 : Int)) (h4 : 0 ≤ l3.toInt ∧ l3.toInt < (τ.2.1 (q_r (τ.1 l0 0)) : Int)) (h5 : ((l1 >>> ((q_i (τ.1 (q_r (τ.1 l0 0)) l3.toNatClampNeg)) &&& 31)) &&& (Int32.ofInt (1))).toInt = (1 : Int)) :
    i_28 a0 a1 σ l0 l1 (l2 ||| ((Int32.ofInt (1)) <<< (l3 &&& 31))) (l3 + Int32.ofInt (1)) τ := by
  obtain ⟨rfl, rfl, rfl, n, hn, rfl, hI⟩ := hI
  rw [o32 (by omega)] at h1
  refine ⟨rfl, rfl, rfl, n + 1, by omega, o32i (by omega), fun H K => ?_⟩
  have ev : q_i (τ.1 (q_r (τ.1 l0 0)) (Int32.ofNat n).toNatClampNeg) = H (16 + n) := by
    rw [K.k hk_0, o32n (by omega)]
    exact K.p (hp_h (by omega))
  show _ = fB (fun h => decide (H (16 + h) ≠ Int32.ofInt (-1)) && btb l1 (H (16 + h))) n ||| _
  rw [ev] at h3 h5
  have hb : btb l1 (H (16 + n)) = true := decide_eq_true h5
  rw [if_pos (by
    show (decide (H (16 + n) ≠ Int32.ofInt (-1)) && btb l1 (H (16 + n))) = true
    rw [hb, Bool.and_true]; exact decide_eq_true (fun q => h3 (by rw [q]; rfl))), hI H K]
noncomputable def qP_28 : zPp := fun as σ o σ' => match as with
  | [a0, a1] => ∃ r, o = .inl (some (.int r)) ∧ p_28 (q_r a0) (q_i a1) σ r σ'
  | _ => True
set_option maxRecDepth 100000 in
theorem sp_28 {sx : zX}  : zEe sx 28 2 qP_28 := by
  refine zfle zJ_28 (sps := []) (fun q hq => absurd hq List.not_mem_nil) (fun as σ hl => ?_)
  match as, hl with
  | [a0, a1], _ =>
  refine ⟨[(4, fun lo st τ => st = [] ∧ i_28 (q_r a0) (q_i a1) σ (q_r (lo 0)) (q_i (lo 1)) (q_i (lo 2)) (q_i (lo 3)) τ)], 400, ?_, ?_⟩
  · intro q hq
    simp only [List.mem_cons, List.not_mem_nil, or_false] at hq
    rcases hq with rfl
    · rintro lo st τ ⟨rfl, hI⟩
      refine ⟨400, ?_⟩
      refine And.intro (fun h1 => ?_) (fun h1 => ?_)
      · exact ⟨_, rfl, sp_28_c4_t (q_r a0) (q_i a1) σ (q_r (lo 0)) (q_i (lo 1)) (q_i (lo 2)) (q_i (lo 3)) τ hI (cm3t h1)⟩
      · refine fun h2 => ?_
        refine And.intro (fun h3 => ?_) (fun h3 => ?_)
        · exact ⟨rfl, sp_28_c4_ft (q_r a0) (q_i a1) σ (q_r (lo 0)) (q_i (lo 1)) (q_i (lo 2)) (q_i (lo 3)) τ hI (cm3f h1) (q_inp h2) (cm0t h3)⟩
        · refine fun h4 => ?_
          refine And.intro (fun h5 => ?_) (fun h5 => ?_)
          · exact ⟨rfl, sp_28_c4_fft (q_r a0) (q_i a1) σ (q_r (lo 0)) (q_i (lo 1)) (q_i (lo 2)) (q_i (lo 3)) τ hI (cm3f h1) (q_inp h2) (cm0f h3) (q_inp h4) (cm1t h5)⟩
          · exact ⟨rfl, sp_28_c4_fff (q_r a0) (q_i a1) σ (q_r (lo 0)) (q_i (lo 1)) (q_i (lo 2)) (q_i (lo 3)) τ hI (cm3f h1) (q_inp h2) (cm0f h3) (q_inp h4) (cm1f h5)⟩
  · exact ⟨rfl, sp_28_e (q_r a0) (q_i a1) σ ⟩
theorem zJ_242 : zJ3 242 z_m242 z_c242 z_h242 := ⟨rfl, rfl, rfl⟩
noncomputable def p_242 (a : Nat) (f : Int32) (σ : zSg) (r : Int32) (σ' : zSg) : Prop := σ' = σ ∧ (a = 205 → ∀ A, rW σ A → r = fB (fun h => decide (A (16 + h) = f)) 24)
noncomputable def i_242 (a : Nat) (f : Int32) (σ : zSg) (l0 : Nat) (l1 l2 l3 : Int32) (τ : zSg) : Prop := l0 = a ∧ l1 = f ∧ τ = σ ∧ ∃ n, n ≤ 24 ∧ l3 = Int32.ofNat n ∧ (a = 205 → ∀ A, rW σ A → l2 = fB (fun h => decide (A (16 + h) = f)) n)
theorem sp_242_e (a0 : Nat) (a1 : Int32) (σ : zSg)  :
    i_242 a0 a1 σ a0 a1 (Int32.ofInt (0)) (Int32.ofInt (0)) σ := by
  exact ⟨rfl, rfl, rfl, 0, by omega, rfl, fun _ A w => rfl⟩
theorem sp_242_c4_t (a0 : Nat) (a1 : Int32) (σ : zSg) (l0 : Nat) (l1 : Int32) (l2 : Int32) (l3 : Int32) (τ : zSg) (hI : i_242 a0 a1 σ l0 l1 l2 l3 τ) (h1 : l3.toInt ≥ (24 : Int)) :
    p_242 (a0) (a1) σ l2 τ := by
  obtain ⟨rfl, rfl, rfl, n, hn, rfl, hI⟩ := hI
  rw [o32 (by omega)] at h1
  have : n = 24 := by omega
  subst this
  exact ⟨rfl, hI⟩
theorem sp_242_c4_ft (a0 : Nat) (a1 : Int32) (σ : zSg) (l0 : Nat) (l1 : Int32) (l2 : Int32) (l3 : Int32) (τ : zSg) (τ2 : zSg) (r2 : Int32) (hI : i_242 a0 a1 σ l0 l1 l2 l3 τ) (h1 : l3.toInt < (24 : Int)) (g2 : p_186 l0 l3 τ r2 τ2) (h3 : r2.toInt ≠ l1.toInt) :
    i_242 a0 a1 σ l0 l1 (l2 ||| (Int32.ofInt (0))) (l3 + Int32.ofInt (1)) τ2 := by
  obtain ⟨rfl, rfl, rfl, n, hn, rfl, hI⟩ := hI
  rw [o32 (by omega)] at h1
  obtain ⟨rfl, g1⟩ := g2
  refine ⟨rfl, rfl, rfl, n + 1, by omega, o32i (by omega), fun h A w => ?_⟩
  have x1 := g1 h A n w rfl (by omega)
  rw [x1] at h3
  show _ = fB (fun h => decide (A (16 + h) = l1)) n ||| _
  rw [if_neg (fun q => h3 (congrArg Int32.toInt (of_decide_eq_true q))), hI h A w]
theorem sp_242_c4_ff (a0 : Nat) (a1 : Int32) (σ : zSg) (l0 : Nat) (l1 : Int32) (l2 : Int32) (l3 : Int32) (τ : zSg) (τ2 : zSg) (r2 : Int32) (hI : i_242 a0 a1 σ l0 l1 l2 l3 τ) (h1 : l3.toInt < (24 : Int)) (g2 : p_186 l0 l3 τ r2 τ2) (h3 : r2.toInt = l1.toInt) :
    i_242 a0 a1 σ l0 l1 (l2 ||| ((Int32.ofInt (1)) <<< (l3 &&& 31))) (l3 + Int32.ofInt (1)) τ2 := by
  obtain ⟨rfl, rfl, rfl, n, hn, rfl, hI⟩ := hI
  rw [o32 (by omega)] at h1
  obtain ⟨rfl, g1⟩ := g2
  refine ⟨rfl, rfl, rfl, n + 1, by omega, o32i (by omega), fun h A w => ?_⟩
  have x1 := g1 h A n w rfl (by omega)
  rw [x1] at h3
  show _ = fB (fun h => decide (A (16 + h) = l1)) n ||| _
  rw [if_pos (decide_eq_true (Int32.toInt_inj.mp h3)), hI h A w]
noncomputable def qP_242 : zPp := fun as σ o σ' => match as with
  | [a0, a1] => ∃ r, o = .inl (some (.int r)) ∧ p_242 (q_r a0) (q_i a1) σ r σ'
  | _ => True
set_option maxRecDepth 100000 in
theorem sp_242 {sx : zX} (S186 : zEe sx 186 2 qP_186) : zEe sx 242 2 qP_242 := by
  refine zfle zJ_242 (sps := [(186, 2, qP_186)]) (fun q hq => by
    simp only [List.mem_cons, List.not_mem_nil, or_false] at hq
    rcases hq with rfl
    · exact S186) (fun as σ hl => ?_)
  match as, hl with
  | [a0, a1], _ =>
  refine ⟨[(4, fun lo st τ => st = [] ∧ i_242 (q_r a0) (q_i a1) σ (q_r (lo 0)) (q_i (lo 1)) (q_i (lo 2)) (q_i (lo 3)) τ)], 400, ?_, ?_⟩
  · intro q hq
    simp only [List.mem_cons, List.not_mem_nil, or_false] at hq
    rcases hq with rfl
    · rintro lo st τ ⟨rfl, hI⟩
      refine ⟨400, ?_⟩
      refine And.intro (fun h1 => ?_) (fun h1 => ?_)
      · exact ⟨_, rfl, sp_242_c4_t (q_r a0) (q_i a1) σ (q_r (lo 0)) (q_i (lo 1)) (q_i (lo 2)) (q_i (lo 3)) τ hI (cm3t h1)⟩
      · refine fun o2 τ2 g2 => ?_
        obtain ⟨r2, rfl, g2⟩ := g2
        refine And.intro (fun h3 => ?_) (fun h3 => ?_)
        · exact ⟨rfl, sp_242_c4_ft (q_r a0) (q_i a1) σ (q_r (lo 0)) (q_i (lo 1)) (q_i (lo 2)) (q_i (lo 3)) τ τ2 r2 hI (cm3f h1) g2 (cm1t h3)⟩
        · exact ⟨rfl, sp_242_c4_ff (q_r a0) (q_i a1) σ (q_r (lo 0)) (q_i (lo 1)) (q_i (lo 2)) (q_i (lo 3)) τ τ2 r2 hI (cm3f h1) g2 (cm1f h3)⟩
  · exact ⟨rfl, sp_242_e (q_r a0) (q_i a1) σ ⟩
theorem zJ_11 : zJ3 11 z_m11 z_c11 z_h11 := ⟨rfl, rfl, rfl⟩
noncomputable def p_11 (a : Nat) (σ : zSg) (r : Int32) (σ' : zSg) : Prop := σ' = σ ∧ ∀ b H, a = b + 2 → hH σ b H → r = (Int32.ofInt 1 <<< (H 0 &&& 31)) - Int32.ofInt 1
theorem sp_11_e (a0 : Nat) (σ : zSg)  :
    p_11 (a0) σ (((Int32.ofInt (1)) <<< ((q_i (σ.1 a0 4)) &&& 31)) - (Int32.ofInt (1))) σ := by
  refine ⟨rfl, ?_⟩
  rintro b H rfl K
  have p0 := K.p hp_0
  rw [p0]
noncomputable def qP_11 : zPp := fun as σ o σ' => match as with
  | [a0] => ∃ r, o = .inl (some (.int r)) ∧ p_11 (q_r a0) σ r σ'
  | _ => True
set_option maxRecDepth 100000 in
theorem sp_11 {sx : zX}  : zEe sx 11 1 qP_11 := by
  refine zfle zJ_11 (sps := []) (fun q hq => absurd hq List.not_mem_nil) (fun as σ hl => ?_)
  match as, hl with
  | [a0], _ =>
  refine ⟨[], 400, ?_, ?_⟩
  · exact fun q hq => absurd hq List.not_mem_nil
  · exact ⟨_, rfl, sp_11_e (q_r a0) σ ⟩
theorem ev_all : (List.range 7).all (fun n => (List.range n).all (fun F => decide (btb ((Int32.ofInt 1 <<< (Int32.ofNat n &&& 31)) - Int32.ofInt 1) (Int32.ofNat F) = true))) = true := by decide +kernel
theorem ev_at {n F : Nat} (hn : n ≤ 6) (hF : F < n) : btb ((Int32.ofInt 1 <<< (Int32.ofNat n &&& 31)) - Int32.ofInt 1) (Int32.ofNat F) = true := of_decide_eq_true (List.all_eq_true.mp (List.all_eq_true.mp ev_all n (List.mem_range.mpr (by omega))) F (List.mem_range.mpr hF))
theorem zJ_71 : zJ3 71 z_m71 z_c71 z_h71 := ⟨rfl, rfl, rfl⟩
noncomputable def p_71 (b : Nat) (σ : zSg) (r : Int32) (σ' : zSg) : Prop := σ' = σ ∧ ∀ A nf nt, hH σ b A → aI nf nt A → r = fB (fun h => decide (A (16 + h) = Int32.ofInt (-1))) 24
theorem sp_71_e (a0 : Nat) (σ : zSg) (τ1 : zSg) (r1 : Int32) (τ2 : zSg) (r2 : Int32) (g1 : p_11 (q_r (σ.1 a0 1)) σ r1 τ1) (g2 : p_28 a0 r1 τ1 r2 τ2) :
    p_71 (a0) σ ((Int32.ofInt (16777215)) &&& (r2 ^^^ (Int32.ofInt (-1)))) τ2 := by
  obtain ⟨rfl, g1⟩ := g1
  obtain ⟨rfl, g2⟩ := g2
  refine ⟨rfl, fun A nf nt K I => ?_⟩
  rw [K.k hk_1] at g1
  have x1 := g1 a0 A rfl K
  rw [I.1.1] at x1
  have x2 := g2 A K
  rw [x2, x1, fB_not]
  refine fB_cg 24 (fun h hh => ?_)
  rcases I.2.1 h hh with q | ⟨F, hF, q⟩
  · rw [q]
    simp
  · have ne : Int32.ofNat F ≠ Int32.ofInt (-1) := fun e => by
      have := congrArg Int32.toInt e
      rw [o32 (by have := I.1.2.1; omega), show (Int32.ofInt (-1)).toInt = -1 from rfl] at this
      omega
    rw [q, ev_at I.1.2.1 hF, Bool.and_true, decide_eq_true ne, decide_eq_false ne]
    rfl
noncomputable def qP_71 : zPp := fun as σ o σ' => match as with
  | [a0] => ∃ r, o = .inl (some (.int r)) ∧ p_71 (q_r a0) σ r σ'
  | _ => True
set_option maxRecDepth 100000 in
theorem sp_71 {sx : zX} (S11 : zEe sx 11 1 qP_11) (S28 : zEe sx 28 2 qP_28) : zEe sx 71 1 qP_71 := by
  refine zfle zJ_71 (sps := [(11, 1, qP_11), (28, 2, qP_28)]) (fun q hq => by
    simp only [List.mem_cons, List.not_mem_nil, or_false] at hq
    rcases hq with rfl | rfl
    · exact S11
    · exact S28) (fun as σ hl => ?_)
  match as, hl with
  | [a0], _ =>
  refine ⟨[], 400, ?_, ?_⟩
  · exact fun q hq => absurd hq List.not_mem_nil
  · refine fun o1 τ1 g1 => ?_
    obtain ⟨r1, rfl, g1⟩ := g1
    refine fun o2 τ2 g2 => ?_
    obtain ⟨r2, rfl, g2⟩ := g2
    exact ⟨_, rfl, sp_71_e (q_r a0) σ τ1 r1 τ2 r2 g1 g2⟩
theorem zJ_138 : zJ3 138 z_m138 z_c138 z_h138 := ⟨rfl, rfl, rfl⟩
noncomputable def p_138 (a : Nat) (σ : zSg) (r : Int32) (σ' : zSg) : Prop := a = 0 → xSk σ → σ' = σ ∧ ∀ A nf nt, hH σ 8 A → aI nf nt A → r = fB (fun h => decide (A (16 + h) = Int32.ofInt (-1))) 24
theorem sp_138_e (a0 : Nat) (σ : zSg) (τ1 : zSg) (r1 : Int32) (g1 : p_71 (q_r (σ.1 a0 2)) σ r1 τ1) :
    p_138 (a0) σ r1 τ1 := by
  rintro rfl K
  have d2 : q_r (σ.1 0 2) = 8 := by rw [K.2.1]; rfl
  rw [d2] at g1
  exact g1
noncomputable def qP_138 : zPp := fun as σ o σ' => match as with
  | [a0] => ∃ r, o = .inl (some (.int r)) ∧ p_138 (q_r a0) σ r σ'
  | _ => True
set_option maxRecDepth 100000 in
theorem sp_138 {sx : zX} (S71 : zEe sx 71 1 qP_71) : zEe sx 138 1 qP_138 := by
  refine zfle zJ_138 (sps := [(71, 1, qP_71)]) (fun q hq => by
    simp only [List.mem_cons, List.not_mem_nil, or_false] at hq
    rcases hq with rfl
    · exact S71) (fun as σ hl => ?_)
  match as, hl with
  | [a0], _ =>
  refine ⟨[], 400, ?_, ?_⟩
  · exact fun q hq => absurd hq List.not_mem_nil
  · refine fun o1 τ1 g1 => ?_
    obtain ⟨r1, rfl, g1⟩ := g1
    exact ⟨_, rfl, sp_138_e (q_r a0) σ τ1 r1 g1⟩
theorem zJ_279 : zJ3 279 z_m279 z_c279 z_h279 := ⟨rfl, rfl, rfl⟩
noncomputable def p_279 (a : Nat) (σ : zSg) (r : Int32) (σ' : zSg) : Prop := a = 205 → ∀ A, rW σ A → σ' = r0 σ ∧ r = fB (fun h => decide (A (16 + h) = Int32.ofInt (-1))) 24
theorem sp_279_e (a0 : Nat) (σ : zSg) (τ1 : zSg) (r1 : Int32) (g1 : p_242 a0 (Int32.ofInt (-1)) (q_w σ a0 0 (.int (Int32.ofInt (0)))) r1 τ1) :
    p_279 (a0) σ r1 τ1 := by
  rintro rfl A w
  obtain ⟨e1, g1⟩ := g1
  exact ⟨e1, g1 rfl A (w.el (by omega))⟩
noncomputable def qP_279 : zPp := fun as σ o σ' => match as with
  | [a0] => ∃ r, o = .inl (some (.int r)) ∧ p_279 (q_r a0) σ r σ'
  | _ => True
set_option maxRecDepth 100000 in
theorem sp_279 {sx : zX} (S242 : zEe sx 242 2 qP_242) : zEe sx 279 1 qP_279 := by
  refine zfle zJ_279 (sps := [(242, 2, qP_242)]) (fun q hq => by
    simp only [List.mem_cons, List.not_mem_nil, or_false] at hq
    rcases hq with rfl
    · exact S242) (fun as σ hl => ?_)
  match as, hl with
  | [a0], _ =>
  refine ⟨[], 400, ?_, ?_⟩
  · exact fun q hq => absurd hq List.not_mem_nil
  · refine fun o1 τ1 g1 => ?_
    obtain ⟨r1, rfl, g1⟩ := g1
    exact ⟨_, rfl, sp_279_e (q_r a0) σ τ1 r1 g1⟩
theorem zJ_156 : zJ3 156 z_m156 z_c156 z_h156 := ⟨rfl, rfl, rfl⟩
noncomputable def p_156 (a : Nat) (σ : zSg) (r : Int32) (σ' : zSg) : Prop := a = 0 → xSk σ → ∀ A nf nt, hH σ 8 A → aI nf nt A → σ' = σ ∧ ∀ q, A 4 = Int32.ofNat q → q < 24 → r = aBo A (A (16 + q)) nt
theorem sp_156_e (a0 : Nat) (σ : zSg) (τ1 : zSg) (r1 : Int32) (τ2 : zSg) (r2 : Int32) (g1 : p_27 (q_r (σ.1 a0 2)) σ r1 τ1) (g2 : p_109 (q_r (σ.1 (q_r (σ.1 a0 2)) 2)) r1 τ1 r2 τ2) :
    p_156 (a0) σ r2 τ2 := by
  rintro rfl K A nf nt H I
  have d2 : q_r (σ.1 0 2) = 8 := by rw [K.2.1]; rfl
  rw [d2] at g1 g2
  obtain ⟨rfl, g1⟩ := g1
  rw [H.k hk_2] at g2
  obtain ⟨e2, x2⟩ := g2 8 A nt rfl H I.1.2.2.1 I.1.2.2.2.1
  refine ⟨e2, fun q eq hq => ?_⟩
  rw [x2, g1 A q H eq hq]
noncomputable def qP_156 : zPp := fun as σ o σ' => match as with
  | [a0] => ∃ r, o = .inl (some (.int r)) ∧ p_156 (q_r a0) σ r σ'
  | _ => True
set_option maxRecDepth 100000 in
theorem sp_156 {sx : zX} (S27 : zEe sx 27 1 qP_27) (S109 : zEe sx 109 2 qP_109) : zEe sx 156 1 qP_156 := by
  refine zfle zJ_156 (sps := [(27, 1, qP_27), (109, 2, qP_109)]) (fun q hq => by
    simp only [List.mem_cons, List.not_mem_nil, or_false] at hq
    rcases hq with rfl | rfl
    · exact S27
    · exact S109) (fun as σ hl => ?_)
  match as, hl with
  | [a0], _ =>
  refine ⟨[], 400, ?_, ?_⟩
  · exact fun q hq => absurd hq List.not_mem_nil
  · refine fun o1 τ1 g1 => ?_
    obtain ⟨r1, rfl, g1⟩ := g1
    refine fun o2 τ2 g2 => ?_
    obtain ⟨r2, rfl, g2⟩ := g2
    exact ⟨_, rfl, sp_156_e (q_r a0) σ τ1 r1 τ2 r2 g1 g2⟩
theorem zJ_302 : zJ3 302 z_m302 z_c302 z_h302 := ⟨rfl, rfl, rfl⟩
noncomputable def p_302 (a : Nat) (σ : zSg) (r : Int32) (σ' : zSg) : Prop := a = 205 → ∀ A nf nt, rW σ A → aI nf nt A → σ' = r0 σ ∧ ∀ q, A 4 = Int32.ofNat q → q < 24 → r = aBo A (A (16 + q)) nt
noncomputable def i_302 (a : Nat) (σ : zSg) (l0 : Nat) (l1 l2 : Int32) (τ : zSg) : Prop := l0 = a ∧ (a = 205 → ∀ A nf nt, rW σ A → aI nf nt A → τ = r0 σ ∧ ∃ n, n ≤ nt ∧ l2 = Int32.ofNat n ∧ ∀ q, A 4 = Int32.ofNat q → q < 24 → l1 = aBo A (A (16 + q)) n)
theorem sp_302_e (a0 : Nat) (σ : zSg)  :
    i_302 a0 σ a0 (Int32.ofInt (0)) (Int32.ofInt (0)) (q_w σ a0 0 (.int (Int32.ofInt (0)))) := by
  refine ⟨rfl, ?_⟩
  rintro rfl A nf nt w I
  exact ⟨rfl, 0, by omega, rfl, fun _ _ _ => rfl⟩
theorem sp_302_c7_t (a0 : Nat) (σ : zSg) (l0 : Nat) (l1 : Int32) (l2 : Int32) (τ : zSg) (τ1 : zSg) (r1 : Int32) (hI : i_302 a0 σ l0 l1 l2 τ) (g1 : p_185 l0 τ r1 τ1) (h2 : l2.toInt ≥ r1.toInt) :
    p_302 (a0) σ l1 τ1 := by
  obtain ⟨rfl, hI⟩ := hI
  intro h A nf nt w I
  obtain ⟨e0, n, hn, e2, e1⟩ := hI h A nf nt w I
  have w0 : rW τ A := by rw [e0]; exact w.el (by omega)
  have k8 := I.1.2.2.2.1
  obtain ⟨ea, ga⟩ := g1
  have x1 := ga h A w0
  rw [x1, I.1.2.2.1, e2, o32 (by omega), o32 (by omega)] at h2
  have : n = nt := by omega
  subst this
  exact ⟨ea.trans e0, e1⟩
theorem sp_302_c7_ft (a0 : Nat) (σ : zSg) (l0 : Nat) (l1 : Int32) (l2 : Int32) (τ : zSg) (τ1 : zSg) (r1 : Int32) (τ3 : zSg) (r3 : Int32) (hI : i_302 a0 σ l0 l1 l2 τ) (g1 : p_185 l0 τ r1 τ1) (h2 : l2.toInt < r1.toInt) (g3 : p_194 l0 l2 τ1 r3 τ3) (h4 : r3.toInt = (0 : Int)) :
    i_302 a0 σ l0 (l1 + (Int32.ofInt (0))) (l2 + Int32.ofInt (1)) τ3 := by
  have es : τ3 = τ := g3.1.trans g1.1
  obtain ⟨rfl, hI⟩ := hI
  refine ⟨rfl, fun h A nf nt w I => ?_⟩
  obtain ⟨e0, n, hn, e2, e1⟩ := hI h A nf nt w I
  have w0 : rW τ A := by rw [e0]; exact w.el (by omega)
  have k8 := I.1.2.2.2.1
  obtain ⟨ea, ga⟩ := g1
  subst ea
  have x1 := ga h A w0
  rw [x1, I.1.2.2.1, e2, o32 (by omega), o32 (by omega)] at h2
  refine ⟨es.trans e0, n + 1, by omega, by rw [e2]; exact o32i (by omega), fun q eq hq => ?_⟩
  show _ = aSm (aB1 A (A (16 + q))) n + aB1 A (A (16 + q)) n
  have el := e1 q eq hq
  obtain ⟨eb, gb⟩ := g3
  subst eb
  have x2 := gb h A w0 n e2 (by omega)
  rw [x2] at h4
  unfold aB1
  have nl : ¬ A (66 + 3 * n) = Int32.ofInt 1 := fun q => by rw [if_pos q] at h4; exact absurd h4 (by decide)
  rw [if_neg (fun q => nl q.1)]
  exact congrArg (fun x => x + Int32.ofInt 0) el
theorem sp_302_c7_fft (a0 : Nat) (σ : zSg) (l0 : Nat) (l1 : Int32) (l2 : Int32) (τ : zSg) (τ1 : zSg) (r1 : Int32) (τ3 : zSg) (r3 : Int32) (τ5 : zSg) (r5 : Int32) (τ6 : zSg) (r6 : Int32) (hI : i_302 a0 σ l0 l1 l2 τ) (g1 : p_185 l0 τ r1 τ1) (h2 : l2.toInt < r1.toInt) (g3 : p_194 l0 l2 τ1 r3 τ3) (h4 : r3.toInt ≠ (0 : Int)) (g5 : p_193 l0 l2 (Int32.ofInt (0)) τ3 r5 τ5) (g6 : p_188 l0 τ5 r6 τ6) (h7 : r5.toInt = r6.toInt) :
    i_302 a0 σ l0 (l1 + (Int32.ofInt (0))) (l2 + Int32.ofInt (1)) τ6 := by
  have es : τ6 = τ := g6.1.trans (g5.1.trans (g3.1.trans g1.1))
  obtain ⟨rfl, hI⟩ := hI
  refine ⟨rfl, fun h A nf nt w I => ?_⟩
  obtain ⟨e0, n, hn, e2, e1⟩ := hI h A nf nt w I
  have w0 : rW τ A := by rw [e0]; exact w.el (by omega)
  have k8 := I.1.2.2.2.1
  obtain ⟨ea, ga⟩ := g1
  subst ea
  have x1 := ga h A w0
  rw [x1, I.1.2.2.1, e2, o32 (by omega), o32 (by omega)] at h2
  refine ⟨es.trans e0, n + 1, by omega, by rw [e2]; exact o32i (by omega), fun q eq hq => ?_⟩
  show _ = aSm (aB1 A (A (16 + q))) n + aB1 A (A (16 + q)) n
  have el := e1 q eq hq
  obtain ⟨eb, gb⟩ := g3
  subst eb
  have x2 := gb h A w0 n e2 (by omega)
  rw [x2] at h4
  unfold aB1
  have nl : A (66 + 3 * n) = Int32.ofInt 1 := Decidable.byContradiction (fun q => by rw [if_neg q] at h4; exact h4 rfl)
  obtain ⟨ec, gc⟩ := g5
  subst ec
  have x3 : r5 = A (64 + 3 * n) := gc h A w0 n 0 e2 (by omega) rfl (by omega)
  obtain ⟨ed, gd⟩ := g6
  subst ed
  have x4 := gd h A w0 q eq hq
  rw [x3, x4] at h7
  rw [if_neg (fun q => q.2 (Int32.toInt_inj.mp h7))]
  exact congrArg (fun x => x + Int32.ofInt 0) el
theorem sp_302_c7_fff (a0 : Nat) (σ : zSg) (l0 : Nat) (l1 : Int32) (l2 : Int32) (τ : zSg) (τ1 : zSg) (r1 : Int32) (τ3 : zSg) (r3 : Int32) (τ5 : zSg) (r5 : Int32) (τ6 : zSg) (r6 : Int32) (τ8 : zSg) (r8 : Int32) (hI : i_302 a0 σ l0 l1 l2 τ) (g1 : p_185 l0 τ r1 τ1) (h2 : l2.toInt < r1.toInt) (g3 : p_194 l0 l2 τ1 r3 τ3) (h4 : r3.toInt ≠ (0 : Int)) (g5 : p_193 l0 l2 (Int32.ofInt (0)) τ3 r5 τ5) (g6 : p_188 l0 τ5 r6 τ6) (h7 : r5.toInt ≠ r6.toInt) (g8 : p_193 l0 l2 (Int32.ofInt (1)) τ6 r8 τ8) :
    i_302 a0 σ l0 (l1 + r8) (l2 + Int32.ofInt (1)) τ8 := by
  have es : τ8 = τ := g8.1.trans (g6.1.trans (g5.1.trans (g3.1.trans g1.1)))
  obtain ⟨rfl, hI⟩ := hI
  refine ⟨rfl, fun h A nf nt w I => ?_⟩
  obtain ⟨e0, n, hn, e2, e1⟩ := hI h A nf nt w I
  have w0 : rW τ A := by rw [e0]; exact w.el (by omega)
  have k8 := I.1.2.2.2.1
  obtain ⟨ea, ga⟩ := g1
  subst ea
  have x1 := ga h A w0
  rw [x1, I.1.2.2.1, e2, o32 (by omega), o32 (by omega)] at h2
  refine ⟨es.trans e0, n + 1, by omega, by rw [e2]; exact o32i (by omega), fun q eq hq => ?_⟩
  show _ = aSm (aB1 A (A (16 + q))) n + aB1 A (A (16 + q)) n
  have el := e1 q eq hq
  obtain ⟨eb, gb⟩ := g3
  subst eb
  have x2 := gb h A w0 n e2 (by omega)
  rw [x2] at h4
  unfold aB1
  have nl : A (66 + 3 * n) = Int32.ofInt 1 := Decidable.byContradiction (fun q => by rw [if_neg q] at h4; exact h4 rfl)
  obtain ⟨ec, gc⟩ := g5
  subst ec
  have x3 : r5 = A (64 + 3 * n) := gc h A w0 n 0 e2 (by omega) rfl (by omega)
  obtain ⟨ed, gd⟩ := g6
  subst ed
  have x4 := gd h A w0 q eq hq
  rw [x3, x4] at h7
  rw [if_pos ⟨nl, fun q => h7 (congrArg Int32.toInt q)⟩]
  have x5 : r8 = A (65 + 3 * n) := g8.2 h A w0 n 1 e2 (by omega) rfl (by omega)
  rw [x5]
  exact congrArg (fun x => x + A (65 + 3 * n)) el
noncomputable def qP_302 : zPp := fun as σ o σ' => match as with
  | [a0] => ∃ r, o = .inl (some (.int r)) ∧ p_302 (q_r a0) σ r σ'
  | _ => True
set_option maxRecDepth 100000 in
theorem sp_302 {sx : zX} (S185 : zEe sx 185 1 qP_185) (S194 : zEe sx 194 2 qP_194) (S193 : zEe sx 193 3 qP_193) (S188 : zEe sx 188 1 qP_188) : zEe sx 302 1 qP_302 := by
  refine zfle zJ_302 (sps := [(185, 1, qP_185), (194, 2, qP_194), (193, 3, qP_193), (188, 1, qP_188)]) (fun q hq => by
    simp only [List.mem_cons, List.not_mem_nil, or_false] at hq
    rcases hq with rfl | rfl | rfl | rfl
    · exact S185
    · exact S194
    · exact S193
    · exact S188) (fun as σ hl => ?_)
  match as, hl with
  | [a0], _ =>
  refine ⟨[(7, fun lo st τ => st = [] ∧ i_302 (q_r a0) σ (q_r (lo 0)) (q_i (lo 1)) (q_i (lo 2)) τ)], 400, ?_, ?_⟩
  · intro q hq
    simp only [List.mem_cons, List.not_mem_nil, or_false] at hq
    rcases hq with rfl
    · rintro lo st τ ⟨rfl, hI⟩
      refine ⟨400, ?_⟩
      refine fun o1 τ1 g1 => ?_
      obtain ⟨r1, rfl, g1⟩ := g1
      refine And.intro (fun h2 => ?_) (fun h2 => ?_)
      · exact ⟨_, rfl, sp_302_c7_t (q_r a0) σ (q_r (lo 0)) (q_i (lo 1)) (q_i (lo 2)) τ τ1 r1 hI g1 (cm3t h2)⟩
      · refine fun o3 τ3 g3 => ?_
        obtain ⟨r3, rfl, g3⟩ := g3
        refine And.intro (fun h4 => ?_) (fun h4 => ?_)
        · exact ⟨rfl, sp_302_c7_ft (q_r a0) σ (q_r (lo 0)) (q_i (lo 1)) (q_i (lo 2)) τ τ1 r1 τ3 r3 hI g1 (cm3f h2) g3 (cm0t h4)⟩
        · refine fun o5 τ5 g5 => ?_
          obtain ⟨r5, rfl, g5⟩ := g5
          refine fun o6 τ6 g6 => ?_
          obtain ⟨r6, rfl, g6⟩ := g6
          refine And.intro (fun h7 => ?_) (fun h7 => ?_)
          · exact ⟨rfl, sp_302_c7_fft (q_r a0) σ (q_r (lo 0)) (q_i (lo 1)) (q_i (lo 2)) τ τ1 r1 τ3 r3 τ5 r5 τ6 r6 hI g1 (cm3f h2) g3 (cm0f h4) g5 g6 (cm0t h7)⟩
          · refine fun o8 τ8 g8 => ?_
            obtain ⟨r8, rfl, g8⟩ := g8
            exact ⟨rfl, sp_302_c7_fff (q_r a0) σ (q_r (lo 0)) (q_i (lo 1)) (q_i (lo 2)) τ τ1 r1 τ3 r3 τ5 r5 τ6 r6 τ8 r8 hI g1 (cm3f h2) g3 (cm0f h4) g5 g6 (cm0f h7) g8⟩
  · exact ⟨rfl, sp_302_e (q_r a0) σ ⟩
theorem zJ_317 : zJ3 317 z_m317 z_c317 z_h317 := ⟨rfl, rfl, rfl⟩
noncomputable def p_317 (a : Nat) (a1 : Int32) (o : Nat) (σ : zSg) (k : Int32) (σ' : zSg) : Prop := ∃ e τ, p_123 a a1 σ e τ ∧ ((∃ v, e = .inl v ∧ k = Int32.ofInt 0 ∧ σ' = q_w τ o 0 (.long v.toInt64)) ∨ (e = .inr 2 ∧ k = Int32.ofInt 1 ∧ σ' = τ))
theorem sp_317_en (a0 : Nat) (a1 : Int32) (a2 : Nat) (σ : zSg) (τ1 : zSg) (r1 : Int32) (g1 : p_123 a0 a1 σ (.inl r1) τ1) (h2 : 0 ≤ (Int32.ofInt (0)).toInt ∧ (Int32.ofInt (0)).toInt < (τ1.2.1 a2 : Int)) :
    p_317 (a0) (a1) (a2) σ (Int32.ofInt (0)) (q_w τ1 a2 (Int32.ofInt (0)).toNatClampNeg (.long r1.toInt64)) := by
  exact ⟨_, _, g1, Or.inl ⟨_, rfl, rfl, rfl⟩⟩
theorem sp_317_ex2_ (a0 : Nat) (a1 : Int32) (a2 : Nat) (σ : zSg) (τ1 : zSg) (g1 : p_123 a0 a1 σ (.inr 2) τ1) :
    p_317 (a0) (a1) (a2) σ (Int32.ofInt (1)) τ1 := by
  exact ⟨_, _, g1, Or.inr (⟨rfl, rfl, rfl⟩)⟩
noncomputable def qP_317 : zPp := fun as σ o σ' => match as with
  | [a0, a1, a2] => ∃ r, o = .inl (some (.int r)) ∧ p_317 (q_r a0) (q_i a1) (q_r a2) σ r σ'
  | _ => True
set_option maxRecDepth 100000 in
theorem sp_317 {sx : zX} (S123 : zEe sx 123 2 qP_123) : zEe sx 317 3 qP_317 := by
  refine zfle zJ_317 (sps := [(123, 2, qP_123)]) (fun q hq => by
    simp only [List.mem_cons, List.not_mem_nil, or_false] at hq
    rcases hq with rfl
    · exact S123) (fun as σ hl => ?_)
  match as, hl with
  | [a0, a1, a2], _ =>
  refine ⟨[], 400, ?_, ?_⟩
  · exact fun q hq => absurd hq List.not_mem_nil
  · refine fun o1 τ1 g1 => ?_
    rcases g1 with ⟨r1, rfl, g1⟩ | ⟨rfl, g1⟩
    · refine fun h2 => ?_
      exact ⟨_, rfl, sp_317_en (q_r a0) (q_i a1) (q_r a2) σ τ1 r1 g1 (q_inp h2)⟩
    · exact ⟨_, rfl, sp_317_ex2_ (q_r a0) (q_i a1) (q_r a2) σ τ1 g1⟩
