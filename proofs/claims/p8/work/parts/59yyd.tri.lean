section
/-! readers of both sides, exact: trial, span; printed with wip/gen/gen_dy.py -/
theorem fm300 : (List.range 300).all (fun t => decide (0 ≤ (Int32.ofNat t ^^^ Int32.ofInt 24).toInt) && decide (Int32.ofNat t - Int32.ofNat t / Int32.ofInt 24 * Int32.ofInt 24 = Int32.ofNat (t % 24))) = true := by decide +kernel
theorem fm300_at {t : Nat} (h : t < 300) : 0 ≤ (Int32.ofNat t ^^^ Int32.ofInt 24).toInt ∧ Int32.ofNat t - Int32.ofNat t / Int32.ofInt 24 * Int32.ofInt 24 = Int32.ofNat (t % 24) := by
  have := List.all_eq_true.mp fm300 t (List.mem_range.mpr h)
  rw [Bool.and_eq_true, decide_eq_true_eq, decide_eq_true_eq] at this
  exact this
noncomputable def p_312v (x y : Int32) (σ : zSg) (r : Int32) (σ' : zSg) : Prop := σ' = σ ∧ (y = Int32.ofInt 24 → ∀ t, t < 300 → x = Int32.ofNat t → r = Int32.ofNat (t % 24))
theorem sp_312v_et (a0 : Int32) (a1 : Int32) (σ : zSg) (h1 : (a0 ^^^ a1).toInt ≥ (0 : Int)) :
    p_312v (a0) (a1) σ (a0 - a0 / a1 * a1) σ := by
  refine ⟨rfl, ?_⟩
  rintro rfl t ht rfl
  exact (fm300_at ht).2
theorem sp_312v_eft (a0 : Int32) (a1 : Int32) (σ : zSg) (h1 : (a0 ^^^ a1).toInt < (0 : Int)) (h2 : (a0 - a0 / a1 * a1).toInt = (0 : Int)) :
    p_312v (a0) (a1) σ (a0 - a0 / a1 * a1) σ := by
  refine ⟨rfl, ?_⟩
  rintro rfl t ht rfl
  exact (fm300_at ht).2
theorem sp_312v_eff (a0 : Int32) (a1 : Int32) (σ : zSg) (h1 : (a0 ^^^ a1).toInt < (0 : Int)) (h2 : (a0 - a0 / a1 * a1).toInt ≠ (0 : Int)) :
    p_312v (a0) (a1) σ ((a0 - a0 / a1 * a1) + a1) σ := by
  refine ⟨rfl, ?_⟩
  rintro rfl t ht rfl
  exact absurd (fm300_at ht).1 (by omega)
noncomputable def qP_312v : zPp := fun as σ o σ' => match as with
  | [a0, a1] => ∃ r, o = .inl (some (.int r)) ∧ p_312v (q_i a0) (q_i a1) σ r σ'
  | _ => True
set_option maxRecDepth 100000 in
theorem sp_312v {sx : zX}  : zEe sx 312 2 qP_312v := by
  refine zfle zJ_312 (sps := []) (fun q hq => absurd hq List.not_mem_nil) (fun as σ hl => ?_)
  match as, hl with
  | [a0, a1], _ =>
  refine ⟨[], 400, ?_, ?_⟩
  · exact fun q hq => absurd hq List.not_mem_nil
  · refine And.intro (fun h1 => ?_) (fun h1 => ?_)
    · exact ⟨_, rfl, sp_312v_et (q_i a0) (q_i a1) σ (cm3t h1)⟩
    · refine And.intro (fun h2 => ?_) (fun h2 => ?_)
      · exact ⟨_, rfl, sp_312v_eft (q_i a0) (q_i a1) σ (cm3f h1) (cm0t h2)⟩
      · exact ⟨_, rfl, sp_312v_eff (q_i a0) (q_i a1) σ (cm3f h1) (cm0f h2)⟩
noncomputable def p_26v (a : Nat) (t : Int32) (σ : zSg) (r : Int32) (σ' : zSg) : Prop := σ' = σ ∧ ∀ H n, hH σ a H → t = Int32.ofNat n → n < 300 → r = H (16 + n % 24)
theorem sp_26v_e (a0 : Nat) (a1 : Int32) (σ : zSg) (τ1 : zSg) (r1 : Int32) (g1 : p_312v a1 (Int32.ofInt (24)) σ r1 τ1) (h2 : 0 ≤ r1.toInt ∧ r1.toInt < (τ1.2.1 (q_r (σ.1 a0 0)) : Int)) :
    p_26v (a0) (a1) σ (q_i (τ1.1 (q_r (σ.1 a0 0)) r1.toNatClampNeg)) τ1 := by
  obtain ⟨rfl, g⟩ := g1
  refine ⟨rfl, ?_⟩
  rintro H n K rfl hn
  have e := g rfl n hn rfl
  have hm : n % 24 < 24 := Nat.mod_lt _ (by omega)
  rw [e, o32n (by omega), K.k hk_0]
  exact K.p (hp_h hm)
noncomputable def qP_26v : zPp := fun as σ o σ' => match as with
  | [a0, a1] => ∃ r, o = .inl (some (.int r)) ∧ p_26v (q_r a0) (q_i a1) σ r σ'
  | _ => True
set_option maxRecDepth 100000 in
theorem sp_26v {sx : zX} (S312 : zEe sx 312 2 qP_312v) : zEe sx 26 2 qP_26v := by
  refine zfle zJ_26 (sps := [(312, 2, qP_312v)]) (fun q hq => by
    simp only [List.mem_cons, List.not_mem_nil, or_false] at hq
    rcases hq with rfl
    · exact S312) (fun as σ hl => ?_)
  match as, hl with
  | [a0, a1], _ =>
  refine ⟨[], 400, ?_, ?_⟩
  · exact fun q hq => absurd hq List.not_mem_nil
  · refine fun o1 τ1 g1 => ?_
    obtain ⟨r1, rfl, g1⟩ := g1
    refine fun h2 => ?_
    exact ⟨_, rfl, sp_26v_e (q_r a0) (q_i a1) σ τ1 r1 g1 (q_inp h2)⟩
noncomputable def p_38w (a : Nat) (n s : Int32) (σ : zSg) (r : Int32) (σ' : zSg) : Prop := σ' = σ ∧ ∀ H nf nt N, hH σ a H → aI nf nt H → n = Int32.ofNat N → N ≤ 200 → r = fSq H N s
noncomputable def i_38w (a : Nat) (n s : Int32) (σ : zSg) (l0 : Nat) (l1 l3 l4 l5 : Int32) (τ : zSg) : Prop := l0 = a ∧ l1 = n ∧ τ = σ ∧ ∀ H nf nt N, hH σ a H → aI nf nt H → n = Int32.ofNat N → N ≤ 200 → ∃ i, i ≤ N ∧ l5 = Int32.ofNat i ∧ (l4, l3) = fQn H (hN H) (H 8, s) i
theorem sp_38w_e (a0 : Nat) (a1 : Int32) (a2 : Int32) (σ : zSg)  :
    i_38w a0 a1 a2 σ a0 a1 a2 (q_i (σ.1 a0 11)) (Int32.ofInt (0)) σ := by
  refine ⟨rfl, rfl, rfl, fun H nf nt N K _ _ _ => ⟨0, by omega, rfl, ?_⟩⟩
  rw [show q_i (σ.1 a0 11) = H 8 from K.p (hp_s (k := 8) (by omega) (by omega))]
  rfl
theorem sp_38w_c7_t (a0 : Nat) (a1 : Int32) (a2 : Int32) (σ : zSg) (l0 : Nat) (l1 : Int32) (l3 : Int32) (l4 : Int32) (l5 : Int32) (τ : zSg) (hI : i_38w a0 a1 a2 σ l0 l1 l3 l4 l5 τ) (h1 : l5.toInt ≥ l1.toInt) :
    p_38w (a0) (a1) (a2) σ l4 τ := by
  obtain ⟨rfl, rfl, rfl, hI⟩ := hI
  refine ⟨rfl, fun H nf nt N K I en kN => ?_⟩
  obtain ⟨i, hi, e5, e⟩ := hI H nf nt N K I en kN
  rw [e5, en, o32 (by omega), o32 (by omega)] at h1
  have : i = N := by omega
  subst this
  exact congrArg Prod.fst e
theorem sp_38w_c7_ft (a0 : Nat) (a1 : Int32) (a2 : Int32) (σ : zSg) (l0 : Nat) (l1 : Int32) (l3 : Int32) (l4 : Int32) (l5 : Int32) (τ : zSg) (τ2 : zSg) (r2 : Int32) (τ3 : zSg) (r3 : Int32) (hI : i_38w a0 a1 a2 σ l0 l1 l3 l4 l5 τ) (h1 : l5.toInt < l1.toInt) (g2 : p_39 l3 τ r2 τ2) (g3 : p_26v l0 ((q_i (τ2.1 l0 7)) + l5) τ2 r3 τ3) (h4 : r3.toInt = (-1 : Int)) :
    i_38w a0 a1 a2 σ l0 l1 r2 l4 (l5 + Int32.ofInt (1)) τ3 := by
  obtain ⟨ea1, ga1⟩ := g2
  subst ea1
  obtain ⟨ea2, ga2⟩ := g3
  subst ea2
  obtain ⟨rfl, rfl, rfl, hI⟩ := hI
  refine ⟨rfl, rfl, rfl, fun H nf nt N K I en kN => ?_⟩
  obtain ⟨i, hi, e5, e⟩ := hI H nf nt N K I en kN
  rw [e5, en, o32 (by omega), o32 (by omega)] at h1
  obtain ⟨yh1, yh4, -⟩ := I.in
  have y4 : q_i (τ3.1 l0 7) = Int32.ofNat (hN H) := (K.p (hp_s (k := 4) (by omega) (by omega))).trans yh4
  have y2 := ga2 H (hN H + i) K (by rw [y4, e5]; exact o32a (by omega)) (by omega)
  rw [y2] at h4
  refine ⟨i + 1, by omega, by rw [e5]; exact o32i (by omega), ?_⟩
  show (_, _) = fQs H ((hN H + i) % 24) (fQn H (hN H) (H 8, a2) i)
  rw [← e]
  unfold fQs
  dsimp only
  rw [ga1]
  have em : H (16 + (hN H + i) % 24) = Int32.ofInt (-1) := Int32.toInt_inj.mp (h4.trans (show (-1 : Int) = (Int32.ofInt (-1)).toInt from rfl))
  rw [if_neg (show ¬ (H (16 + (hN H + i) % 24) ≠ Int32.ofInt (-1) ∧ (hDr (hSd l3)).toInt < (H 13).toInt) from fun z => z.1 em)]
theorem sp_38w_c7_fft (a0 : Nat) (a1 : Int32) (a2 : Int32) (σ : zSg) (l0 : Nat) (l1 : Int32) (l3 : Int32) (l4 : Int32) (l5 : Int32) (τ : zSg) (τ2 : zSg) (r2 : Int32) (τ3 : zSg) (r3 : Int32) (τ5 : zSg) (r5 : Int32) (hI : i_38w a0 a1 a2 σ l0 l1 l3 l4 l5 τ) (h1 : l5.toInt < l1.toInt) (g2 : p_39 l3 τ r2 τ2) (g3 : p_26v l0 ((q_i (τ2.1 l0 7)) + l5) τ2 r3 τ3) (h4 : r3.toInt ≠ (-1 : Int)) (g5 : p_40 l0 r2 τ3 r5 τ5) (h6 : r5.toInt = (0 : Int)) :
    i_38w a0 a1 a2 σ l0 l1 r2 l4 (l5 + Int32.ofInt (1)) τ5 := by
  obtain ⟨ea1, ga1⟩ := g2
  subst ea1
  obtain ⟨ea2, ga2⟩ := g3
  subst ea2
  obtain ⟨ea3, ga3⟩ := g5
  subst ea3
  obtain ⟨rfl, rfl, rfl, hI⟩ := hI
  refine ⟨rfl, rfl, rfl, fun H nf nt N K I en kN => ?_⟩
  obtain ⟨i, hi, e5, e⟩ := hI H nf nt N K I en kN
  rw [e5, en, o32 (by omega), o32 (by omega)] at h1
  obtain ⟨yh1, yh4, -⟩ := I.in
  have y4 : q_i (τ5.1 l0 7) = Int32.ofNat (hN H) := (K.p (hp_s (k := 4) (by omega) (by omega))).trans yh4
  have y2 := ga2 H (hN H + i) K (by rw [y4, e5]; exact o32a (by omega)) (by omega)
  rw [y2] at h4
  refine ⟨i + 1, by omega, by rw [e5]; exact o32i (by omega), ?_⟩
  show (_, _) = fQs H ((hN H + i) % 24) (fQn H (hN H) (H 8, a2) i)
  rw [← e]
  unfold fQs
  dsimp only
  rw [ga1]
  have w := ga3 H K
  rw [ga1] at w
  rw [if_neg (show ¬ (H (16 + (hN H + i) % 24) ≠ Int32.ofInt (-1) ∧ (hDr (hSd l3)).toInt < (H 13).toInt) from fun z => (w.mpr z.2) h6)]
theorem sp_38w_c7_fff (a0 : Nat) (a1 : Int32) (a2 : Int32) (σ : zSg) (l0 : Nat) (l1 : Int32) (l3 : Int32) (l4 : Int32) (l5 : Int32) (τ : zSg) (τ2 : zSg) (r2 : Int32) (τ3 : zSg) (r3 : Int32) (τ5 : zSg) (r5 : Int32) (hI : i_38w a0 a1 a2 σ l0 l1 l3 l4 l5 τ) (h1 : l5.toInt < l1.toInt) (g2 : p_39 l3 τ r2 τ2) (g3 : p_26v l0 ((q_i (τ2.1 l0 7)) + l5) τ2 r3 τ3) (h4 : r3.toInt ≠ (-1 : Int)) (g5 : p_40 l0 r2 τ3 r5 τ5) (h6 : r5.toInt ≠ (0 : Int)) :
    i_38w a0 a1 a2 σ l0 l1 r2 (if (l4 + (Int32.ofInt (1))) < (Int32.ofInt (9)) then (l4 + (Int32.ofInt (1))) else (Int32.ofInt (9))) (l5 + Int32.ofInt (1)) τ5 := by
  obtain ⟨ea1, ga1⟩ := g2
  subst ea1
  obtain ⟨ea2, ga2⟩ := g3
  subst ea2
  obtain ⟨ea3, ga3⟩ := g5
  subst ea3
  obtain ⟨rfl, rfl, rfl, hI⟩ := hI
  refine ⟨rfl, rfl, rfl, fun H nf nt N K I en kN => ?_⟩
  obtain ⟨i, hi, e5, e⟩ := hI H nf nt N K I en kN
  rw [e5, en, o32 (by omega), o32 (by omega)] at h1
  obtain ⟨yh1, yh4, -⟩ := I.in
  have y4 : q_i (τ5.1 l0 7) = Int32.ofNat (hN H) := (K.p (hp_s (k := 4) (by omega) (by omega))).trans yh4
  have y2 := ga2 H (hN H + i) K (by rw [y4, e5]; exact o32a (by omega)) (by omega)
  rw [y2] at h4
  refine ⟨i + 1, by omega, by rw [e5]; exact o32i (by omega), ?_⟩
  show (_, _) = fQs H ((hN H + i) % 24) (fQn H (hN H) (H 8, a2) i)
  rw [← e]
  unfold fQs
  dsimp only
  rw [ga1]
  have w := ga3 H K
  rw [ga1] at w
  rw [if_pos (show H (16 + (hN H + i) % 24) ≠ Int32.ofInt (-1) ∧ (hDr (hSd l3)).toInt < (H 13).toInt from ⟨fun z => h4 (by rw [z]; rfl), w.mp h6⟩)]
  rfl
noncomputable def qP_38w : zPp := fun as σ o σ' => match as with
  | [a0, a1, a2] => ∃ r, o = .inl (some (.int r)) ∧ p_38w (q_r a0) (q_i a1) (q_i a2) σ r σ'
  | _ => True
set_option maxRecDepth 100000 in
theorem sp_38w {sx : zX} (S39 : zEe sx 39 1 qP_39) (S26 : zEe sx 26 2 qP_26v) (S40 : zEe sx 40 2 qP_40) : zEe sx 38 3 qP_38w := by
  refine zfle zJ_38 (sps := [(39, 1, qP_39), (26, 2, qP_26v), (40, 2, qP_40)]) (fun q hq => by
    simp only [List.mem_cons, List.not_mem_nil, or_false] at hq
    rcases hq with rfl | rfl | rfl
    · exact S39
    · exact S26
    · exact S40) (fun as σ hl => ?_)
  match as, hl with
  | [a0, a1, a2], _ =>
  refine ⟨[(7, fun lo st τ => st = [] ∧ i_38w (q_r a0) (q_i a1) (q_i a2) σ (q_r (lo 0)) (q_i (lo 1)) (q_i (lo 3)) (q_i (lo 4)) (q_i (lo 5)) τ)], 400, ?_, ?_⟩
  · intro q hq
    simp only [List.mem_cons, List.not_mem_nil, or_false] at hq
    rcases hq with rfl
    · rintro lo st τ ⟨rfl, hI⟩
      refine ⟨400, ?_⟩
      refine And.intro (fun h1 => ?_) (fun h1 => ?_)
      · exact ⟨_, rfl, sp_38w_c7_t (q_r a0) (q_i a1) (q_i a2) σ (q_r (lo 0)) (q_i (lo 1)) (q_i (lo 3)) (q_i (lo 4)) (q_i (lo 5)) τ hI (cm3t h1)⟩
      · refine fun o2 τ2 g2 => ?_
        obtain ⟨r2, rfl, g2⟩ := g2
        refine fun o3 τ3 g3 => ?_
        obtain ⟨r3, rfl, g3⟩ := g3
        refine And.intro (fun h4 => ?_) (fun h4 => ?_)
        · exact ⟨rfl, sp_38w_c7_ft (q_r a0) (q_i a1) (q_i a2) σ (q_r (lo 0)) (q_i (lo 1)) (q_i (lo 3)) (q_i (lo 4)) (q_i (lo 5)) τ τ2 r2 τ3 r3 hI (cm3f h1) g2 g3 (cm0t h4)⟩
        · refine fun o5 τ5 g5 => ?_
          obtain ⟨r5, rfl, g5⟩ := g5
          refine And.intro (fun h6 => ?_) (fun h6 => ?_)
          · exact ⟨rfl, sp_38w_c7_fft (q_r a0) (q_i a1) (q_i a2) σ (q_r (lo 0)) (q_i (lo 1)) (q_i (lo 3)) (q_i (lo 4)) (q_i (lo 5)) τ τ2 r2 τ3 r3 τ5 r5 hI (cm3f h1) g2 g3 (cm0f h4) g5 (cm0t h6)⟩
          · exact ⟨rfl, sp_38w_c7_fff (q_r a0) (q_i a1) (q_i a2) σ (q_r (lo 0)) (q_i (lo 1)) (q_i (lo 3)) (q_i (lo 4)) (q_i (lo 5)) τ τ2 r2 τ3 r3 τ5 r5 hI (cm3f h1) g2 g3 (cm0f h4) g5 (cm0f h6)⟩
  · exact ⟨rfl, sp_38w_e (q_r a0) (q_i a1) (q_i a2) σ ⟩
noncomputable def p_19w (a : Nat) (σ : zSg) (r : Int32) (σ' : zSg) : Prop := σ' = σ ∧ ∀ b H nf, a = b + 2 → hH σ b H → H 0 = Int32.ofNat nf → nf ≤ 6 → r = fPu H nf
noncomputable def i_19w (a : Nat) (σ : zSg) (l0 : Nat) (l1 l2 : Int32) (τ : zSg) : Prop := l0 = a ∧ τ = σ ∧ ∀ b H nf, a = b + 2 → hH σ b H → H 0 = Int32.ofNat nf → nf ≤ 6 → ∃ n, n ≤ nf ∧ l2 = Int32.ofNat n ∧ l1 = fPu H n
theorem sp_19w_e (a0 : Nat) (σ : zSg)  :
    i_19w a0 σ a0 (Int32.ofInt (0)) (Int32.ofInt (0)) σ := by
  exact ⟨rfl, rfl, fun b H nf _ _ _ _ => ⟨0, by omega, rfl, rfl⟩⟩
theorem sp_19w_c4_t (a0 : Nat) (σ : zSg) (l0 : Nat) (l1 : Int32) (l2 : Int32) (τ : zSg) (hI : i_19w a0 σ l0 l1 l2 τ) (h1 : l2.toInt ≥ (q_i (τ.1 l0 4)).toInt) :
    p_19w (a0) σ l1 τ := by
  obtain ⟨rfl, rfl, hI⟩ := hI
  refine ⟨rfl, ?_⟩
  rintro b H nf rfl K e0 yh6
  obtain ⟨n, hn, e3, e2⟩ := hI b H nf rfl K e0 yh6
  rw [K.p hp_0, e0, e3, o32 (by omega), o32 (by omega)] at h1
  have : n = nf := by omega
  subst this
  exact e2
theorem sp_19w_c4_f (a0 : Nat) (σ : zSg) (l0 : Nat) (l1 : Int32) (l2 : Int32) (τ : zSg) (hI : i_19w a0 σ l0 l1 l2 τ) (h1 : l2.toInt < (q_i (τ.1 l0 4)).toInt) (h2 : 0 ≤ l2.toInt ∧ l2.toInt < (τ.2.1 (q_r (τ.1 l0 0)) : Int)) :
    i_19w a0 σ l0 (l1 + (q_i (τ.1 (q_r (τ.1 l0 0)) l2.toNatClampNeg))) (l2 + Int32.ofInt (1)) τ := by
  obtain ⟨rfl, rfl, hI⟩ := hI
  refine ⟨rfl, rfl, ?_⟩
  rintro b H nf rfl K e0 yh6
  obtain ⟨n, hn, e3, e2⟩ := hI b H nf rfl K e0 yh6
  rw [K.p hp_0, e0, e3, o32 (by omega), o32 (by omega)] at h1
  have x1 : q_i (τ.1 (q_r (τ.1 (b + 2) 0)) (Int32.ofNat n).toNatClampNeg) = H (40 + 4 * n) := by
    rw [K.k hk_f0, o32n (by omega)]
    exact K.p (hp_f0 (by omega))
  refine ⟨n + 1, by omega, by rw [e3]; exact o32i (by omega), ?_⟩
  rw [e3, x1, e2]
  rfl
noncomputable def qP_19w : zPp := fun as σ o σ' => match as with
  | [a0] => ∃ r, o = .inl (some (.int r)) ∧ p_19w (q_r a0) σ r σ'
  | _ => True
set_option maxRecDepth 100000 in
theorem sp_19w {sx : zX}  : zEe sx 19 1 qP_19w := by
  refine zfle zJ_19 (sps := []) (fun q hq => absurd hq List.not_mem_nil) (fun as σ hl => ?_)
  match as, hl with
  | [a0], _ =>
  refine ⟨[(4, fun lo st τ => st = [] ∧ i_19w (q_r a0) σ (q_r (lo 0)) (q_i (lo 1)) (q_i (lo 2)) τ)], 400, ?_, ?_⟩
  · intro q hq
    simp only [List.mem_cons, List.not_mem_nil, or_false] at hq
    rcases hq with rfl
    · rintro lo st τ ⟨rfl, hI⟩
      refine ⟨400, ?_⟩
      refine And.intro (fun h1 => ?_) (fun h1 => ?_)
      · exact ⟨_, rfl, sp_19w_c4_t (q_r a0) σ (q_r (lo 0)) (q_i (lo 1)) (q_i (lo 2)) τ hI (cm3t h1)⟩
      · refine fun h2 => ?_
        exact ⟨rfl, sp_19w_c4_f (q_r a0) σ (q_r (lo 0)) (q_i (lo 1)) (q_i (lo 2)) τ hI (cm3f h1) (q_inp h2)⟩
  · exact ⟨rfl, sp_19w_e (q_r a0) σ ⟩
noncomputable def p_303w (a : Nat) (σ : zSg) (r : Int32) (σ' : zSg) : Prop := σ' = σ ∧ (a = 205 → ∀ A nf, rW σ A → A 0 = Int32.ofNat nf → nf ≤ 6 → r = fPu A nf)
noncomputable def i_303w (a : Nat) (σ : zSg) (l0 : Nat) (l1 l2 : Int32) (τ : zSg) : Prop := l0 = a ∧ τ = σ ∧ (a = 205 → ∀ A nf, rW σ A → A 0 = Int32.ofNat nf → nf ≤ 6 → ∃ n, n ≤ nf ∧ l2 = Int32.ofNat n ∧ l1 = fPu A n)
theorem sp_303w_e (a0 : Nat) (σ : zSg)  :
    i_303w a0 σ a0 (Int32.ofInt (0)) (Int32.ofInt (0)) σ := by
  exact ⟨rfl, rfl, fun _ A nf _ _ _ => ⟨0, by omega, rfl, rfl⟩⟩
theorem sp_303w_c4_t (a0 : Nat) (σ : zSg) (l0 : Nat) (l1 : Int32) (l2 : Int32) (τ : zSg) (τ1 : zSg) (r1 : Int32) (hI : i_303w a0 σ l0 l1 l2 τ) (g1 : p_184 l0 τ r1 τ1) (h2 : l2.toInt ≥ r1.toInt) :
    p_303w (a0) σ l1 τ1 := by
  obtain ⟨ea1, ga1⟩ := g1
  subst ea1
  obtain ⟨rfl, rfl, hI⟩ := hI
  refine ⟨rfl, fun ha A nf w e0 yh6 => ?_⟩
  obtain ⟨n, hn, e3, e2⟩ := hI ha A nf w e0 yh6
  rw [ga1 ha A w, e0, e3, o32 (by omega), o32 (by omega)] at h2
  have : n = nf := by omega
  subst this
  exact e2
theorem sp_303w_c4_f (a0 : Nat) (σ : zSg) (l0 : Nat) (l1 : Int32) (l2 : Int32) (τ : zSg) (τ1 : zSg) (r1 : Int32) (τ3 : zSg) (r3 : Int32) (hI : i_303w a0 σ l0 l1 l2 τ) (g1 : p_184 l0 τ r1 τ1) (h2 : l2.toInt < r1.toInt) (g3 : p_190 l0 l2 (Int32.ofInt (0)) τ1 r3 τ3) :
    i_303w a0 σ l0 (l1 + r3) (l2 + Int32.ofInt (1)) τ3 := by
  obtain ⟨ea1, ga1⟩ := g1
  subst ea1
  obtain ⟨ea2, ga2⟩ := g3
  subst ea2
  obtain ⟨rfl, rfl, hI⟩ := hI
  refine ⟨rfl, rfl, fun ha A nf w e0 yh6 => ?_⟩
  obtain ⟨n, hn, e3, e2⟩ := hI ha A nf w e0 yh6
  rw [ga1 ha A w, e0, e3, o32 (by omega), o32 (by omega)] at h2
  have x1 := ga2 ha A w n 0 e3 (by omega) rfl (by omega)
  refine ⟨n + 1, by omega, by rw [e3]; exact o32i (by omega), ?_⟩
  rw [x1, e2]
  rfl
noncomputable def qP_303w : zPp := fun as σ o σ' => match as with
  | [a0] => ∃ r, o = .inl (some (.int r)) ∧ p_303w (q_r a0) σ r σ'
  | _ => True
set_option maxRecDepth 100000 in
theorem sp_303w {sx : zX} (S184 : zEe sx 184 1 qP_184) (S190 : zEe sx 190 3 qP_190) : zEe sx 303 1 qP_303w := by
  refine zfle zJ_303 (sps := [(184, 1, qP_184), (190, 3, qP_190)]) (fun q hq => by
    simp only [List.mem_cons, List.not_mem_nil, or_false] at hq
    rcases hq with rfl | rfl
    · exact S184
    · exact S190) (fun as σ hl => ?_)
  match as, hl with
  | [a0], _ =>
  refine ⟨[(4, fun lo st τ => st = [] ∧ i_303w (q_r a0) σ (q_r (lo 0)) (q_i (lo 1)) (q_i (lo 2)) τ)], 400, ?_, ?_⟩
  · intro q hq
    simp only [List.mem_cons, List.not_mem_nil, or_false] at hq
    rcases hq with rfl
    · rintro lo st τ ⟨rfl, hI⟩
      refine ⟨400, ?_⟩
      refine fun o1 τ1 g1 => ?_
      obtain ⟨r1, rfl, g1⟩ := g1
      refine And.intro (fun h2 => ?_) (fun h2 => ?_)
      · exact ⟨_, rfl, sp_303w_c4_t (q_r a0) σ (q_r (lo 0)) (q_i (lo 1)) (q_i (lo 2)) τ τ1 r1 hI g1 (cm3t h2)⟩
      · refine fun o3 τ3 g3 => ?_
        obtain ⟨r3, rfl, g3⟩ := g3
        exact ⟨rfl, sp_303w_c4_f (q_r a0) σ (q_r (lo 0)) (q_i (lo 1)) (q_i (lo 2)) τ τ1 r1 τ3 r3 hI g1 (cm3f h2) g3⟩
  · exact ⟨rfl, sp_303w_e (q_r a0) σ ⟩
noncomputable def p_157w (a : Nat) (n w : Int32) (σ : zSg) (e : Int32 ⊕ Nat) (σ' : zSg) : Prop := a = 0 → ∀ A nf nt Lo, xDp σ A nf nt Lo → (¬ (0 ≤ n.toInt ∧ n.toInt ≤ 200) → e = .inr 0 ∧ σ' = σ) ∧ (∀ N, n = Int32.ofNat N → N ≤ 200 → (w.toInt = 0 → σ' = σ ∧ e = .inl (fSq A N (A 15))) ∧ (w.toInt ≠ 0 → (∃ B, xDa σ σ' A B Lo) ∧ e = .inl (fPu (hHs Lo nt false A N).1 nf)))
noncomputable def i_157w (a : Nat) (n w : Int32) (σ : zSg) (l0 : Nat) (l1 l3 : Int32) (τ : zSg) : Prop := l0 = a ∧ l1 = n ∧ (a = 0 → ∀ A nf nt Lo, xDp σ A nf nt Lo → w.toInt ≠ 0 ∧ ∃ N, n = Int32.ofNat N ∧ N ≤ 200 ∧ ∃ i, i ≤ N ∧ l3 = Int32.ofNat i ∧ xDa σ τ A (hHs Lo nt false A i).1 Lo)
theorem sp_157w_ent (a0 : Nat) (a1 : Int32) (a2 : Int32) (σ : zSg) (τ1 : zSg) (τ3 : zSg) (g1 : p_170 a0 a1 (Int32.ofInt (0)) (Int32.ofInt (200)) σ (.inl 0) τ1) (h2 : a2.toInt ≠ (0 : Int)) (g3 : p_23 (q_r (τ1.1 a0 3)) (q_r (τ1.1 a0 2)) τ1 τ3) :
    i_157w a0 a1 a2 σ a0 a1 (Int32.ofInt (0)) τ3 := by
  refine ⟨rfl, rfl, ?_⟩
  rintro rfl A nf nt Lo K
  have z0 : (Int32.ofInt 0).toInt = 0 := rfl
  have z200 : (Int32.ofInt 200).toInt = 200 := rfl
  obtain ⟨rfl, u, -⟩ := g1
  have u := u rfl
  have q0 := K.1.q
  rw [q0.2.1, q0.2.2.1] at g3
  exact ⟨h2, a1.toInt.toNat, Int32.toInt_inj.mp (by rw [o32 (by omega)]; omega), by omega, 0, Nat.zero_le _, rfl, K.cp g3⟩
theorem sp_157w_enf (a0 : Nat) (a1 : Int32) (a2 : Int32) (σ : zSg) (τ1 : zSg) (τ4 : zSg) (r4 : Int32) (g1 : p_170 a0 a1 (Int32.ofInt (0)) (Int32.ofInt (200)) σ (.inl 0) τ1) (h2 : a2.toInt = (0 : Int)) (g4 : p_38w (q_r (τ1.1 a0 2)) a1 (q_i (τ1.1 (q_r (τ1.1 a0 2)) 17)) τ1 r4 τ4) :
    p_157w (a0) (a1) (a2) σ (.inl r4) τ4 := by
  rintro rfl A nf nt Lo K
  have z0 : (Int32.ofInt 0).toInt = 0 := rfl
  have z200 : (Int32.ofInt 200).toInt = 200 := rfl
  obtain ⟨rfl, u, -⟩ := g1
  have u := u rfl
  obtain ⟨rfl, g2⟩ := g4
  have q0 := K.1.q
  rw [q0.2.1] at g2
  rw [show q_i (τ4.1 8 17) = A 15 from K.2.1.p hp_15] at g2
  exact ⟨fun q => absurd u (by omega), fun N e kN => ⟨fun _ => ⟨rfl, congrArg Sum.inl (g2 A nf nt N K.2.1 K.2.2.2.1 e kN)⟩, fun q => absurd h2 q⟩⟩
theorem sp_157w_ex0_ (a0 : Nat) (a1 : Int32) (a2 : Int32) (σ : zSg) (τ1 : zSg) (g1 : p_170 a0 a1 (Int32.ofInt (0)) (Int32.ofInt (200)) σ (.inr 0) τ1) :
    p_157w (a0) (a1) (a2) σ (.inr 0) τ1 := by
  rintro rfl A nf nt Lo K
  have z0 : (Int32.ofInt 0).toInt = 0 := rfl
  have z200 : (Int32.ofInt 200).toInt = 200 := rfl
  obtain ⟨rfl, -, u⟩ := g1
  have u := u rfl
  exact ⟨fun _ => ⟨rfl, rfl⟩, fun N e kN => absurd u (by rw [e, o32 (by omega)]; omega)⟩
theorem sp_157w_c22_t (a0 : Nat) (a1 : Int32) (a2 : Int32) (σ : zSg) (l0 : Nat) (l1 : Int32) (l3 : Int32) (τ : zSg) (τ6 : zSg) (r6 : Int32) (hI : i_157w a0 a1 a2 σ l0 l1 l3 τ) (h5 : l3.toInt ≥ l1.toInt) (g6 : p_19w (q_r (τ.1 (q_r (τ.1 l0 3)) 1)) τ r6 τ6) :
    p_157w (a0) (a1) (a2) σ (.inl r6) τ6 := by
  obtain ⟨rfl, rfl, hI⟩ := hI
  rintro rfl A nf nt Lo K
  obtain ⟨hw, N, rfl, hN2, i, hi, rfl, D⟩ := hI rfl A nf nt Lo K
  rw [o32 (by omega), o32 (by omega)] at h5
  have ei : i = N := by omega
  subst ei
  have qs := (D.1.sk K.1).q
  obtain ⟨rfl, g1⟩ := g6
  rw [qs.2.2.1, D.2.1.k hk_1] at g1
  have I := K.2.2.2.1
  have y := g1 21 _ nf rfl D.2.1 ((hHs_k I (by omega) i).trans I.1.1) I.1.2.1
  exact ⟨fun q => absurd (by rw [o32 (by omega)]; omega) q, fun N e kN => by
    have : i = N := by
      have := congrArg Int32.toInt e
      rw [o32 (by omega), o32 (by omega)] at this
      omega
    subst this
    exact ⟨fun q => absurd q hw, fun _ => ⟨⟨_, D⟩, congrArg Sum.inl y⟩⟩⟩
theorem sp_157w_c22_f (a0 : Nat) (a1 : Int32) (a2 : Int32) (σ : zSg) (l0 : Nat) (l1 : Int32) (l3 : Int32) (τ : zSg) (τ7 : zSg) (r7 : Int32) (hI : i_157w a0 a1 a2 σ l0 l1 l3 τ) (h5 : l3.toInt < l1.toInt) (g7 : p_34 (q_r (τ.1 l0 3)) (Int32.ofInt (1)) τ r7 τ7) :
    i_157w a0 a1 a2 σ l0 l1 (l3 + Int32.ofInt (1)) τ7 := by
  obtain ⟨rfl, rfl, hI⟩ := hI
  refine ⟨rfl, rfl, ?_⟩
  rintro rfl A nf nt Lo K
  obtain ⟨hw, N, rfl, hN2, i, hi, rfl, D⟩ := hI rfl A nf nt Lo K
  rw [o32 (by omega), o32 (by omega)] at h5
  have qs := (D.1.sk K.1).q
  have IA := K.2.2.2.1.hs (Lo := Lo) (calm := false) i
  rw [qs.2.2.1] at g7
  obtain ⟨fE, KE, -⟩ := (g7 (by omega) _ nf nt Lo D.2.1 IA D.2.2).2 (by decide)
  have D' := D.st fE KE
  exact ⟨hw, N, rfl, hN2, i + 1, by omega, o32i (by omega), D'⟩
noncomputable def qP_157w : zPp := fun as σ o σ' => match as with
  | [a0, a1, a2] => (∃ r, o = .inl (some (.int r)) ∧ p_157w (q_r a0) (q_i a1) (q_i a2) σ (.inl r) σ') ∨ (o = .inr 0 ∧ p_157w (q_r a0) (q_i a1) (q_i a2) σ (.inr 0) σ')
  | _ => True
set_option maxRecDepth 100000 in
theorem sp_157w {sx : zX} (S170 : zEe sx 170 4 qP_170) (S23 : zEe sx 23 2 qP_23) (S38 : zEe sx 38 3 qP_38w) (S19 : zEe sx 19 1 qP_19w) (S34 : zEe sx 34 2 qP_34) : zEe sx 157 3 qP_157w := by
  refine zfle zJ_157 (sps := [(170, 4, qP_170), (23, 2, qP_23), (38, 3, qP_38w), (19, 1, qP_19w), (34, 2, qP_34)]) (fun q hq => by
    simp only [List.mem_cons, List.not_mem_nil, or_false] at hq
    rcases hq with rfl | rfl | rfl | rfl | rfl
    · exact S170
    · exact S23
    · exact S38
    · exact S19
    · exact S34) (fun as σ hl => ?_)
  match as, hl with
  | [a0, a1, a2], _ =>
  refine ⟨[(22, fun lo st τ => st = [] ∧ i_157w (q_r a0) (q_i a1) (q_i a2) σ (q_r (lo 0)) (q_i (lo 1)) (q_i (lo 3)) τ)], 400, ?_, ?_⟩
  · intro q hq
    simp only [List.mem_cons, List.not_mem_nil, or_false] at hq
    rcases hq with rfl
    · rintro lo st τ ⟨rfl, hI⟩
      refine ⟨400, ?_⟩
      refine And.intro (fun h5 => ?_) (fun h5 => ?_)
      · refine fun o6 τ6 g6 => ?_
        obtain ⟨r6, rfl, g6⟩ := g6
        exact Or.inl ⟨_, rfl, sp_157w_c22_t (q_r a0) (q_i a1) (q_i a2) σ (q_r (lo 0)) (q_i (lo 1)) (q_i (lo 3)) τ τ6 r6 hI (cm3t h5) g6⟩
      · refine fun o7 τ7 g7 => ?_
        obtain ⟨r7, rfl, g7⟩ := g7
        exact ⟨rfl, sp_157w_c22_f (q_r a0) (q_i a1) (q_i a2) σ (q_r (lo 0)) (q_i (lo 1)) (q_i (lo 3)) τ τ7 r7 hI (cm3f h5) g7⟩
  · refine fun o1 τ1 g1 => ?_
    rcases g1 with ⟨rfl, g1⟩ | ⟨rfl, g1⟩
    · refine And.intro (fun h2 => ?_) (fun h2 => ?_)
      · refine fun o3 τ3 g3 => ?_
        obtain ⟨rfl, g3⟩ := g3
        exact ⟨rfl, sp_157w_ent (q_r a0) (q_i a1) (q_i a2) σ τ1 τ3 g1 (cm1t h2) g3⟩
      · refine fun o4 τ4 g4 => ?_
        obtain ⟨r4, rfl, g4⟩ := g4
        exact Or.inl ⟨_, rfl, sp_157w_enf (q_r a0) (q_i a1) (q_i a2) σ τ1 τ4 r4 g1 (cm1f h2) g4⟩
    · exact Or.inr (⟨rfl, sp_157w_ex0_ (q_r a0) (q_i a1) (q_i a2) σ τ1 g1⟩)
theorem zJ_158 : zJ3 158 z_m158 z_c158 z_h158 := ⟨rfl, rfl, rfl⟩
noncomputable def p_158w (a : Nat) (n w : Int32) (σ : zSg) (e : Int32 ⊕ Nat) (σ' : zSg) : Prop := a = 0 → ∀ A nf nt Lo, xDp σ A nf nt Lo → σ' = σ ∧ (¬ (0 ≤ n.toInt ∧ n.toInt ≤ 200) → e = .inr 0) ∧ (∀ N, n = Int32.ofNat N → N ≤ 200 → e = .inl (fSp A N (decide (w.toInt ≠ 0)) 5))
noncomputable def i_158w (a : Nat) (n w : Int32) (σ : zSg) (l0 : Nat) (l1 l2 l3 l4 : Int32) (τ : zSg) : Prop := l0 = a ∧ l1 = n ∧ l2 = w ∧ τ = σ ∧ (a = 0 → ∀ A nf nt Lo, xDp σ A nf nt Lo → ∃ N, n = Int32.ofNat N ∧ N ≤ 200 ∧ ∃ k, k ≤ 5 ∧ l4 = Int32.ofNat (k + 2) ∧ l3 = fSp A N (decide (w.toInt ≠ 0)) k)
theorem sp_158w_en (a0 : Nat) (a1 : Int32) (a2 : Int32) (σ : zSg) (τ1 : zSg) (τ2 : zSg) (r2 : Int32) (g1 : p_170 a0 a1 (Int32.ofInt (0)) (Int32.ofInt (200)) σ (.inl 0) τ1) (g2 : p_38w (q_r (τ1.1 a0 2)) a1 (Int32.ofInt (1)) τ1 r2 τ2) :
    i_158w a0 a1 a2 σ a0 a1 a2 r2 (Int32.ofInt (2)) τ2 := by
  obtain ⟨ea, u, -⟩ := g1
  subst ea
  obtain ⟨eb, g2⟩ := g2
  subst eb
  refine ⟨rfl, rfl, rfl, rfl, ?_⟩
  rintro rfl A nf nt Lo K
  have z0 : (Int32.ofInt 0).toInt = 0 := rfl
  have z200 : (Int32.ofInt 200).toInt = 200 := rfl
  have u := u rfl
  have q0 := K.1.q
  rw [q0.2.1] at g2
  have en : a1 = Int32.ofNat a1.toInt.toNat := Int32.toInt_inj.mp (by rw [o32 (by omega)]; omega)
  exact ⟨a1.toInt.toNat, en, by omega, 0, by omega, rfl, g2 A nf nt _ K.2.1 K.2.2.2.1 en (by omega)⟩
theorem sp_158w_ex0_ (a0 : Nat) (a1 : Int32) (a2 : Int32) (σ : zSg) (τ1 : zSg) (g1 : p_170 a0 a1 (Int32.ofInt (0)) (Int32.ofInt (200)) σ (.inr 0) τ1) :
    p_158w (a0) (a1) (a2) σ (.inr 0) τ1 := by
  rintro rfl A nf nt Lo K
  have z0 : (Int32.ofInt 0).toInt = 0 := rfl
  have z200 : (Int32.ofInt 200).toInt = 200 := rfl
  obtain ⟨rfl, -, u⟩ := g1
  have u := u rfl
  exact ⟨rfl, fun _ => rfl, fun N e kN => absurd u (by rw [e, o32 (by omega)]; omega)⟩
theorem sp_158w_c13_t (a0 : Nat) (a1 : Int32) (a2 : Int32) (σ : zSg) (l0 : Nat) (l1 : Int32) (l2 : Int32) (l3 : Int32) (l4 : Int32) (τ : zSg) (hI : i_158w a0 a1 a2 σ l0 l1 l2 l3 l4 τ) (h3 : l4.toInt > (6 : Int)) :
    p_158w (a0) (a1) (a2) σ (.inl l3) τ := by
  obtain ⟨rfl, rfl, rfl, rfl, hI⟩ := hI
  rintro rfl A nf nt Lo K
  obtain ⟨N, en, hN2, k, hk, e4, e3⟩ := hI rfl A nf nt Lo K
  rw [e4, o32 (by omega)] at h3
  have : k = 5 := by omega
  subst this
  refine ⟨rfl, fun q => absurd (by rw [en, o32 (by omega)]; omega) q, fun M e hM => ?_⟩
  have : N = M := by
    have := congrArg Int32.toInt (en.symm.trans e)
    rw [o32 (by omega), o32 (by omega)] at this
    omega
  subst this
  exact congrArg Sum.inl e3
theorem sp_158w_c13_ft (a0 : Nat) (a1 : Int32) (a2 : Int32) (σ : zSg) (l0 : Nat) (l1 : Int32) (l2 : Int32) (l3 : Int32) (l4 : Int32) (τ : zSg) (τ4 : zSg) (r4 : Int32) (hI : i_158w a0 a1 a2 σ l0 l1 l2 l3 l4 τ) (h3 : l4.toInt ≤ (6 : Int)) (g4 : p_38w (q_r (τ.1 l0 2)) l1 l4 τ r4 τ4) (h5 : l2.toInt = (0 : Int)) :
    i_158w a0 a1 a2 σ l0 l1 l2 (if r4 < l3 then r4 else l3) (l4 + Int32.ofInt (1)) τ4 := by
  obtain ⟨rfl, rfl, rfl, rfl, hI⟩ := hI
  obtain ⟨ea, g1⟩ := g4
  subst ea
  refine ⟨rfl, rfl, rfl, rfl, ?_⟩
  rintro rfl A nf nt Lo K
  obtain ⟨N, en, hN2, k, hk, e4, e3⟩ := hI rfl A nf nt Lo K
  rw [e4, o32 (by omega)] at h3
  have q0 := K.1.q
  rw [q0.2.1] at g1
  have y1 := g1 A nf nt N K.2.1 K.2.2.2.1 en hN2
  rw [e4] at y1
  refine ⟨N, en, hN2, k + 1, by omega, by rw [e4]; exact o32i (by omega), ?_⟩
  rw [y1, e3]
  rw [decide_eq_false (p := l2.toInt ≠ 0) (fun q => q h5)]
  rfl
theorem sp_158w_c13_ff (a0 : Nat) (a1 : Int32) (a2 : Int32) (σ : zSg) (l0 : Nat) (l1 : Int32) (l2 : Int32) (l3 : Int32) (l4 : Int32) (τ : zSg) (τ4 : zSg) (r4 : Int32) (hI : i_158w a0 a1 a2 σ l0 l1 l2 l3 l4 τ) (h3 : l4.toInt ≤ (6 : Int)) (g4 : p_38w (q_r (τ.1 l0 2)) l1 l4 τ r4 τ4) (h5 : l2.toInt ≠ (0 : Int)) :
    i_158w a0 a1 a2 σ l0 l1 l2 (if l3 < r4 then r4 else l3) (l4 + Int32.ofInt (1)) τ4 := by
  obtain ⟨rfl, rfl, rfl, rfl, hI⟩ := hI
  obtain ⟨ea, g1⟩ := g4
  subst ea
  refine ⟨rfl, rfl, rfl, rfl, ?_⟩
  rintro rfl A nf nt Lo K
  obtain ⟨N, en, hN2, k, hk, e4, e3⟩ := hI rfl A nf nt Lo K
  rw [e4, o32 (by omega)] at h3
  have q0 := K.1.q
  rw [q0.2.1] at g1
  have y1 := g1 A nf nt N K.2.1 K.2.2.2.1 en hN2
  rw [e4] at y1
  refine ⟨N, en, hN2, k + 1, by omega, by rw [e4]; exact o32i (by omega), ?_⟩
  rw [y1, e3]
  rw [decide_eq_true (p := l2.toInt ≠ 0) h5]
  rfl
noncomputable def qP_158 : zPp := fun as σ o σ' => match as with
  | [a0, a1, a2] => (∃ r, o = .inl (some (.int r)) ∧ p_158w (q_r a0) (q_i a1) (q_i a2) σ (.inl r) σ') ∨ (o = .inr 0 ∧ p_158w (q_r a0) (q_i a1) (q_i a2) σ (.inr 0) σ')
  | _ => True
set_option maxRecDepth 100000 in
theorem sp_158w {sx : zX} (S170 : zEe sx 170 4 qP_170) (S38 : zEe sx 38 3 qP_38w) : zEe sx 158 3 qP_158 := by
  refine zfle zJ_158 (sps := [(170, 4, qP_170), (38, 3, qP_38w)]) (fun q hq => by
    simp only [List.mem_cons, List.not_mem_nil, or_false] at hq
    rcases hq with rfl | rfl
    · exact S170
    · exact S38) (fun as σ hl => ?_)
  match as, hl with
  | [a0, a1, a2], _ =>
  refine ⟨[(13, fun lo st τ => st = [] ∧ i_158w (q_r a0) (q_i a1) (q_i a2) σ (q_r (lo 0)) (q_i (lo 1)) (q_i (lo 2)) (q_i (lo 3)) (q_i (lo 4)) τ)], 400, ?_, ?_⟩
  · intro q hq
    simp only [List.mem_cons, List.not_mem_nil, or_false] at hq
    rcases hq with rfl
    · rintro lo st τ ⟨rfl, hI⟩
      refine ⟨400, ?_⟩
      refine And.intro (fun h3 => ?_) (fun h3 => ?_)
      · exact Or.inl ⟨_, rfl, sp_158w_c13_t (q_r a0) (q_i a1) (q_i a2) σ (q_r (lo 0)) (q_i (lo 1)) (q_i (lo 2)) (q_i (lo 3)) (q_i (lo 4)) τ hI (cm4t h3)⟩
      · refine fun o4 τ4 g4 => ?_
        obtain ⟨r4, rfl, g4⟩ := g4
        refine And.intro (fun h5 => ?_) (fun h5 => ?_)
        · exact ⟨rfl, sp_158w_c13_ft (q_r a0) (q_i a1) (q_i a2) σ (q_r (lo 0)) (q_i (lo 1)) (q_i (lo 2)) (q_i (lo 3)) (q_i (lo 4)) τ τ4 r4 hI (cm4f h3) g4 (cm0t h5)⟩
        · exact ⟨rfl, sp_158w_c13_ff (q_r a0) (q_i a1) (q_i a2) σ (q_r (lo 0)) (q_i (lo 1)) (q_i (lo 2)) (q_i (lo 3)) (q_i (lo 4)) τ τ4 r4 hI (cm4f h3) g4 (cm0f h5)⟩
  · refine fun o1 τ1 g1 => ?_
    rcases g1 with ⟨rfl, g1⟩ | ⟨rfl, g1⟩
    · refine fun o2 τ2 g2 => ?_
      obtain ⟨r2, rfl, g2⟩ := g2
      exact ⟨rfl, sp_158w_en (q_r a0) (q_i a1) (q_i a2) σ τ1 τ2 r2 g1 g2⟩
    · exact Or.inr (⟨rfl, sp_158w_ex0_ (q_r a0) (q_i a1) (q_i a2) σ τ1 g1⟩)
noncomputable def p_304w (a : Nat) (n w : Int32) (σ : zSg) (r : Int32) (σ' : zSg) : Prop := a = 205 → ∀ A nf nt Lo, rDp σ A nf nt Lo → (¬ (0 ≤ n.toInt ∧ n.toInt ≤ 200) → r = Int32.ofInt 0 ∧ σ' = rTh σ 1) ∧ ((0 ≤ n.toInt ∧ n.toInt ≤ 200) → rKF σ σ' ∧ (∀ N, n = Int32.ofNat N → N ≤ 200 → (w.toInt = 0 → r = (hHs Lo nt false A N).1 8) ∧ (w.toInt ≠ 0 → r = fPu (hHs Lo nt false A N).1 nf)))
theorem sp_304w_ett (a0 : Nat) (a1 : Int32) (a2 : Int32) (σ : zSg) (τ1 : zSg) (r1 : Int32) (τ5 : zSg) (τ6 : zSg) (r6 : Int32) (τ9 : zSg) (g1 : p_177 a1 (Int32.ofInt (0)) (Int32.ofInt (200)) (q_w σ a0 0 (.int (Int32.ofInt (0)))) r1 τ1) (h2 : r1.toInt ≠ (0 : Int)) (g5 : p_266 a0 τ1 τ5) (g6 : p_268 a0 a1 (Int32.ofInt (0)) τ5 r6 τ6) (h7 : a2.toInt = (0 : Int)) (h8 : 0 ≤ (Int32.ofInt (8)).toInt ∧ (Int32.ofInt (8)).toInt < (τ6.2.1 (q_r (τ6.1 a0 1)) : Int)) (g9 : p_267 a0 τ6 τ9) :
    p_304w (a0) (a1) (a2) σ (q_i (τ6.1 (q_r (τ6.1 a0 1)) (Int32.ofInt (8)).toNatClampNeg)) τ9 := by
  rintro rfl A nf nt Lo K
  have z0 : (Int32.ofInt 0).toInt = 0 := rfl
  have z1 : (Int32.ofInt 1).toInt = 1 := rfl
  have z2 : (Int32.ofInt 2).toInt = 2 := rfl
  have z99 : (Int32.ofInt 99).toInt = 99 := rfl
  have z200 : (Int32.ofInt 200).toInt = 200 := rfl
  obtain ⟨e0, e1⟩ := g1
  have e0 : τ1 = r0 σ := e0
  subst e0
  have u := e1.mp h2
  have D := rKp.mk K g5
  have G4 := g6 rfl A nf nt Lo a1.toInt.toNat false (D.ev K K.2.2 rfl) K.2.2 (Int32.toInt_inj.mp (by rw [o32 (by omega)]; omega)) (by omega) (Or.inl ⟨rfl, rfl⟩)
  obtain ⟨f4, K4, -⟩ := G4
  have D4 := D.st f4 K4
  refine ⟨fun q => absurd u q, fun _ => ⟨(D4.bb K g9).fin K, fun N e kN => ⟨fun _ => ?_, fun q => absurd h7 q⟩⟩⟩
  rw [z8, D4.2.2.2.2.at (by omega), e, o32 (by omega), Int.toNat_natCast]
theorem sp_304w_etf (a0 : Nat) (a1 : Int32) (a2 : Int32) (σ : zSg) (τ1 : zSg) (r1 : Int32) (τ5 : zSg) (τ6 : zSg) (r6 : Int32) (τ10 : zSg) (r10 : Int32) (τ11 : zSg) (g1 : p_177 a1 (Int32.ofInt (0)) (Int32.ofInt (200)) (q_w σ a0 0 (.int (Int32.ofInt (0)))) r1 τ1) (h2 : r1.toInt ≠ (0 : Int)) (g5 : p_266 a0 τ1 τ5) (g6 : p_268 a0 a1 (Int32.ofInt (0)) τ5 r6 τ6) (h7 : a2.toInt ≠ (0 : Int)) (g10 : p_303w a0 τ6 r10 τ10) (g11 : p_267 a0 τ10 τ11) :
    p_304w (a0) (a1) (a2) σ r10 τ11 := by
  rintro rfl A nf nt Lo K
  have z0 : (Int32.ofInt 0).toInt = 0 := rfl
  have z1 : (Int32.ofInt 1).toInt = 1 := rfl
  have z2 : (Int32.ofInt 2).toInt = 2 := rfl
  have z99 : (Int32.ofInt 99).toInt = 99 := rfl
  have z200 : (Int32.ofInt 200).toInt = 200 := rfl
  obtain ⟨e0, e1⟩ := g1
  have e0 : τ1 = r0 σ := e0
  subst e0
  have u := e1.mp h2
  have D := rKp.mk K g5
  have G4 := g6 rfl A nf nt Lo a1.toInt.toNat false (D.ev K K.2.2 rfl) K.2.2 (Int32.toInt_inj.mp (by rw [o32 (by omega)]; omega)) (by omega) (Or.inl ⟨rfl, rfl⟩)
  obtain ⟨f4, K4, -⟩ := G4
  have D4 := D.st f4 K4
  obtain ⟨rfl, g4⟩ := g10
  refine ⟨fun q => absurd u q, fun _ => ⟨(D4.bb K g11).fin K, fun N e kN => ⟨fun q => absurd q h7, fun _ => ?_⟩⟩⟩
  have I := K.2.2
  rw [g4 rfl _ nf D4.2.2.2.2 ((hHs_k I (by omega) _).trans I.1.1) I.1.2.1, e, o32 (by omega), Int.toNat_natCast]
theorem sp_304w_ef (a0 : Nat) (a1 : Int32) (a2 : Int32) (σ : zSg) (τ1 : zSg) (r1 : Int32) (g1 : p_177 a1 (Int32.ofInt (0)) (Int32.ofInt (200)) (q_w σ a0 0 (.int (Int32.ofInt (0)))) r1 τ1) (h2 : r1.toInt = (0 : Int)) :
    p_304w (a0) (a1) (a2) σ (Int32.ofInt (0)) (q_w τ1 a0 0 (.int (Int32.ofInt (1)))) := by
  rintro rfl A nf nt Lo K
  have z0 : (Int32.ofInt 0).toInt = 0 := rfl
  have z1 : (Int32.ofInt 1).toInt = 1 := rfl
  have z2 : (Int32.ofInt 2).toInt = 2 := rfl
  have z99 : (Int32.ofInt 99).toInt = 99 := rfl
  have z200 : (Int32.ofInt 200).toInt = 200 := rfl
  obtain ⟨e0, e1⟩ := g1
  have e0 : τ1 = r0 σ := e0
  subst e0
  exact ⟨fun _ => ⟨rfl, r0_T⟩, fun q => absurd (e1.mpr q) (by omega)⟩
noncomputable def qP_304w : zPp := fun as σ o σ' => match as with
  | [a0, a1, a2] => ∃ r, o = .inl (some (.int r)) ∧ p_304w (q_r a0) (q_i a1) (q_i a2) σ r σ'
  | _ => True
set_option maxRecDepth 100000 in
theorem sp_304w {sx : zX} (S177 : zEe sx 177 3 qP_177) (S176 : zEe sx 176 3 qP_176) (S266 : zEe sx 266 1 qP_266) (S268 : zEe sx 268 3 qP_268) (S267 : zEe sx 267 1 qP_267) (S303 : zEe sx 303 1 qP_303w) : zEe sx 304 3 qP_304w := by
  refine zfle zJ_304 (sps := [(177, 3, qP_177), (176, 3, qP_176), (266, 1, qP_266), (268, 3, qP_268), (267, 1, qP_267), (303, 1, qP_303w)]) (fun q hq => by
    simp only [List.mem_cons, List.not_mem_nil, or_false] at hq
    rcases hq with rfl | rfl | rfl | rfl | rfl | rfl
    · exact S177
    · exact S176
    · exact S266
    · exact S268
    · exact S267
    · exact S303) (fun as σ hl => ?_)
  match as, hl with
  | [a0, a1, a2], _ =>
  refine ⟨[], 400, ?_, ?_⟩
  · exact fun q hq => absurd hq List.not_mem_nil
  · refine fun o1 τ1 g1 => ?_
    obtain ⟨r1, rfl, g1⟩ := g1
    refine And.intro (fun h2 => ?_) (fun h2 => ?_)
    · refine fun o3 τ3 g3 => ?_
      obtain ⟨r3, rfl, rfl, y3, z3⟩ := g3
      have e3 := (z3 rfl).symm
      subst e3
      refine And.intro (fun _ => ?_) (fun h4 => absurd (show z_cmp 0 (Int32.ofInt (0)) 0 = false from h4) (by decide))
      refine fun o5 τ5 g5 => ?_
      obtain ⟨rfl, g5⟩ := g5
      refine fun o6 τ6 g6 => ?_
      obtain ⟨r6, rfl, g6⟩ := g6
      refine And.intro (fun h7 => ?_) (fun h7 => ?_)
      · refine fun h8 => ?_
        refine fun o9 τ9 g9 => ?_
        obtain ⟨rfl, g9⟩ := g9
        exact ⟨_, rfl, sp_304w_ett (q_r a0) (q_i a1) (q_i a2) σ τ1 r1 τ5 τ6 r6 τ9 g1 (cm1t h2) g5 g6 (cm0t h7) (q_inp h8) g9⟩
      · refine fun o10 τ10 g10 => ?_
        obtain ⟨r10, rfl, g10⟩ := g10
        refine fun o11 τ11 g11 => ?_
        obtain ⟨rfl, g11⟩ := g11
        exact ⟨_, rfl, sp_304w_etf (q_r a0) (q_i a1) (q_i a2) σ τ1 r1 τ5 τ6 r6 τ10 r10 τ11 g1 (cm1t h2) g5 g6 (cm0f h7) g10 g11⟩
    · refine fun o12 τ12 g12 => ?_
      obtain ⟨r12, rfl, rfl, y12, z12⟩ := g12
      have e12 := (y12 (by decide)).symm
      subst e12
      refine And.intro (fun h13 => absurd (show z_cmp 0 (Int32.ofInt (1)) 0 = true from h13) (by decide)) (fun _ => ?_)
      exact ⟨_, rfl, sp_304w_ef (q_r a0) (q_i a1) (q_i a2) σ τ1 r1 g1 (cm1f h2)⟩
noncomputable def p_305w (a : Nat) (n w : Int32) (σ : zSg) (r : Int32) (σ' : zSg) : Prop := a = 205 → ∀ A nf nt Lo, rDp σ A nf nt Lo → (¬ (0 ≤ n.toInt ∧ n.toInt ≤ 200) → r = Int32.ofInt 0 ∧ σ' = rTh σ 1) ∧ ((0 ≤ n.toInt ∧ n.toInt ≤ 200) → rKF σ σ' ∧ r = fSp A n.toInt.toNat (decide (w.toInt ≠ 0)) 5)
noncomputable def i_305w (a : Nat) (n w : Int32) (σ : zSg) (l0 : Nat) (l1 l2 l3 l4 : Int32) (τ : zSg) : Prop := l0 = a ∧ l1 = n ∧ l2 = w ∧ (a = 205 → ∀ A nf nt Lo, rDp σ A nf nt Lo → (0 ≤ n.toInt ∧ n.toInt ≤ 200) ∧ rKp σ τ A A ∧ ∃ k, k ≤ 6 ∧ l4 = Int32.ofNat (k + 1) ∧ ((k = 0 ∧ l3 = Int32.ofInt (-1)) ∨ ∃ k', k = k' + 1 ∧ l3 = fSp A n.toInt.toNat (decide (w.toInt ≠ 0)) k'))
theorem sp_305w_et (a0 : Nat) (a1 : Int32) (a2 : Int32) (σ : zSg) (τ1 : zSg) (r1 : Int32) (τ5 : zSg) (g1 : p_177 a1 (Int32.ofInt (0)) (Int32.ofInt (200)) (q_w σ a0 0 (.int (Int32.ofInt (0)))) r1 τ1) (h2 : r1.toInt ≠ (0 : Int)) (g5 : p_266 a0 τ1 τ5) :
    i_305w a0 a1 a2 σ a0 a1 a2 (Int32.ofInt (-1)) (Int32.ofInt (1)) τ5 := by
  refine ⟨rfl, rfl, rfl, ?_⟩
  rintro rfl A nf nt Lo K
  have z0 : (Int32.ofInt 0).toInt = 0 := rfl
  have z1 : (Int32.ofInt 1).toInt = 1 := rfl
  have z2 : (Int32.ofInt 2).toInt = 2 := rfl
  have z99 : (Int32.ofInt 99).toInt = 99 := rfl
  have z200 : (Int32.ofInt 200).toInt = 200 := rfl
  obtain ⟨e0, e1⟩ := g1
  have e0 : τ1 = r0 σ := e0
  subst e0
  exact ⟨e1.mp h2, rKp.mk K g5, 0, by omega, rfl, Or.inl ⟨rfl, rfl⟩⟩
theorem sp_305w_ef (a0 : Nat) (a1 : Int32) (a2 : Int32) (σ : zSg) (τ1 : zSg) (r1 : Int32) (g1 : p_177 a1 (Int32.ofInt (0)) (Int32.ofInt (200)) (q_w σ a0 0 (.int (Int32.ofInt (0)))) r1 τ1) (h2 : r1.toInt = (0 : Int)) :
    p_305w (a0) (a1) (a2) σ (Int32.ofInt (0)) (q_w τ1 a0 0 (.int (Int32.ofInt (1)))) := by
  rintro rfl A nf nt Lo K
  have z0 : (Int32.ofInt 0).toInt = 0 := rfl
  have z1 : (Int32.ofInt 1).toInt = 1 := rfl
  have z2 : (Int32.ofInt 2).toInt = 2 := rfl
  have z99 : (Int32.ofInt 99).toInt = 99 := rfl
  have z200 : (Int32.ofInt 200).toInt = 200 := rfl
  obtain ⟨e0, e1⟩ := g1
  have e0 : τ1 = r0 σ := e0
  subst e0
  exact ⟨fun _ => ⟨rfl, r0_T⟩, fun q => absurd (e1.mpr q) (by omega)⟩
theorem sp_305w_c23_t (a0 : Nat) (a1 : Int32) (a2 : Int32) (σ : zSg) (l0 : Nat) (l1 : Int32) (l2 : Int32) (l3 : Int32) (l4 : Int32) (τ : zSg) (hI : i_305w a0 a1 a2 σ l0 l1 l2 l3 l4 τ) (h8 : l4.toInt > (6 : Int)) :
    p_305w (a0) (a1) (a2) σ l3 τ := by
  obtain ⟨rfl, rfl, rfl, hI⟩ := hI
  rintro rfl A nf nt Lo K
  obtain ⟨RNG, D, k, hk, e4, e3⟩ := hI rfl A nf nt Lo K
  rw [e4, o32 (by omega)] at h8
  have : k = 6 := by omega
  subst this
  refine ⟨fun q => absurd RNG q, fun _ => ⟨D.fin K, ?_⟩⟩
  rcases e3 with ⟨h0, -⟩ | ⟨k', h0, e3⟩
  · exact absurd h0 (by omega)
  · have : k' = 5 := by omega
    subst this
    exact e3
theorem sp_305w_c23_ftt (a0 : Nat) (a1 : Int32) (a2 : Int32) (σ : zSg) (l0 : Nat) (l1 : Int32) (l2 : Int32) (l3 : Int32) (l4 : Int32) (τ : zSg) (τ10 : zSg) (r10 : Int32) (τ12 : zSg) (hI : i_305w a0 a1 a2 σ l0 l1 l2 l3 l4 τ) (h8 : l4.toInt ≤ (6 : Int)) (h9 : 0 ≤ (Int32.ofInt (15)).toInt ∧ (Int32.ofInt (15)).toInt < (τ.2.1 (q_r (τ.1 l0 1)) : Int)) (g10 : p_268 l0 l1 (Int32.ofInt (0)) (q_w τ (q_r (τ.1 l0 1)) (Int32.ofInt (15)).toNatClampNeg (.int l4)) r10 τ10) (h11 : 0 ≤ (Int32.ofInt (8)).toInt ∧ (Int32.ofInt (8)).toInt < (τ10.2.1 (q_r (τ10.1 l0 1)) : Int)) (g12 : p_267 l0 τ10 τ12) (h13 : l3.toInt ≥ (0 : Int)) (h14 : l2.toInt = (0 : Int)) :
    i_305w a0 a1 a2 σ l0 l1 l2 (if (q_i (τ10.1 (q_r (τ10.1 l0 1)) (Int32.ofInt (8)).toNatClampNeg)) < l3 then (q_i (τ10.1 (q_r (τ10.1 l0 1)) (Int32.ofInt (8)).toNatClampNeg)) else l3) (l4 + Int32.ofInt (1)) τ12 := by
  obtain ⟨rfl, rfl, rfl, hI⟩ := hI
  refine ⟨rfl, rfl, rfl, ?_⟩
  rintro rfl A nf nt Lo K
  obtain ⟨RNG, D, k, hk, e4, e3⟩ := hI rfl A nf nt Lo K
  rw [e4, o32 (by omega)] at h8
  rw [D.2.2.2.2.q, kz15] at g10
  have IS := K.2.2.sd (x := l4)
  have D1 := D.st (rHF.rf.w (k := 15) (v := .int l4) (by omega)) (D.2.2.2.2.ww (k := 15) (v := l4))
  have EV := D1.ev K IS (aU_ne (by omega))
  obtain ⟨f4, K4, -⟩ := g10 rfl _ nf nt Lo l1.toInt.toNat false EV IS (Int32.toInt_inj.mp (by rw [o32 (by omega)]; omega)) (by omega) (Or.inl ⟨rfl, rfl⟩)
  have D2 := D1.st f4 K4
  have xq : q_i (τ10.1 (q_r (τ10.1 205 1)) (Int32.ofInt 8).toNatClampNeg) = fSq A l1.toInt.toNat l4 := by
    rw [z8, D2.2.2.2.2.at (by omega)]
    exact fSq_s K.2.2 _ _ IS
  refine ⟨RNG, D2.bb K g12, k + 1, by omega, by rw [e4]; exact o32i (by omega), Or.inr ⟨k, rfl, ?_⟩⟩
  rw [xq, e4]
  rcases e3 with ⟨h0, e3⟩ | ⟨k', h0, e3⟩
  · rw [e3] at h13
    exact absurd h13 (by decide)
  · subst h0
    rw [e3]
    show _ = (if decide (l2.toInt ≠ 0) = true then aMa (fSp A l1.toInt.toNat (decide (l2.toInt ≠ 0)) k') (fSq A l1.toInt.toNat (Int32.ofNat (k' + 2))) else aMi (fSp A l1.toInt.toNat (decide (l2.toInt ≠ 0)) k') (fSq A l1.toInt.toNat (Int32.ofNat (k' + 2))))
    rw [if_neg (show ¬ decide (l2.toInt ≠ 0) = true from fun q => of_decide_eq_true q h14)]
    rfl
theorem sp_305w_c23_ftf (a0 : Nat) (a1 : Int32) (a2 : Int32) (σ : zSg) (l0 : Nat) (l1 : Int32) (l2 : Int32) (l3 : Int32) (l4 : Int32) (τ : zSg) (τ10 : zSg) (r10 : Int32) (τ12 : zSg) (hI : i_305w a0 a1 a2 σ l0 l1 l2 l3 l4 τ) (h8 : l4.toInt ≤ (6 : Int)) (h9 : 0 ≤ (Int32.ofInt (15)).toInt ∧ (Int32.ofInt (15)).toInt < (τ.2.1 (q_r (τ.1 l0 1)) : Int)) (g10 : p_268 l0 l1 (Int32.ofInt (0)) (q_w τ (q_r (τ.1 l0 1)) (Int32.ofInt (15)).toNatClampNeg (.int l4)) r10 τ10) (h11 : 0 ≤ (Int32.ofInt (8)).toInt ∧ (Int32.ofInt (8)).toInt < (τ10.2.1 (q_r (τ10.1 l0 1)) : Int)) (g12 : p_267 l0 τ10 τ12) (h13 : l3.toInt ≥ (0 : Int)) (h14 : l2.toInt ≠ (0 : Int)) :
    i_305w a0 a1 a2 σ l0 l1 l2 (if l3 < (q_i (τ10.1 (q_r (τ10.1 l0 1)) (Int32.ofInt (8)).toNatClampNeg)) then (q_i (τ10.1 (q_r (τ10.1 l0 1)) (Int32.ofInt (8)).toNatClampNeg)) else l3) (l4 + Int32.ofInt (1)) τ12 := by
  obtain ⟨rfl, rfl, rfl, hI⟩ := hI
  refine ⟨rfl, rfl, rfl, ?_⟩
  rintro rfl A nf nt Lo K
  obtain ⟨RNG, D, k, hk, e4, e3⟩ := hI rfl A nf nt Lo K
  rw [e4, o32 (by omega)] at h8
  rw [D.2.2.2.2.q, kz15] at g10
  have IS := K.2.2.sd (x := l4)
  have D1 := D.st (rHF.rf.w (k := 15) (v := .int l4) (by omega)) (D.2.2.2.2.ww (k := 15) (v := l4))
  have EV := D1.ev K IS (aU_ne (by omega))
  obtain ⟨f4, K4, -⟩ := g10 rfl _ nf nt Lo l1.toInt.toNat false EV IS (Int32.toInt_inj.mp (by rw [o32 (by omega)]; omega)) (by omega) (Or.inl ⟨rfl, rfl⟩)
  have D2 := D1.st f4 K4
  have xq : q_i (τ10.1 (q_r (τ10.1 205 1)) (Int32.ofInt 8).toNatClampNeg) = fSq A l1.toInt.toNat l4 := by
    rw [z8, D2.2.2.2.2.at (by omega)]
    exact fSq_s K.2.2 _ _ IS
  refine ⟨RNG, D2.bb K g12, k + 1, by omega, by rw [e4]; exact o32i (by omega), Or.inr ⟨k, rfl, ?_⟩⟩
  rw [xq, e4]
  rcases e3 with ⟨h0, e3⟩ | ⟨k', h0, e3⟩
  · rw [e3] at h13
    exact absurd h13 (by decide)
  · subst h0
    rw [e3]
    show _ = (if decide (l2.toInt ≠ 0) = true then aMa (fSp A l1.toInt.toNat (decide (l2.toInt ≠ 0)) k') (fSq A l1.toInt.toNat (Int32.ofNat (k' + 2))) else aMi (fSp A l1.toInt.toNat (decide (l2.toInt ≠ 0)) k') (fSq A l1.toInt.toNat (Int32.ofNat (k' + 2))))
    rw [if_pos (show decide (l2.toInt ≠ 0) = true from decide_eq_true h14)]
    rfl
theorem sp_305w_c23_ff (a0 : Nat) (a1 : Int32) (a2 : Int32) (σ : zSg) (l0 : Nat) (l1 : Int32) (l2 : Int32) (l3 : Int32) (l4 : Int32) (τ : zSg) (τ10 : zSg) (r10 : Int32) (τ12 : zSg) (hI : i_305w a0 a1 a2 σ l0 l1 l2 l3 l4 τ) (h8 : l4.toInt ≤ (6 : Int)) (h9 : 0 ≤ (Int32.ofInt (15)).toInt ∧ (Int32.ofInt (15)).toInt < (τ.2.1 (q_r (τ.1 l0 1)) : Int)) (g10 : p_268 l0 l1 (Int32.ofInt (0)) (q_w τ (q_r (τ.1 l0 1)) (Int32.ofInt (15)).toNatClampNeg (.int l4)) r10 τ10) (h11 : 0 ≤ (Int32.ofInt (8)).toInt ∧ (Int32.ofInt (8)).toInt < (τ10.2.1 (q_r (τ10.1 l0 1)) : Int)) (g12 : p_267 l0 τ10 τ12) (h13 : l3.toInt < (0 : Int)) :
    i_305w a0 a1 a2 σ l0 l1 l2 (q_i (τ10.1 (q_r (τ10.1 l0 1)) (Int32.ofInt (8)).toNatClampNeg)) (l4 + Int32.ofInt (1)) τ12 := by
  obtain ⟨rfl, rfl, rfl, hI⟩ := hI
  refine ⟨rfl, rfl, rfl, ?_⟩
  rintro rfl A nf nt Lo K
  obtain ⟨RNG, D, k, hk, e4, e3⟩ := hI rfl A nf nt Lo K
  rw [e4, o32 (by omega)] at h8
  rw [D.2.2.2.2.q, kz15] at g10
  have IS := K.2.2.sd (x := l4)
  have D1 := D.st (rHF.rf.w (k := 15) (v := .int l4) (by omega)) (D.2.2.2.2.ww (k := 15) (v := l4))
  have EV := D1.ev K IS (aU_ne (by omega))
  obtain ⟨f4, K4, -⟩ := g10 rfl _ nf nt Lo l1.toInt.toNat false EV IS (Int32.toInt_inj.mp (by rw [o32 (by omega)]; omega)) (by omega) (Or.inl ⟨rfl, rfl⟩)
  have D2 := D1.st f4 K4
  have xq : q_i (τ10.1 (q_r (τ10.1 205 1)) (Int32.ofInt 8).toNatClampNeg) = fSq A l1.toInt.toNat l4 := by
    rw [z8, D2.2.2.2.2.at (by omega)]
    exact fSq_s K.2.2 _ _ IS
  refine ⟨RNG, D2.bb K g12, k + 1, by omega, by rw [e4]; exact o32i (by omega), Or.inr ⟨k, rfl, ?_⟩⟩
  rw [xq, e4]
  rcases e3 with ⟨h0, e3⟩ | ⟨k', h0, e3⟩
  · subst h0
    rfl
  · rw [e3] at h13
    exact absurd h13 (by have := fSp_r K.2.2 l1.toInt.toNat (decide (l2.toInt ≠ 0)) k'; omega)
noncomputable def qP_305w : zPp := fun as σ o σ' => match as with
  | [a0, a1, a2] => ∃ r, o = .inl (some (.int r)) ∧ p_305w (q_r a0) (q_i a1) (q_i a2) σ r σ'
  | _ => True
set_option maxRecDepth 100000 in
theorem sp_305w {sx : zX} (S177 : zEe sx 177 3 qP_177) (S176 : zEe sx 176 3 qP_176) (S266 : zEe sx 266 1 qP_266) (S268 : zEe sx 268 3 qP_268) (S267 : zEe sx 267 1 qP_267) : zEe sx 305 3 qP_305w := by
  refine zfle zJ_305 (sps := [(177, 3, qP_177), (176, 3, qP_176), (266, 1, qP_266), (268, 3, qP_268), (267, 1, qP_267)]) (fun q hq => by
    simp only [List.mem_cons, List.not_mem_nil, or_false] at hq
    rcases hq with rfl | rfl | rfl | rfl | rfl
    · exact S177
    · exact S176
    · exact S266
    · exact S268
    · exact S267) (fun as σ hl => ?_)
  match as, hl with
  | [a0, a1, a2], _ =>
  refine ⟨[(23, fun lo st τ => st = [] ∧ i_305w (q_r a0) (q_i a1) (q_i a2) σ (q_r (lo 0)) (q_i (lo 1)) (q_i (lo 2)) (q_i (lo 3)) (q_i (lo 4)) τ)], 400, ?_, ?_⟩
  · intro q hq
    simp only [List.mem_cons, List.not_mem_nil, or_false] at hq
    rcases hq with rfl
    · rintro lo st τ ⟨rfl, hI⟩
      refine ⟨400, ?_⟩
      refine And.intro (fun h8 => ?_) (fun h8 => ?_)
      · exact ⟨_, rfl, sp_305w_c23_t (q_r a0) (q_i a1) (q_i a2) σ (q_r (lo 0)) (q_i (lo 1)) (q_i (lo 2)) (q_i (lo 3)) (q_i (lo 4)) τ hI (cm4t h8)⟩
      · refine fun h9 => ?_
        refine fun o10 τ10 g10 => ?_
        obtain ⟨r10, rfl, g10⟩ := g10
        refine fun h11 => ?_
        refine fun o12 τ12 g12 => ?_
        obtain ⟨rfl, g12⟩ := g12
        refine And.intro (fun h13 => ?_) (fun h13 => ?_)
        · refine And.intro (fun h14 => ?_) (fun h14 => ?_)
          · exact ⟨rfl, sp_305w_c23_ftt (q_r a0) (q_i a1) (q_i a2) σ (q_r (lo 0)) (q_i (lo 1)) (q_i (lo 2)) (q_i (lo 3)) (q_i (lo 4)) τ τ10 r10 τ12 hI (cm4f h8) (q_inp h9) g10 (q_inp h11) g12 (cm3t h13) (cm0t h14)⟩
          · exact ⟨rfl, sp_305w_c23_ftf (q_r a0) (q_i a1) (q_i a2) σ (q_r (lo 0)) (q_i (lo 1)) (q_i (lo 2)) (q_i (lo 3)) (q_i (lo 4)) τ τ10 r10 τ12 hI (cm4f h8) (q_inp h9) g10 (q_inp h11) g12 (cm3t h13) (cm0f h14)⟩
        · exact ⟨rfl, sp_305w_c23_ff (q_r a0) (q_i a1) (q_i a2) σ (q_r (lo 0)) (q_i (lo 1)) (q_i (lo 2)) (q_i (lo 3)) (q_i (lo 4)) τ τ10 r10 τ12 hI (cm4f h8) (q_inp h9) g10 (q_inp h11) g12 (cm3f h13)⟩
  · refine fun o1 τ1 g1 => ?_
    obtain ⟨r1, rfl, g1⟩ := g1
    refine And.intro (fun h2 => ?_) (fun h2 => ?_)
    · refine fun o3 τ3 g3 => ?_
      obtain ⟨r3, rfl, rfl, y3, z3⟩ := g3
      have e3 := (z3 rfl).symm
      subst e3
      refine And.intro (fun _ => ?_) (fun h4 => absurd (show z_cmp 0 (Int32.ofInt (0)) 0 = false from h4) (by decide))
      refine fun o5 τ5 g5 => ?_
      obtain ⟨rfl, g5⟩ := g5
      exact ⟨rfl, sp_305w_et (q_r a0) (q_i a1) (q_i a2) σ τ1 r1 τ5 g1 (cm1t h2) g5⟩
    · refine fun o6 τ6 g6 => ?_
      obtain ⟨r6, rfl, rfl, y6, z6⟩ := g6
      have e6 := (y6 (by decide)).symm
      subst e6
      refine And.intro (fun h7 => absurd (show z_cmp 0 (Int32.ofInt (1)) 0 = true from h7) (by decide)) (fun _ => ?_)
      exact ⟨_, rfl, sp_305w_ef (q_r a0) (q_i a1) (q_i a2) σ τ1 r1 g1 (cm1f h2)⟩
noncomputable def p_339w (a : Nat) (a1 a2 : Int32) (o : Nat) (σ : zSg) (k : Int32) (σ' : zSg) : Prop := ∃ e τ, p_157w a a1 a2 σ e τ ∧ ((∃ v, e = .inl v ∧ k = Int32.ofInt 0 ∧ σ' = q_w τ o 0 (.long v.toInt64)) ∨ (e = .inr 0 ∧ k = Int32.ofInt 1 ∧ σ' = τ))
theorem sp_339w_en (a0 : Nat) (a1 : Int32) (a2 : Int32) (a3 : Nat) (σ : zSg) (τ1 : zSg) (r1 : Int32) (g1 : p_157w a0 a1 a2 σ (.inl r1) τ1) (h2 : 0 ≤ (Int32.ofInt (0)).toInt ∧ (Int32.ofInt (0)).toInt < (τ1.2.1 a3 : Int)) :
    p_339w (a0) (a1) (a2) (a3) σ (Int32.ofInt (0)) (q_w τ1 a3 (Int32.ofInt (0)).toNatClampNeg (.long r1.toInt64)) := by
  exact ⟨_, _, g1, Or.inl ⟨_, rfl, rfl, rfl⟩⟩
theorem sp_339w_ex0_ (a0 : Nat) (a1 : Int32) (a2 : Int32) (a3 : Nat) (σ : zSg) (τ1 : zSg) (g1 : p_157w a0 a1 a2 σ (.inr 0) τ1) :
    p_339w (a0) (a1) (a2) (a3) σ (Int32.ofInt (1)) τ1 := by
  exact ⟨_, _, g1, Or.inr ⟨rfl, rfl, rfl⟩⟩
noncomputable def qP_339w : zPp := fun as σ o σ' => match as with
  | [a0, a1, a2, a3] => ∃ r, o = .inl (some (.int r)) ∧ p_339w (q_r a0) (q_i a1) (q_i a2) (q_r a3) σ r σ'
  | _ => True
set_option maxRecDepth 100000 in
theorem sp_339w {sx : zX} (S157 : zEe sx 157 3 qP_157w) : zEe sx 339 4 qP_339w := by
  refine zfle zJ_339 (sps := [(157, 3, qP_157w)]) (fun q hq => by
    simp only [List.mem_cons, List.not_mem_nil, or_false] at hq
    rcases hq with rfl
    · exact S157) (fun as σ hl => ?_)
  match as, hl with
  | [a0, a1, a2, a3], _ =>
  refine ⟨[], 400, ?_, ?_⟩
  · exact fun q hq => absurd hq List.not_mem_nil
  · refine fun o1 τ1 g1 => ?_
    rcases g1 with ⟨r1, rfl, g1⟩ | ⟨rfl, g1⟩
    · refine fun h2 => ?_
      exact ⟨_, rfl, sp_339w_en (q_r a0) (q_i a1) (q_i a2) (q_r a3) σ τ1 r1 g1 (q_inp h2)⟩
    · exact ⟨_, rfl, sp_339w_ex0_ (q_r a0) (q_i a1) (q_i a2) (q_r a3) σ τ1 g1⟩
theorem zJ_340 : zJ3 340 z_m340 z_c340 z_h340 := ⟨rfl, rfl, rfl⟩
noncomputable def p_340w (a : Nat) (a1 a2 : Int32) (o : Nat) (σ : zSg) (k : Int32) (σ' : zSg) : Prop := ∃ e τ, p_158w a a1 a2 σ e τ ∧ ((∃ v, e = .inl v ∧ k = Int32.ofInt 0 ∧ σ' = q_w τ o 0 (.long v.toInt64)) ∨ (e = .inr 0 ∧ k = Int32.ofInt 1 ∧ σ' = τ))
theorem sp_340w_en (a0 : Nat) (a1 : Int32) (a2 : Int32) (a3 : Nat) (σ : zSg) (τ1 : zSg) (r1 : Int32) (g1 : p_158w a0 a1 a2 σ (.inl r1) τ1) (h2 : 0 ≤ (Int32.ofInt (0)).toInt ∧ (Int32.ofInt (0)).toInt < (τ1.2.1 a3 : Int)) :
    p_340w (a0) (a1) (a2) (a3) σ (Int32.ofInt (0)) (q_w τ1 a3 (Int32.ofInt (0)).toNatClampNeg (.long r1.toInt64)) := by
  exact ⟨_, _, g1, Or.inl ⟨_, rfl, rfl, rfl⟩⟩
theorem sp_340w_ex0_ (a0 : Nat) (a1 : Int32) (a2 : Int32) (a3 : Nat) (σ : zSg) (τ1 : zSg) (g1 : p_158w a0 a1 a2 σ (.inr 0) τ1) :
    p_340w (a0) (a1) (a2) (a3) σ (Int32.ofInt (1)) τ1 := by
  exact ⟨_, _, g1, Or.inr ⟨rfl, rfl, rfl⟩⟩
noncomputable def qP_340w : zPp := fun as σ o σ' => match as with
  | [a0, a1, a2, a3] => ∃ r, o = .inl (some (.int r)) ∧ p_340w (q_r a0) (q_i a1) (q_i a2) (q_r a3) σ r σ'
  | _ => True
set_option maxRecDepth 100000 in
theorem sp_340w {sx : zX} (S158 : zEe sx 158 3 qP_158) : zEe sx 340 4 qP_340w := by
  refine zfle zJ_340 (sps := [(158, 3, qP_158)]) (fun q hq => by
    simp only [List.mem_cons, List.not_mem_nil, or_false] at hq
    rcases hq with rfl
    · exact S158) (fun as σ hl => ?_)
  match as, hl with
  | [a0, a1, a2, a3], _ =>
  refine ⟨[], 400, ?_, ?_⟩
  · exact fun q hq => absurd hq List.not_mem_nil
  · refine fun o1 τ1 g1 => ?_
    rcases g1 with ⟨r1, rfl, g1⟩ | ⟨rfl, g1⟩
    · refine fun h2 => ?_
      exact ⟨_, rfl, sp_340w_en (q_r a0) (q_i a1) (q_i a2) (q_r a3) σ τ1 r1 g1 (q_inp h2)⟩
    · exact ⟨_, rfl, sp_340w_ex0_ (q_r a0) (q_i a1) (q_i a2) (q_r a3) σ τ1 g1⟩
end
section
/-! rows of hours, round the clock -/
/-- so many hours from h on -/
noncomputable def fRu (P : Nat → Bool) (h : Nat) : Nat → Bool
  | 0 => true
  | n + 1 => fRu P h n && P ((h + n) % 24)
/-- how long the row is from h on, up to n -/
noncomputable def fRw (P : Nat → Bool) (h : Nat) : Nat → Nat
  | 0 => 0
  | n + 1 => if fRu P h (n + 1) = true then n + 1 else fRw P h n
theorem fRu_le {P : Nat → Bool} {h m : Nat} : ∀ {n : Nat}, fRu P h n = true → m ≤ n → fRu P h m = true
  | 0, e, hm => by
    have : m = 0 := by omega
    subst this
    exact e
  | n + 1, e, hm => by
    by_cases q : m = n + 1
    · subst q
      exact e
    · exact fRu_le (Bool.and_eq_true_iff.mp e).1 (by omega)
theorem fRw_iff {P : Nat → Bool} {h m : Nat} : ∀ {n : Nat}, m ≤ n → (m ≤ fRw P h n ↔ fRu P h m = true)
  | 0, hm => by
    have : m = 0 := by omega
    subst this
    exact ⟨fun _ => rfl, fun _ => Nat.le_refl _⟩
  | n + 1, hm => by
    show m ≤ (if fRu P h (n + 1) = true then n + 1 else fRw P h n) ↔ _
    by_cases q : fRu P h (n + 1) = true
    · rw [if_pos q]
      exact ⟨fun _ => fRu_le q hm, fun _ => hm⟩
    · rw [if_neg q]
      by_cases e : m = n + 1
      · subst e
        refine ⟨fun w => ?_, fun w => absurd w q⟩
        have : ∀ k, fRw P h k ≤ k := fun k => by
          induction k with
          | zero => exact Nat.le_refl _
          | succ k ih =>
            show (if fRu P h (k + 1) = true then k + 1 else fRw P h k) ≤ k + 1
            split
            · exact Nat.le_refl _
            · omega
        have := this n
        omega
      · exact fRw_iff (by omega)
theorem fRw_le (P : Nat → Bool) (h : Nat) : ∀ n, fRw P h n ≤ n
  | 0 => Nat.le_refl _
  | n + 1 => by
    have := fRw_le P h n
    show (if fRu P h (n + 1) = true then n + 1 else fRw P h n) ≤ n + 1
    split
    · exact Nat.le_refl _
    · omega
theorem fRw_eq {P : Nat → Bool} {h n : Nat} (hn : n ≤ 24) (e : fRu P h n = true) (q : n = 24 ∨ fRu P h (n + 1) = false) : fRw P h 24 = n := by
  have h1 := (fRw_iff (P := P) (h := h) hn).mpr e
  have h2 := fRw_le P h 24
  rcases q with q | q
  · omega
  · refine Nat.le_antisymm (Nat.le_of_not_lt fun w => ?_) h1
    have := (fRw_iff (P := P) (h := h) (m := n + 1) (n := 24) (by omega)).mp w
    rw [q] at this
    cases this
/-- the longest of the first n beginnings -/
noncomputable def fMx (P : Nat → Bool) : Nat → Nat
  | 0 => 0
  | n + 1 => max (fMx P n) (fRw P n 24)
theorem fMx_ge {P : Nat → Bool} {h : Nat} : ∀ {n : Nat}, h < n → fRw P h 24 ≤ fMx P n
  | 0, q => absurd q (Nat.not_lt_zero h)
  | n + 1, q => by
    show fRw P h 24 ≤ max (fMx P n) (fRw P n 24)
    by_cases e : h = n
    · subst e
      exact Nat.le_max_right _ _
    · exact Nat.le_trans (fMx_ge (by omega)) (Nat.le_max_left _ _)
theorem fMx_at {P : Nat → Bool} : ∀ {n : Nat}, fMx P n = 0 ∨ ∃ h, h < n ∧ fMx P n = fRw P h 24
  | 0 => Or.inl rfl
  | n + 1 => by
    show max (fMx P n) (fRw P n 24) = 0 ∨ ∃ h, h < n + 1 ∧ max (fMx P n) (fRw P n 24) = fRw P h 24
    by_cases q : fMx P n ≤ fRw P n 24
    · exact Or.inr ⟨n, by omega, Nat.max_eq_right q⟩
    · rw [Nat.max_eq_left (by omega)]
      rcases fMx_at (P := P) (n := n) with w | ⟨h, hh, w⟩
      · exact Or.inl w
      · exact Or.inr ⟨h, by omega, w⟩
theorem fMx_le (P : Nat → Bool) (n : Nat) : fMx P n ≤ 24 := by
  rcases fMx_at (P := P) (n := n) with w | ⟨h, -, w⟩
  · omega
  · rw [w]; exact fRw_le P h 24
/-- where rows of r and one more end -/
noncomputable def fQr (P : Nat → Bool) : Nat → Nat → Bool
  | 0, h => P h
  | r + 1, h => P h && fQr P r ((h + 23) % 24)
theorem fQr_u {P : Nat → Bool} : ∀ {r h : Nat}, r < 24 → h < 24 → fQr P r h = fRu P ((h + 24 - r) % 24) (r + 1)
  | 0, h, _, hh => by
    show P h = (true && P (((h + 24 - 0) % 24 + 0) % 24))
    rw [Bool.true_and, show ((h + 24 - 0) % 24 + 0) % 24 = h by omega]
  | r + 1, h, hr, hh => by
    show (P h && fQr P r ((h + 23) % 24)) = (fRu P ((h + 24 - (r + 1)) % 24) (r + 1) && P (((h + 24 - (r + 1)) % 24 + (r + 1)) % 24))
    rw [fQr_u (by omega) (Nat.mod_lt _ (by omega)), show ((h + 23) % 24 + 24 - r) % 24 = (h + 24 - (r + 1)) % 24 by omega, show ((h + 24 - (r + 1)) % 24 + (r + 1)) % 24 = h by omega, Bool.and_comm]
theorem fQr_m {P : Nat → Bool} {r : Nat} (hr : r < 24) : (∃ h, h < 24 ∧ fQr P r h = true) ↔ r + 1 ≤ fMx P 24 := by
  constructor
  · rintro ⟨h, hh, e⟩
    rw [fQr_u hr hh] at e
    exact Nat.le_trans ((fRw_iff (by omega)).mpr e) (fMx_ge (Nat.mod_lt _ (by omega)))
  · intro e
    rcases fMx_at (P := P) (n := 24) with w | ⟨h, hh, w⟩
    · omega
    · rw [w] at e
      have u := (fRw_iff (P := P) (h := h) (m := r + 1) (n := 24) (by omega)).mp e
      refine ⟨(h + r) % 24, Nat.mod_lt _ (by omega), ?_⟩
      rw [fQr_u hr (Nat.mod_lt _ (by omega)), show ((h + r) % 24 + 24 - r) % 24 = h by omega]
      exact u
theorem fB_0 {Q : Nat → Bool} (e : fB Q 24 = Int32.ofInt 0) {h : Nat} (hh : h < 24) : Q h = false := by
  have := fB_bit (P := Q) (i := h) (by omega) 24 (by omega)
  rw [e, z0_bit, decide_eq_true hh, Bool.true_and] at this
  exact this.symm
theorem fB_1 {Q : Nat → Bool} (e : fB Q 24 ≠ Int32.ofInt 0) : ∃ h, h < 24 ∧ Q h = true := by
  refine Classical.byContradiction fun w => e ?_
  rw [fB_cg (Q := fun _ => false) 24 (fun i hi => ?_)]
  · exact fB_f 24
  · cases q : Q i
    · rfl
    · exact absurd ⟨i, hi, q⟩ w
/-- the class's way to the longest row: rows end nowhere any more -/
theorem fMx_end {P : Nat → Bool} {r : Nat} (hr : r ≤ 24) (h1 : ∀ s, s < r → ∃ h, h < 24 ∧ fQr P s h = true) (h2 : r = 24 ∨ fB (fQr P r) 24 = Int32.ofInt 0) : fMx P 24 = r := by
  have hl := fMx_le P 24
  have hg : r ≤ fMx P 24 := by
    cases r with
    | zero => exact Nat.zero_le _
    | succ s => exact (fQr_m (by omega)).mp (h1 s (by omega))
  rcases h2 with h2 | h2
  · omega
  · by_cases e : r = 24
    · omega
    · refine Nat.le_antisymm (Nat.le_of_not_lt fun w => ?_) hg
      obtain ⟨h, hh, q⟩ := (fQr_m (P := P) (r := r) (by omega)).mpr w
      rw [fB_0 h2 hh] at q
      cases q
end
section
/-! readers of both sides, exact: family; printed with wip/gen/gen_dz.py -/
theorem zJ_66 : zJ3 66 z_m66 z_c66 z_h66 := ⟨rfl, rfl, rfl⟩
noncomputable def fLt (x : Int32) : Int32 := ((x <<< ((Int32.ofInt (1)) &&& 31)) ||| (x >>> ((Int32.ofInt (23)) &&& 31))) &&& (Int32.ofInt (16777215))
noncomputable def p_66 (x : Int32) (σ : zSg) (r : Int32) (σ' : zSg) : Prop := σ' = σ ∧ r = fLt x
theorem sp_66_e (a0 : Int32) (σ : zSg)  :
    p_66 (a0) σ (((a0 <<< ((Int32.ofInt (1)) &&& 31)) ||| (a0 >>> ((Int32.ofInt (23)) &&& 31))) &&& (Int32.ofInt (16777215))) σ := by
  exact ⟨rfl, rfl⟩
noncomputable def qP_66 : zPp := fun as σ o σ' => match as with
  | [a0] => ∃ r, o = .inl (some (.int r)) ∧ p_66 (q_i a0) σ r σ'
  | _ => True
set_option maxRecDepth 100000 in
theorem sp_66 {sx : zX}  : zEe sx 66 1 qP_66 := by
  refine zfle zJ_66 (sps := []) (fun q hq => absurd hq List.not_mem_nil) (fun as σ hl => ?_)
  match as, hl with
  | [a0], _ =>
  refine ⟨[], 400, ?_, ?_⟩
  · exact fun q hq => absurd hq List.not_mem_nil
  · exact ⟨_, rfl, sp_66_e (q_i a0) σ ⟩
theorem sh_l1 (x : Int32) {i : Nat} (hi : i < 32) : (x <<< ((Int32.ofInt (1)) &&& 31)).toBitVec.getLsbD i = (decide (1 ≤ i) && x.toBitVec.getLsbD (i - 1)) := by
  rw [Int32.toBitVec_shiftLeft, show ((Int32.ofInt 1 &&& 31).toBitVec.smod 32) = 1#32 from by decide, BitVec.shiftLeft_eq', show (1#32 : BitVec 32).toNat = 1 from rfl, BitVec.getLsbD_shiftLeft]
  by_cases q : i < 1
  · rw [decide_eq_true q, decide_eq_false (show ¬ 1 ≤ i by omega), decide_eq_true hi]
    rfl
  · rw [decide_eq_false q, decide_eq_true (show 1 ≤ i by omega), decide_eq_true hi]
    rfl
theorem fB_nn (P : Nat → Bool) : (fB P 24).toBitVec.msb = false := by
  rw [BitVec.msb_eq_getLsbD_last, fB_bit (by omega) 24 (by omega)]
  rfl
theorem sh_r23' {P : Nat → Bool} {i : Nat} (hi : i < 32) : ((fB P 24) >>> ((Int32.ofInt (23)) &&& 31)).toBitVec.getLsbD i = (decide (i = 0) && P 23) := by
  rw [Int32.toBitVec_shiftRight, show ((Int32.ofInt 23 &&& 31).toBitVec.smod 32) = 23#32 from by decide, BitVec.sshiftRight_eq', show (23#32 : BitVec 32).toNat = 23 from rfl, BitVec.getLsbD_sshiftRight]
  rw [decide_eq_false (show ¬ 32 ≤ i by omega)]
  by_cases q : 23 + i < 32
  · rw [if_pos q, fB_bit q 24 (by omega)]
    by_cases e : i = 0
    · subst e
      rfl
    · rw [decide_eq_false e, decide_eq_false (show ¬ 23 + i < 24 by omega), Bool.false_and, Bool.false_and]
      rfl
  · rw [if_neg q, fB_nn, decide_eq_false (show ¬ i = 0 by omega), Bool.false_and]
    rfl
theorem fLt_B (P : Nat → Bool) : fLt (fB P 24) = fB (fun h => P ((h + 23) % 24)) 24 := i_bits (fun i hi => by
  have m := List.all_eq_true.mp m1_all i (List.mem_range.mpr hi)
  rw [Bool.and_eq_true, decide_eq_true_eq, decide_eq_true_eq] at m
  unfold fLt
  rw [Int32.toBitVec_and, BitVec.getLsbD_and, m.2, Int32.toBitVec_or, BitVec.getLsbD_or, fB_bit hi 24 (by omega), sh_l1 _ hi, sh_r23' hi, fB_bit (by omega) 24 (by omega)]
  by_cases q : i < 24
  · rw [decide_eq_true q, Bool.and_true, Bool.true_and]
    by_cases e : i = 0
    · subst e
      rfl
    · rw [decide_eq_false e, Bool.false_and, Bool.or_false, decide_eq_true (show 1 ≤ i by omega), decide_eq_true (show i - 1 < 24 by omega), Bool.true_and, Bool.true_and, show (i + 23) % 24 = i - 1 by omega]
  · rw [decide_eq_false q, Bool.and_false, Bool.false_and])
theorem fQr_B (P : Nat → Bool) (r : Nat) : fB P 24 &&& fLt (fB (fQr P r) 24) = fB (fQr P (r + 1)) 24 := by
  rw [fLt_B, fB_and]
  rfl
theorem zJ_65 : zJ3 65 z_m65 z_c65 z_h65 := ⟨rfl, rfl, rfl⟩
noncomputable def p_65 (x : Int32) (σ : zSg) (r : Int32) (σ' : zSg) : Prop := σ' = σ ∧ ∀ P, x = fB P 24 → r = Int32.ofNat (fMx P 24)
noncomputable def i_65 (x : Int32) (σ : zSg) (l0 l1 l2 : Int32) (τ : zSg) : Prop := l0 = x ∧ τ = σ ∧ ∃ r, r ≤ 24 ∧ l2 = Int32.ofNat r ∧ ∀ P, x = fB P 24 → l1 = fB (fQr P r) 24 ∧ ∀ s, s < r → ∃ h, h < 24 ∧ fQr P s h = true
theorem sp_65_e (a0 : Int32) (σ : zSg)  :
    i_65 a0 σ a0 a0 (Int32.ofInt (0)) σ := by
  refine ⟨rfl, rfl, 0, by omega, rfl, fun P e => ⟨?_, fun s hs => absurd hs (Nat.not_lt_zero s)⟩⟩
  rw [e]
  rfl
theorem sp_65_c4_t (a0 : Int32) (σ : zSg) (l0 : Int32) (l1 : Int32) (l2 : Int32) (τ : zSg) (hI : i_65 a0 σ l0 l1 l2 τ) (h1 : l1.toInt = (0 : Int)) :
    p_65 (a0) σ l2 τ := by
  obtain ⟨rfl, rfl, r, hr, rfl, hI⟩ := hI
  refine ⟨rfl, fun P e => ?_⟩
  obtain ⟨e1, e2⟩ := hI P e
  rw [e1] at h1
  rw [fMx_end hr e2 (Or.inr (Int32.toInt_inj.mp h1))]
theorem sp_65_c4_ft (a0 : Int32) (σ : zSg) (l0 : Int32) (l1 : Int32) (l2 : Int32) (τ : zSg) (hI : i_65 a0 σ l0 l1 l2 τ) (h1 : l1.toInt ≠ (0 : Int)) (h2 : l2.toInt ≥ (24 : Int)) :
    p_65 (a0) σ l2 τ := by
  obtain ⟨rfl, rfl, r, hr, rfl, hI⟩ := hI
  refine ⟨rfl, fun P e => ?_⟩
  obtain ⟨e1, e2⟩ := hI P e
  rw [o32 (by omega)] at h2
  rw [fMx_end hr e2 (Or.inl (by omega))]
theorem sp_65_c4_ff (a0 : Int32) (σ : zSg) (l0 : Int32) (l1 : Int32) (l2 : Int32) (τ : zSg) (τ3 : zSg) (r3 : Int32) (hI : i_65 a0 σ l0 l1 l2 τ) (h1 : l1.toInt ≠ (0 : Int)) (h2 : l2.toInt < (24 : Int)) (g3 : p_66 l1 τ r3 τ3) :
    i_65 a0 σ l0 (l0 &&& r3) (l2 + Int32.ofInt (1)) τ3 := by
  obtain ⟨ea, x1⟩ := g3
  subst ea
  obtain ⟨rfl, rfl, r, hr, rfl, hI⟩ := hI
  rw [o32 (by omega)] at h2
  refine ⟨rfl, rfl, r + 1, by omega, o32i (by omega), fun P e => ?_⟩
  obtain ⟨e1, e2⟩ := hI P e
  have n0 : fB (fQr P r) 24 ≠ Int32.ofInt 0 := fun q => h1 (by rw [e1, q]; rfl)
  refine ⟨?_, fun s hs => ?_⟩
  · rw [x1, e1, e, fQr_B]
  · by_cases q : s = r
    · subst q
      exact fB_1 n0
    · exact e2 s (by omega)
noncomputable def qP_65 : zPp := fun as σ o σ' => match as with
  | [a0] => ∃ r, o = .inl (some (.int r)) ∧ p_65 (q_i a0) σ r σ'
  | _ => True
set_option maxRecDepth 100000 in
theorem sp_65 {sx : zX} (S66 : zEe sx 66 1 qP_66) : zEe sx 65 1 qP_65 := by
  refine zfle zJ_65 (sps := [(66, 1, qP_66)]) (fun q hq => by
    simp only [List.mem_cons, List.not_mem_nil, or_false] at hq
    rcases hq with rfl
    · exact S66) (fun as σ hl => ?_)
  match as, hl with
  | [a0], _ =>
  refine ⟨[(4, fun lo st τ => st = [] ∧ i_65 (q_i a0) σ (q_i (lo 0)) (q_i (lo 1)) (q_i (lo 2)) τ)], 400, ?_, ?_⟩
  · intro q hq
    simp only [List.mem_cons, List.not_mem_nil, or_false] at hq
    rcases hq with rfl
    · rintro lo st τ ⟨rfl, hI⟩
      refine ⟨400, ?_⟩
      refine And.intro (fun h1 => ?_) (fun h1 => ?_)
      · exact ⟨_, rfl, sp_65_c4_t (q_i a0) σ (q_i (lo 0)) (q_i (lo 1)) (q_i (lo 2)) τ hI (cm0t h1)⟩
      · refine And.intro (fun h2 => ?_) (fun h2 => ?_)
        · exact ⟨_, rfl, sp_65_c4_ft (q_i a0) σ (q_i (lo 0)) (q_i (lo 1)) (q_i (lo 2)) τ hI (cm0f h1) (cm3t h2)⟩
        · refine fun o3 τ3 g3 => ?_
          obtain ⟨r3, rfl, g3⟩ := g3
          exact ⟨rfl, sp_65_c4_ff (q_i a0) σ (q_i (lo 0)) (q_i (lo 1)) (q_i (lo 2)) τ τ3 r3 hI (cm0f h1) (cm3f h2) g3⟩
  · exact ⟨rfl, sp_65_e (q_i a0) σ ⟩
/-- in how many hours a family is in next -/
noncomputable def fCm (A : Nat → Int32) (h0 : Nat) (f r : Int32) : Prop := (∃ n, n < 24 ∧ r = Int32.ofNat n ∧ A (16 + (h0 + n) % 24) = f ∧ ∀ i, i < n → A (16 + (h0 + i) % 24) ≠ f) ∨ ((∀ i, i < 24 → A (16 + (h0 + i) % 24) ≠ f) ∧ r = Int32.ofInt (-1))
theorem fCm.eq {A : Nat → Int32} {h0 : Nat} {f r r' : Int32} (h : fCm A h0 f r) (h' : fCm A h0 f r') : r = r' := by
  rcases h with ⟨n, a1, a2, a3, a4⟩ | ⟨a1, a2⟩ <;> rcases h' with ⟨m, b1, b2, b3, b4⟩ | ⟨b1, b2⟩
  · have : n = m := by
      rcases Nat.lt_trichotomy n m with q | q | q
      · exact absurd a3 (b4 n q)
      · exact q
      · exact absurd b3 (a4 m q)
    rw [a2, b2, this]
  · exact absurd a3 (b1 n a1)
  · exact absurd b3 (a1 m b1)
  · rw [a2, b2]
theorem zJ_68 : zJ3 68 z_m68 z_c68 z_h68 := ⟨rfl, rfl, rfl⟩
noncomputable def p_68 (a : Nat) (f : Int32) (σ : zSg) (r : Int32) (σ' : zSg) : Prop := σ' = σ ∧ ∀ H nf nt, hH σ a H → aI nf nt H → fCm H (hN H) f r
noncomputable def i_68 (a : Nat) (f : Int32) (σ : zSg) (l0 : Nat) (l1 l2 : Int32) (τ : zSg) : Prop := l0 = a ∧ l1 = f ∧ τ = σ ∧ ∃ n, n ≤ 24 ∧ l2 = Int32.ofNat n ∧ ∀ H nf nt, hH σ a H → aI nf nt H → ∀ i, i < n → H (16 + (hN H + i) % 24) ≠ f
theorem sp_68_e (a0 : Nat) (a1 : Int32) (σ : zSg)  :
    i_68 a0 a1 σ a0 a1 (Int32.ofInt (0)) σ := by
  exact ⟨rfl, rfl, rfl, 0, by omega, rfl, fun _ _ _ _ _ i hi => absurd hi (Nat.not_lt_zero i)⟩
theorem sp_68_c2_t (a0 : Nat) (a1 : Int32) (σ : zSg) (l0 : Nat) (l1 : Int32) (l2 : Int32) (τ : zSg) (hI : i_68 a0 a1 σ l0 l1 l2 τ) (h1 : l2.toInt ≥ (24 : Int)) :
    p_68 (a0) (a1) σ (Int32.ofInt (-1)) τ := by
  obtain ⟨rfl, rfl, rfl, n, hn, rfl, hI⟩ := hI
  rw [o32 (by omega)] at h1
  exact ⟨rfl, fun H nf nt K I => Or.inr ⟨fun i hi => hI H nf nt K I i (by omega), rfl⟩⟩
theorem sp_68_c2_ft (a0 : Nat) (a1 : Int32) (σ : zSg) (l0 : Nat) (l1 : Int32) (l2 : Int32) (τ : zSg) (τ2 : zSg) (r2 : Int32) (hI : i_68 a0 a1 σ l0 l1 l2 τ) (h1 : l2.toInt < (24 : Int)) (g2 : p_26w l0 ((q_i (τ.1 l0 7)) + l2) τ r2 τ2) (h3 : r2.toInt ≠ l1.toInt) :
    i_68 a0 a1 σ l0 l1 (l2 + Int32.ofInt (1)) τ2 := by
  obtain ⟨ea1, ga1⟩ := g2
  subst ea1
  obtain ⟨rfl, rfl, rfl, n, hn, rfl, hI⟩ := hI
  refine ⟨rfl, rfl, rfl, n + 1, by rw [o32 (by omega)] at h1; omega, o32i (by omega), fun H nf nt K I i hi => ?_⟩
  rw [o32 (by omega)] at h1
  obtain ⟨yh1, yh4, -⟩ := I.in
  have y4 : q_i (τ2.1 l0 7) = Int32.ofNat (hN H) := (K.p (hp_s (k := 4) (by omega) (by omega))).trans yh4
  have y1 := ga1 H (hN H + n) K (by rw [y4]; exact o32a (by omega)) (by omega)
  rw [y1] at h3
  by_cases q : i = n
  · rw [q]; exact fun z => h3 (congrArg Int32.toInt z)
  · exact hI H nf nt K I i (by omega)
theorem sp_68_c2_ff (a0 : Nat) (a1 : Int32) (σ : zSg) (l0 : Nat) (l1 : Int32) (l2 : Int32) (τ : zSg) (τ2 : zSg) (r2 : Int32) (hI : i_68 a0 a1 σ l0 l1 l2 τ) (h1 : l2.toInt < (24 : Int)) (g2 : p_26w l0 ((q_i (τ.1 l0 7)) + l2) τ r2 τ2) (h3 : r2.toInt = l1.toInt) :
    p_68 (a0) (a1) σ l2 τ2 := by
  obtain ⟨ea1, ga1⟩ := g2
  subst ea1
  obtain ⟨rfl, rfl, rfl, n, hn, rfl, hI⟩ := hI
  refine ⟨rfl, fun H nf nt K I => ?_⟩
  rw [o32 (by omega)] at h1
  obtain ⟨yh1, yh4, -⟩ := I.in
  have y4 : q_i (τ2.1 l0 7) = Int32.ofNat (hN H) := (K.p (hp_s (k := 4) (by omega) (by omega))).trans yh4
  have y1 := ga1 H (hN H + n) K (by rw [y4]; exact o32a (by omega)) (by omega)
  rw [y1] at h3
  exact Or.inl ⟨n, by omega, rfl, Int32.toInt_inj.mp h3, fun i hi => hI H nf nt K I i hi⟩
noncomputable def qP_68 : zPp := fun as σ o σ' => match as with
  | [a0, a1] => ∃ r, o = .inl (some (.int r)) ∧ p_68 (q_r a0) (q_i a1) σ r σ'
  | _ => True
set_option maxRecDepth 100000 in
theorem sp_68 {sx : zX} (S26 : zEe sx 26 2 qP_26w) : zEe sx 68 2 qP_68 := by
  refine zfle zJ_68 (sps := [(26, 2, qP_26w)]) (fun q hq => by
    simp only [List.mem_cons, List.not_mem_nil, or_false] at hq
    rcases hq with rfl
    · exact S26) (fun as σ hl => ?_)
  match as, hl with
  | [a0, a1], _ =>
  refine ⟨[(2, fun lo st τ => st = [] ∧ i_68 (q_r a0) (q_i a1) σ (q_r (lo 0)) (q_i (lo 1)) (q_i (lo 2)) τ)], 400, ?_, ?_⟩
  · intro q hq
    simp only [List.mem_cons, List.not_mem_nil, or_false] at hq
    rcases hq with rfl
    · rintro lo st τ ⟨rfl, hI⟩
      refine ⟨400, ?_⟩
      refine And.intro (fun h1 => ?_) (fun h1 => ?_)
      · exact ⟨_, rfl, sp_68_c2_t (q_r a0) (q_i a1) σ (q_r (lo 0)) (q_i (lo 1)) (q_i (lo 2)) τ hI (cm3t h1)⟩
      · refine fun o2 τ2 g2 => ?_
        obtain ⟨r2, rfl, g2⟩ := g2
        refine And.intro (fun h3 => ?_) (fun h3 => ?_)
        · exact ⟨rfl, sp_68_c2_ft (q_r a0) (q_i a1) σ (q_r (lo 0)) (q_i (lo 1)) (q_i (lo 2)) τ τ2 r2 hI (cm3f h1) g2 (cm1t h3)⟩
        · exact ⟨_, rfl, sp_68_c2_ff (q_r a0) (q_i a1) σ (q_r (lo 0)) (q_i (lo 1)) (q_i (lo 2)) τ τ2 r2 hI (cm3f h1) g2 (cm1f h3)⟩
  · exact ⟨rfl, sp_68_e (q_r a0) (q_i a1) σ ⟩
/-- what is told of a family -/
noncomputable def fFm (A : Nat → Int32) (F : Nat) (w r : Int32) : Prop := (w.toInt = 0 → r = A (40 + 4 * F)) ∧ (w.toInt = 1 → r = A (41 + 4 * F)) ∧ (w.toInt = 2 → r = A (42 + 4 * F)) ∧ (w.toInt = 3 → r = A (43 + 4 * F)) ∧ (w.toInt = 4 → r = fHs A F) ∧ (w.toInt = 5 → r = fSh A F) ∧ (w.toInt = 6 → r = Int32.ofNat (fMx (fun h => decide (A (16 + h) = Int32.ofNat F)) 24)) ∧ (w.toInt = 7 → r = fBc (fHs A F &&& A (43 + 4 * F))) ∧ (w.toInt = 8 → fCm A (hN A) (Int32.ofNat F) r)
theorem fFm.eq {A : Nat → Int32} {F : Nat} {w r r' : Int32} (h : fFm A F w r) (h' : fFm A F w r') (hw : 0 ≤ w.toInt ∧ w.toInt ≤ 8) : r = r' := by
  obtain ⟨a0, a1, a2, a3, a4, a5, a6, a7, a8⟩ := h
  obtain ⟨b0, b1, b2, b3, b4, b5, b6, b7, b8⟩ := h'
  have c : w.toInt = 0 ∨ w.toInt = 1 ∨ w.toInt = 2 ∨ w.toInt = 3 ∨ w.toInt = 4 ∨ w.toInt = 5 ∨ w.toInt = 6 ∨ w.toInt = 7 ∨ w.toInt = 8 := by omega
  rcases c with c | c | c | c | c | c | c | c | c
  · rw [a0 c, b0 c]
  · rw [a1 c, b1 c]
  · rw [a2 c, b2 c]
  · rw [a3 c, b3 c]
  · rw [a4 c, b4 c]
  · rw [a5 c, b5 c]
  · rw [a6 c, b6 c]
  · rw [a7 c, b7 c]
  · exact (a8 c).eq (b8 c)
/-- one answer alone is asked for -/
theorem fFm.of {A : Nat → Int32} {F : Nat} {w r : Int32} {k : Int} (e : w.toInt = k) (h : (k = 0 → r = A (40 + 4 * F)) ∧ (k = 1 → r = A (41 + 4 * F)) ∧ (k = 2 → r = A (42 + 4 * F)) ∧ (k = 3 → r = A (43 + 4 * F)) ∧ (k = 4 → r = fHs A F) ∧ (k = 5 → r = fSh A F) ∧ (k = 6 → r = Int32.ofNat (fMx (fun h => decide (A (16 + h) = Int32.ofNat F)) 24)) ∧ (k = 7 → r = fBc (fHs A F &&& A (43 + 4 * F))) ∧ (k = 8 → fCm A (hN A) (Int32.ofNat F) r)) : fFm A F w r := by
  unfold fFm
  rw [e]
  exact h
theorem zJ_124 : zJ3 124 z_m124 z_c124 z_h124 := ⟨rfl, rfl, rfl⟩
noncomputable def p_124 (a : Nat) (f w : Int32) (σ : zSg) (e : Int32 ⊕ Nat) (σ' : zSg) : Prop := a = 0 → ∀ A nf nt, xSk σ → hH σ 8 A → aI nf nt A → σ' = σ ∧ (¬ (0 ≤ f.toInt ∧ f.toInt < (nf : Int)) → e = .inr 2) ∧ (∀ F, f = Int32.ofNat F → F < nf → (¬ (0 ≤ w.toInt ∧ w.toInt ≤ 8) → e = .inr 3) ∧ ((0 ≤ w.toInt ∧ w.toInt ≤ 8) → ∃ v, e = .inl v ∧ fFm A F w v))
theorem sp_124_enns0_ (a0 : Nat) (a1 : Int32) (a2 : Int32) (σ : zSg) (τ1 : zSg) (τ2 : zSg) (τ3 : zSg) (r3 : Int32) (τ5 : zSg) (r5 : Int32) (g1 : p_167 a0 a1 σ (.inl 0) τ1) (g2 : p_169 a0 a2 (Int32.ofInt (8)) τ1 (.inl 0) τ2) (g3 : p_28 (q_r (τ2.1 a0 2)) ((Int32.ofInt (1)) <<< (a1 &&& 31)) τ2 r3 τ3) (h4 : a2.toInt = 0) (g5 : p_16 (q_r (τ3.1 (q_r (τ3.1 a0 2)) 1)) a1 τ3 r5 τ5) :
    p_124 (a0) (a1) (a2) σ (.inl r5) τ5 := by
  rintro rfl A nf nt X K I
  have k6 := I.1.2.1
  obtain ⟨e1, u1⟩ := g1
  subst e1
  have v1 := (u1 rfl X A nf K I.1.1 k6).1 rfl
  obtain ⟨e2, u2, -⟩ := g2
  subst e2
  have v2 := u2 rfl
  have z8' : (Int32.ofInt 8).toInt = 8 := rfl
  rw [z8'] at v2
  obtain ⟨e3, g3⟩ := g3
  subst e3
  obtain ⟨e4, g4⟩ := g5
  subst e4
  have d2 : q_r (τ5.1 0 2) = 8 := by rw [X.2.1]; rfl
  rw [d2] at g3
  have g3 := g3 A K
  refine ⟨rfl, fun q => absurd v1 q, fun F eF hF => ⟨fun q => absurd v2 q, fun _ => ⟨_, rfl, fFm.of h4 ⟨(fun _ => ?_), (fun q => absurd q (by decide)), (fun q => absurd q (by decide)), (fun q => absurd q (by decide)), (fun q => absurd q (by decide)), (fun q => absurd q (by decide)), (fun q => absurd q (by decide)), (fun q => absurd q (by decide)), (fun q => absurd q (by decide))⟩⟩⟩⟩
  subst eF
  rw [fHo I hF] at g3
  rw [d2, K.k hk_1] at g4
  exact g4 8 A nf rfl K I.1.1 k6 F rfl hF
theorem sp_124_enns1_ (a0 : Nat) (a1 : Int32) (a2 : Int32) (σ : zSg) (τ1 : zSg) (τ2 : zSg) (τ3 : zSg) (r3 : Int32) (g1 : p_167 a0 a1 σ (.inl 0) τ1) (g2 : p_169 a0 a2 (Int32.ofInt (8)) τ1 (.inl 0) τ2) (g3 : p_28 (q_r (τ2.1 a0 2)) ((Int32.ofInt (1)) <<< (a1 &&& 31)) τ2 r3 τ3) (h4 : a2.toInt ≠ 0) (h6 : a2.toInt = 1) (h7 : 0 ≤ a1.toInt ∧ a1.toInt < (τ3.2.1 (q_r (τ3.1 (q_r (τ3.1 (q_r (τ3.1 a0 2)) 1)) 1)) : Int)) :
    p_124 (a0) (a1) (a2) σ (.inl (q_i (τ3.1 (q_r (τ3.1 (q_r (τ3.1 (q_r (τ3.1 a0 2)) 1)) 1)) a1.toNatClampNeg))) τ3 := by
  rintro rfl A nf nt X K I
  have k6 := I.1.2.1
  obtain ⟨e1, u1⟩ := g1
  subst e1
  have v1 := (u1 rfl X A nf K I.1.1 k6).1 rfl
  obtain ⟨e2, u2, -⟩ := g2
  subst e2
  have v2 := u2 rfl
  have z8' : (Int32.ofInt 8).toInt = 8 := rfl
  rw [z8'] at v2
  obtain ⟨e3, g3⟩ := g3
  subst e3
  have d2 : q_r (τ3.1 0 2) = 8 := by rw [X.2.1]; rfl
  rw [d2] at g3
  have g3 := g3 A K
  refine ⟨rfl, fun q => absurd v1 q, fun F eF hF => ⟨fun q => absurd v2 q, fun _ => ⟨_, rfl, fFm.of h6 ⟨(fun q => absurd q (by decide)), (fun _ => ?_), (fun q => absurd q (by decide)), (fun q => absurd q (by decide)), (fun q => absurd q (by decide)), (fun q => absurd q (by decide)), (fun q => absurd q (by decide)), (fun q => absurd q (by decide)), (fun q => absurd q (by decide))⟩⟩⟩⟩
  subst eF
  rw [fHo I hF] at g3
  rw [d2, K.k hk_1, K.k hk_f1, o32n (by omega)]
  exact K.p (hp_f1 (by omega))
theorem sp_124_enns2_ (a0 : Nat) (a1 : Int32) (a2 : Int32) (σ : zSg) (τ1 : zSg) (τ2 : zSg) (τ3 : zSg) (r3 : Int32) (g1 : p_167 a0 a1 σ (.inl 0) τ1) (g2 : p_169 a0 a2 (Int32.ofInt (8)) τ1 (.inl 0) τ2) (g3 : p_28 (q_r (τ2.1 a0 2)) ((Int32.ofInt (1)) <<< (a1 &&& 31)) τ2 r3 τ3) (h4 : a2.toInt ≠ 0) (h6 : a2.toInt ≠ 1) (h8 : a2.toInt = 2) (h9 : 0 ≤ a1.toInt ∧ a1.toInt < (τ3.2.1 (q_r (τ3.1 (q_r (τ3.1 (q_r (τ3.1 a0 2)) 1)) 2)) : Int)) :
    p_124 (a0) (a1) (a2) σ (.inl (q_i (τ3.1 (q_r (τ3.1 (q_r (τ3.1 (q_r (τ3.1 a0 2)) 1)) 2)) a1.toNatClampNeg))) τ3 := by
  rintro rfl A nf nt X K I
  have k6 := I.1.2.1
  obtain ⟨e1, u1⟩ := g1
  subst e1
  have v1 := (u1 rfl X A nf K I.1.1 k6).1 rfl
  obtain ⟨e2, u2, -⟩ := g2
  subst e2
  have v2 := u2 rfl
  have z8' : (Int32.ofInt 8).toInt = 8 := rfl
  rw [z8'] at v2
  obtain ⟨e3, g3⟩ := g3
  subst e3
  have d2 : q_r (τ3.1 0 2) = 8 := by rw [X.2.1]; rfl
  rw [d2] at g3
  have g3 := g3 A K
  refine ⟨rfl, fun q => absurd v1 q, fun F eF hF => ⟨fun q => absurd v2 q, fun _ => ⟨_, rfl, fFm.of h8 ⟨(fun q => absurd q (by decide)), (fun q => absurd q (by decide)), (fun _ => ?_), (fun q => absurd q (by decide)), (fun q => absurd q (by decide)), (fun q => absurd q (by decide)), (fun q => absurd q (by decide)), (fun q => absurd q (by decide)), (fun q => absurd q (by decide))⟩⟩⟩⟩
  subst eF
  rw [fHo I hF] at g3
  rw [d2, K.k hk_1, K.k hk_f2, o32n (by omega)]
  exact K.p (hp_f2 (by omega))
theorem sp_124_enns3_ (a0 : Nat) (a1 : Int32) (a2 : Int32) (σ : zSg) (τ1 : zSg) (τ2 : zSg) (τ3 : zSg) (r3 : Int32) (g1 : p_167 a0 a1 σ (.inl 0) τ1) (g2 : p_169 a0 a2 (Int32.ofInt (8)) τ1 (.inl 0) τ2) (g3 : p_28 (q_r (τ2.1 a0 2)) ((Int32.ofInt (1)) <<< (a1 &&& 31)) τ2 r3 τ3) (h4 : a2.toInt ≠ 0) (h6 : a2.toInt ≠ 1) (h8 : a2.toInt ≠ 2) (h10 : a2.toInt = 3) (h11 : 0 ≤ a1.toInt ∧ a1.toInt < (τ3.2.1 (q_r (τ3.1 (q_r (τ3.1 (q_r (τ3.1 a0 2)) 1)) 3)) : Int)) :
    p_124 (a0) (a1) (a2) σ (.inl (q_i (τ3.1 (q_r (τ3.1 (q_r (τ3.1 (q_r (τ3.1 a0 2)) 1)) 3)) a1.toNatClampNeg))) τ3 := by
  rintro rfl A nf nt X K I
  have k6 := I.1.2.1
  obtain ⟨e1, u1⟩ := g1
  subst e1
  have v1 := (u1 rfl X A nf K I.1.1 k6).1 rfl
  obtain ⟨e2, u2, -⟩ := g2
  subst e2
  have v2 := u2 rfl
  have z8' : (Int32.ofInt 8).toInt = 8 := rfl
  rw [z8'] at v2
  obtain ⟨e3, g3⟩ := g3
  subst e3
  have d2 : q_r (τ3.1 0 2) = 8 := by rw [X.2.1]; rfl
  rw [d2] at g3
  have g3 := g3 A K
  refine ⟨rfl, fun q => absurd v1 q, fun F eF hF => ⟨fun q => absurd v2 q, fun _ => ⟨_, rfl, fFm.of h10 ⟨(fun q => absurd q (by decide)), (fun q => absurd q (by decide)), (fun q => absurd q (by decide)), (fun _ => ?_), (fun q => absurd q (by decide)), (fun q => absurd q (by decide)), (fun q => absurd q (by decide)), (fun q => absurd q (by decide)), (fun q => absurd q (by decide))⟩⟩⟩⟩
  subst eF
  rw [fHo I hF] at g3
  rw [d2, K.k hk_1, K.k hk_f3, o32n (by omega)]
  exact K.p (hp_f3 (by omega))
theorem sp_124_enns4_ (a0 : Nat) (a1 : Int32) (a2 : Int32) (σ : zSg) (τ1 : zSg) (τ2 : zSg) (τ3 : zSg) (r3 : Int32) (g1 : p_167 a0 a1 σ (.inl 0) τ1) (g2 : p_169 a0 a2 (Int32.ofInt (8)) τ1 (.inl 0) τ2) (g3 : p_28 (q_r (τ2.1 a0 2)) ((Int32.ofInt (1)) <<< (a1 &&& 31)) τ2 r3 τ3) (h4 : a2.toInt ≠ 0) (h6 : a2.toInt ≠ 1) (h8 : a2.toInt ≠ 2) (h10 : a2.toInt ≠ 3) (h12 : a2.toInt = 4) :
    p_124 (a0) (a1) (a2) σ (.inl r3) τ3 := by
  rintro rfl A nf nt X K I
  have k6 := I.1.2.1
  obtain ⟨e1, u1⟩ := g1
  subst e1
  have v1 := (u1 rfl X A nf K I.1.1 k6).1 rfl
  obtain ⟨e2, u2, -⟩ := g2
  subst e2
  have v2 := u2 rfl
  have z8' : (Int32.ofInt 8).toInt = 8 := rfl
  rw [z8'] at v2
  obtain ⟨e3, g3⟩ := g3
  subst e3
  have d2 : q_r (τ3.1 0 2) = 8 := by rw [X.2.1]; rfl
  rw [d2] at g3
  have g3 := g3 A K
  refine ⟨rfl, fun q => absurd v1 q, fun F eF hF => ⟨fun q => absurd v2 q, fun _ => ⟨_, rfl, fFm.of h12 ⟨(fun q => absurd q (by decide)), (fun q => absurd q (by decide)), (fun q => absurd q (by decide)), (fun q => absurd q (by decide)), (fun _ => ?_), (fun q => absurd q (by decide)), (fun q => absurd q (by decide)), (fun q => absurd q (by decide)), (fun q => absurd q (by decide))⟩⟩⟩⟩
  subst eF
  rw [fHo I hF] at g3
  exact g3
theorem sp_124_enns5_ (a0 : Nat) (a1 : Int32) (a2 : Int32) (σ : zSg) (τ1 : zSg) (τ2 : zSg) (τ3 : zSg) (r3 : Int32) (τ14 : zSg) (r14 : Int32) (g1 : p_167 a0 a1 σ (.inl 0) τ1) (g2 : p_169 a0 a2 (Int32.ofInt (8)) τ1 (.inl 0) τ2) (g3 : p_28 (q_r (τ2.1 a0 2)) ((Int32.ofInt (1)) <<< (a1 &&& 31)) τ2 r3 τ3) (h4 : a2.toInt ≠ 0) (h6 : a2.toInt ≠ 1) (h8 : a2.toInt ≠ 2) (h10 : a2.toInt ≠ 3) (h12 : a2.toInt ≠ 4) (h13 : a2.toInt = 5) (g14 : p_311 r3 τ3 r14 τ14) :
    p_124 (a0) (a1) (a2) σ (.inl r14) τ14 := by
  rintro rfl A nf nt X K I
  have k6 := I.1.2.1
  obtain ⟨e1, u1⟩ := g1
  subst e1
  have v1 := (u1 rfl X A nf K I.1.1 k6).1 rfl
  obtain ⟨e2, u2, -⟩ := g2
  subst e2
  have v2 := u2 rfl
  have z8' : (Int32.ofInt 8).toInt = 8 := rfl
  rw [z8'] at v2
  obtain ⟨e3, g3⟩ := g3
  subst e3
  obtain ⟨e4, g4⟩ := g14
  subst e4
  have d2 : q_r (τ14.1 0 2) = 8 := by rw [X.2.1]; rfl
  rw [d2] at g3
  have g3 := g3 A K
  refine ⟨rfl, fun q => absurd v1 q, fun F eF hF => ⟨fun q => absurd v2 q, fun _ => ⟨_, rfl, fFm.of h13 ⟨(fun q => absurd q (by decide)), (fun q => absurd q (by decide)), (fun q => absurd q (by decide)), (fun q => absurd q (by decide)), (fun q => absurd q (by decide)), (fun _ => ?_), (fun q => absurd q (by decide)), (fun q => absurd q (by decide)), (fun q => absurd q (by decide))⟩⟩⟩⟩
  subst eF
  rw [fHo I hF] at g3
  rw [g4, g3]
  rfl
theorem sp_124_enns6_ (a0 : Nat) (a1 : Int32) (a2 : Int32) (σ : zSg) (τ1 : zSg) (τ2 : zSg) (τ3 : zSg) (r3 : Int32) (τ16 : zSg) (r16 : Int32) (g1 : p_167 a0 a1 σ (.inl 0) τ1) (g2 : p_169 a0 a2 (Int32.ofInt (8)) τ1 (.inl 0) τ2) (g3 : p_28 (q_r (τ2.1 a0 2)) ((Int32.ofInt (1)) <<< (a1 &&& 31)) τ2 r3 τ3) (h4 : a2.toInt ≠ 0) (h6 : a2.toInt ≠ 1) (h8 : a2.toInt ≠ 2) (h10 : a2.toInt ≠ 3) (h12 : a2.toInt ≠ 4) (h13 : a2.toInt ≠ 5) (h15 : a2.toInt = 6) (g16 : p_65 r3 τ3 r16 τ16) :
    p_124 (a0) (a1) (a2) σ (.inl r16) τ16 := by
  rintro rfl A nf nt X K I
  have k6 := I.1.2.1
  obtain ⟨e1, u1⟩ := g1
  subst e1
  have v1 := (u1 rfl X A nf K I.1.1 k6).1 rfl
  obtain ⟨e2, u2, -⟩ := g2
  subst e2
  have v2 := u2 rfl
  have z8' : (Int32.ofInt 8).toInt = 8 := rfl
  rw [z8'] at v2
  obtain ⟨e3, g3⟩ := g3
  subst e3
  obtain ⟨e4, g4⟩ := g16
  subst e4
  have d2 : q_r (τ16.1 0 2) = 8 := by rw [X.2.1]; rfl
  rw [d2] at g3
  have g3 := g3 A K
  refine ⟨rfl, fun q => absurd v1 q, fun F eF hF => ⟨fun q => absurd v2 q, fun _ => ⟨_, rfl, fFm.of h15 ⟨(fun q => absurd q (by decide)), (fun q => absurd q (by decide)), (fun q => absurd q (by decide)), (fun q => absurd q (by decide)), (fun q => absurd q (by decide)), (fun q => absurd q (by decide)), (fun _ => ?_), (fun q => absurd q (by decide)), (fun q => absurd q (by decide))⟩⟩⟩⟩
  subst eF
  rw [fHo I hF] at g3
  exact g4 (fun h => decide (A (16 + h) = Int32.ofNat F)) g3
theorem sp_124_enns7_ (a0 : Nat) (a1 : Int32) (a2 : Int32) (σ : zSg) (τ1 : zSg) (τ2 : zSg) (τ3 : zSg) (r3 : Int32) (τ19 : zSg) (r19 : Int32) (g1 : p_167 a0 a1 σ (.inl 0) τ1) (g2 : p_169 a0 a2 (Int32.ofInt (8)) τ1 (.inl 0) τ2) (g3 : p_28 (q_r (τ2.1 a0 2)) ((Int32.ofInt (1)) <<< (a1 &&& 31)) τ2 r3 τ3) (h4 : a2.toInt ≠ 0) (h6 : a2.toInt ≠ 1) (h8 : a2.toInt ≠ 2) (h10 : a2.toInt ≠ 3) (h12 : a2.toInt ≠ 4) (h13 : a2.toInt ≠ 5) (h15 : a2.toInt ≠ 6) (h17 : a2.toInt = 7) (h18 : 0 ≤ a1.toInt ∧ a1.toInt < (τ3.2.1 (q_r (τ3.1 (q_r (τ3.1 (q_r (τ3.1 a0 2)) 1)) 3)) : Int)) (g19 : p_311 (r3 &&& (q_i (τ3.1 (q_r (τ3.1 (q_r (τ3.1 (q_r (τ3.1 a0 2)) 1)) 3)) a1.toNatClampNeg))) τ3 r19 τ19) :
    p_124 (a0) (a1) (a2) σ (.inl r19) τ19 := by
  rintro rfl A nf nt X K I
  have k6 := I.1.2.1
  obtain ⟨e1, u1⟩ := g1
  subst e1
  have v1 := (u1 rfl X A nf K I.1.1 k6).1 rfl
  obtain ⟨e2, u2, -⟩ := g2
  subst e2
  have v2 := u2 rfl
  have z8' : (Int32.ofInt 8).toInt = 8 := rfl
  rw [z8'] at v2
  obtain ⟨e3, g3⟩ := g3
  subst e3
  obtain ⟨e4, g4⟩ := g19
  subst e4
  have d2 : q_r (τ19.1 0 2) = 8 := by rw [X.2.1]; rfl
  rw [d2] at g3
  have g3 := g3 A K
  refine ⟨rfl, fun q => absurd v1 q, fun F eF hF => ⟨fun q => absurd v2 q, fun _ => ⟨_, rfl, fFm.of h17 ⟨(fun q => absurd q (by decide)), (fun q => absurd q (by decide)), (fun q => absurd q (by decide)), (fun q => absurd q (by decide)), (fun q => absurd q (by decide)), (fun q => absurd q (by decide)), (fun q => absurd q (by decide)), (fun _ => ?_), (fun q => absurd q (by decide))⟩⟩⟩⟩
  subst eF
  rw [fHo I hF] at g3
  rw [g4, g3, d2, K.k hk_1, K.k hk_f3, o32n (by omega), K.p (hp_f3 (by omega))]
theorem sp_124_ennd (a0 : Nat) (a1 : Int32) (a2 : Int32) (σ : zSg) (τ1 : zSg) (τ2 : zSg) (τ3 : zSg) (r3 : Int32) (τ20 : zSg) (r20 : Int32) (g1 : p_167 a0 a1 σ (.inl 0) τ1) (g2 : p_169 a0 a2 (Int32.ofInt (8)) τ1 (.inl 0) τ2) (g3 : p_28 (q_r (τ2.1 a0 2)) ((Int32.ofInt (1)) <<< (a1 &&& 31)) τ2 r3 τ3) (h4 : a2.toInt ≠ 0) (h6 : a2.toInt ≠ 1) (h8 : a2.toInt ≠ 2) (h10 : a2.toInt ≠ 3) (h12 : a2.toInt ≠ 4) (h13 : a2.toInt ≠ 5) (h15 : a2.toInt ≠ 6) (h17 : a2.toInt ≠ 7) (g20 : p_68 (q_r (τ3.1 a0 2)) a1 τ3 r20 τ20) :
    p_124 (a0) (a1) (a2) σ (.inl r20) τ20 := by
  rintro rfl A nf nt X K I
  have k6 := I.1.2.1
  obtain ⟨e1, u1⟩ := g1
  subst e1
  have v1 := (u1 rfl X A nf K I.1.1 k6).1 rfl
  obtain ⟨e2, u2, -⟩ := g2
  subst e2
  have v2 := u2 rfl
  have z8' : (Int32.ofInt 8).toInt = 8 := rfl
  rw [z8'] at v2
  obtain ⟨e3, g3⟩ := g3
  subst e3
  obtain ⟨e4, g4⟩ := g20
  subst e4
  have d2 : q_r (τ20.1 0 2) = 8 := by rw [X.2.1]; rfl
  rw [d2] at g3
  have g3 := g3 A K
  refine ⟨rfl, fun q => absurd v1 q, fun F eF hF => ⟨fun q => absurd v2 q, fun _ => ⟨_, rfl, fFm.of (show a2.toInt = 8 by omega) ⟨(fun q => absurd q (by decide)), (fun q => absurd q (by decide)), (fun q => absurd q (by decide)), (fun q => absurd q (by decide)), (fun q => absurd q (by decide)), (fun q => absurd q (by decide)), (fun q => absurd q (by decide)), (fun q => absurd q (by decide)), (fun _ => ?_)⟩⟩⟩⟩
  subst eF
  rw [fHo I hF] at g3
  rw [d2] at g4
  exact g4 A nf nt K I
theorem sp_124_enx3_ (a0 : Nat) (a1 : Int32) (a2 : Int32) (σ : zSg) (τ1 : zSg) (τ2 : zSg) (g1 : p_167 a0 a1 σ (.inl 0) τ1) (g2 : p_169 a0 a2 (Int32.ofInt (8)) τ1 (.inr 3) τ2) :
    p_124 (a0) (a1) (a2) σ (.inr 3) τ2 := by
  rintro rfl A nf nt X K I
  have k6 := I.1.2.1
  obtain ⟨e1, u1⟩ := g1
  subst e1
  have v1 := (u1 rfl X A nf K I.1.1 k6).1 rfl
  obtain ⟨e2, -, u2⟩ := g2
  have v2 := u2 rfl
  have z8' : (Int32.ofInt 8).toInt = 8 := rfl
  rw [z8'] at v2
  exact ⟨e2, fun q => absurd v1 q, fun F _ _ => ⟨fun _ => rfl, fun q => absurd q v2⟩⟩
theorem sp_124_ex2_ (a0 : Nat) (a1 : Int32) (a2 : Int32) (σ : zSg) (τ1 : zSg) (g1 : p_167 a0 a1 σ (.inr 2) τ1) :
    p_124 (a0) (a1) (a2) σ (.inr 2) τ1 := by
  rintro rfl A nf nt X K I
  have k6 := I.1.2.1
  obtain ⟨e1, u1⟩ := g1
  have v1 := (u1 rfl X A nf K I.1.1 k6).2 rfl
  exact ⟨e1, fun _ => rfl, fun F eF hF => absurd (by rw [eF, o32 (by omega)]; omega) v1⟩
noncomputable def qP_124 : zPp := fun as σ o σ' => match as with
  | [a0, a1, a2] => (∃ r, o = .inl (some (.int r)) ∧ p_124 (q_r a0) (q_i a1) (q_i a2) σ (.inl r) σ') ∨ (o = .inr 2 ∧ p_124 (q_r a0) (q_i a1) (q_i a2) σ (.inr 2) σ') ∨ (o = .inr 3 ∧ p_124 (q_r a0) (q_i a1) (q_i a2) σ (.inr 3) σ')
  | _ => True
set_option maxRecDepth 100000 in
theorem sp_124 {sx : zX} (S167 : zEe sx 167 2 qP_167) (S169 : zEe sx 169 3 qP_169) (S28 : zEe sx 28 2 qP_28) (S16 : zEe sx 16 2 qP_16) (S311 : zEe sx 311 1 qP_311) (S65 : zEe sx 65 1 qP_65) (S68 : zEe sx 68 2 qP_68) : zEe sx 124 3 qP_124 := by
  refine zfle zJ_124 (sps := [(167, 2, qP_167), (169, 3, qP_169), (28, 2, qP_28), (16, 2, qP_16), (311, 1, qP_311), (65, 1, qP_65), (68, 2, qP_68)]) (fun q hq => by
    simp only [List.mem_cons, List.not_mem_nil, or_false] at hq
    rcases hq with rfl | rfl | rfl | rfl | rfl | rfl | rfl
    · exact S167
    · exact S169
    · exact S28
    · exact S16
    · exact S311
    · exact S65
    · exact S68) (fun as σ hl => ?_)
  match as, hl with
  | [a0, a1, a2], _ =>
  refine ⟨[], 400, ?_, ?_⟩
  · exact fun q hq => absurd hq List.not_mem_nil
  · refine fun o1 τ1 g1 => ?_
    rcases g1 with ⟨rfl, g1⟩ | ⟨rfl, g1⟩
    · refine fun o2 τ2 g2 => ?_
      rcases g2 with ⟨rfl, g2⟩ | ⟨rfl, g2⟩
      · refine fun o3 τ3 g3 => ?_
        obtain ⟨r3, rfl, g3⟩ := g3
        refine And.intro (fun h4 => ?_) (fun h4 => ?_)
        · refine fun o5 τ5 g5 => ?_
          obtain ⟨r5, rfl, g5⟩ := g5
          exact Or.inl ⟨_, rfl, sp_124_enns0_ (q_r a0) (q_i a1) (q_i a2) σ τ1 τ2 τ3 r3 τ5 r5 g1 g2 g3 h4 g5⟩
        refine And.intro (fun h6 => ?_) (fun h6 => ?_)
        · refine fun h7 => ?_
          exact Or.inl ⟨_, rfl, sp_124_enns1_ (q_r a0) (q_i a1) (q_i a2) σ τ1 τ2 τ3 r3 g1 g2 g3 h4 h6 (q_inp h7)⟩
        refine And.intro (fun h8 => ?_) (fun h8 => ?_)
        · refine fun h9 => ?_
          exact Or.inl ⟨_, rfl, sp_124_enns2_ (q_r a0) (q_i a1) (q_i a2) σ τ1 τ2 τ3 r3 g1 g2 g3 h4 h6 h8 (q_inp h9)⟩
        refine And.intro (fun h10 => ?_) (fun h10 => ?_)
        · refine fun h11 => ?_
          exact Or.inl ⟨_, rfl, sp_124_enns3_ (q_r a0) (q_i a1) (q_i a2) σ τ1 τ2 τ3 r3 g1 g2 g3 h4 h6 h8 h10 (q_inp h11)⟩
        refine And.intro (fun h12 => ?_) (fun h12 => ?_)
        · exact Or.inl ⟨_, rfl, sp_124_enns4_ (q_r a0) (q_i a1) (q_i a2) σ τ1 τ2 τ3 r3 g1 g2 g3 h4 h6 h8 h10 h12⟩
        refine And.intro (fun h13 => ?_) (fun h13 => ?_)
        · refine fun o14 τ14 g14 => ?_
          obtain ⟨r14, rfl, g14⟩ := g14
          exact Or.inl ⟨_, rfl, sp_124_enns5_ (q_r a0) (q_i a1) (q_i a2) σ τ1 τ2 τ3 r3 τ14 r14 g1 g2 g3 h4 h6 h8 h10 h12 h13 g14⟩
        refine And.intro (fun h15 => ?_) (fun h15 => ?_)
        · refine fun o16 τ16 g16 => ?_
          obtain ⟨r16, rfl, g16⟩ := g16
          exact Or.inl ⟨_, rfl, sp_124_enns6_ (q_r a0) (q_i a1) (q_i a2) σ τ1 τ2 τ3 r3 τ16 r16 g1 g2 g3 h4 h6 h8 h10 h12 h13 h15 g16⟩
        refine And.intro (fun h17 => ?_) (fun h17 => ?_)
        · refine fun h18 => ?_
          refine fun o19 τ19 g19 => ?_
          obtain ⟨r19, rfl, g19⟩ := g19
          exact Or.inl ⟨_, rfl, sp_124_enns7_ (q_r a0) (q_i a1) (q_i a2) σ τ1 τ2 τ3 r3 τ19 r19 g1 g2 g3 h4 h6 h8 h10 h12 h13 h15 h17 (q_inp h18) g19⟩
        refine fun o20 τ20 g20 => ?_
        obtain ⟨r20, rfl, g20⟩ := g20
        exact Or.inl ⟨_, rfl, sp_124_ennd (q_r a0) (q_i a1) (q_i a2) σ τ1 τ2 τ3 r3 τ20 r20 g1 g2 g3 h4 h6 h8 h10 h12 h13 h15 h17 g20⟩
      · exact Or.inr (Or.inr (⟨rfl, sp_124_enx3_ (q_r a0) (q_i a1) (q_i a2) σ τ1 τ2 g1 g2⟩))
    · exact Or.inr (Or.inl (⟨rfl, sp_124_ex2_ (q_r a0) (q_i a1) (q_i a2) σ τ1 g1⟩))
theorem i_max {a b : Nat} (ha : a ≤ 1000) (hb : b ≤ 1000) : (if Int32.ofNat a < Int32.ofNat b then Int32.ofNat b else Int32.ofNat a) = Int32.ofNat (max a b) := by
  by_cases q : a < b
  · rw [if_pos (Int32.lt_iff_toInt_lt.mpr (by rw [o32 ha, o32 hb]; omega)), Nat.max_eq_right (by omega)]
  · rw [if_neg (fun w => by
      rw [Int32.lt_iff_toInt_lt, o32 ha, o32 hb] at w
      omega), Nat.max_eq_left (by omega)]
theorem zJ_245 : zJ3 245 z_m245 z_c245 z_h245 := ⟨rfl, rfl, rfl⟩
noncomputable def p_245 (x h : Int32) (σ : zSg) (r : Int32) (σ' : zSg) : Prop := σ' = σ ∧ ∀ P H, x = fB P 24 → h = Int32.ofNat H → H < 24 → r = Int32.ofNat (fRw P H 24)
noncomputable def i_245 (x h : Int32) (σ : zSg) (l0 l1 l2 : Int32) (τ : zSg) : Prop := l0 = x ∧ l1 = h ∧ τ = σ ∧ ∃ n, n ≤ 24 ∧ l2 = Int32.ofNat n ∧ ∀ P H, x = fB P 24 → h = Int32.ofNat H → H < 24 → fRu P H n = true
theorem sp_245_e (a0 : Int32) (a1 : Int32) (σ : zSg)  :
    i_245 a0 a1 σ a0 a1 (Int32.ofInt (0)) σ := by
  exact ⟨rfl, rfl, rfl, 0, by omega, rfl, fun _ _ _ _ _ => rfl⟩
theorem sp_245_c2_t (a0 : Int32) (a1 : Int32) (σ : zSg) (l0 : Int32) (l1 : Int32) (l2 : Int32) (τ : zSg) (hI : i_245 a0 a1 σ l0 l1 l2 τ) (h1 : l2.toInt ≥ (24 : Int)) :
    p_245 (a0) (a1) σ l2 τ := by
  obtain ⟨rfl, rfl, rfl, n, hn, rfl, hI⟩ := hI
  rw [o32 (by omega)] at h1
  exact ⟨rfl, fun P H e1 e2 hH => by rw [fRw_eq hn (hI P H e1 e2 hH) (Or.inl (by omega))]⟩
theorem sp_245_c2_ft (a0 : Int32) (a1 : Int32) (σ : zSg) (l0 : Int32) (l1 : Int32) (l2 : Int32) (τ : zSg) (τ2 : zSg) (r2 : Int32) (hI : i_245 a0 a1 σ l0 l1 l2 τ) (h1 : l2.toInt < (24 : Int)) (g2 : p_178 l0 ((l1 + l2) - (l1 + l2) / (Int32.ofInt (24)) * (Int32.ofInt (24))) τ r2 τ2) (h3 : r2.toInt = (0 : Int)) :
    p_245 (a0) (a1) σ l2 τ2 := by
  obtain ⟨ea, g1⟩ := g2
  subst ea
  obtain ⟨rfl, rfl, rfl, n, hn, rfl, hI⟩ := hI
  rw [o32 (by omega)] at h1
  refine ⟨rfl, fun P H e1 e2 hH => ?_⟩
  have xb : btb l0 ((l1 + Int32.ofNat n) - (l1 + Int32.ofNat n) / Int32.ofInt 24 * Int32.ofInt 24) = P ((H + n) % 24) := by
    have hm : (H + n) % 24 < 24 := Nat.mod_lt _ (by omega)
    rw [e2, o32a (by omega), (fm48_at (show H + n < 48 by omega)).2, e1, btb_at _ (by omega), fB_bit (by omega) 24 (by omega), decide_eq_true hm, Bool.true_and]
  rw [g1, xb] at h3
  have q : P ((H + n) % 24) = false := by
    cases q : P ((H + n) % 24)
    · rfl
    · rw [q] at h3; exact absurd h3 (by decide)
  have u := hI P H e1 e2 hH
  rw [fRw_eq hn u (Or.inr (by
    show (fRu P H n && P ((H + n) % 24)) = false
    rw [q, Bool.and_false]))]
theorem sp_245_c2_ff (a0 : Int32) (a1 : Int32) (σ : zSg) (l0 : Int32) (l1 : Int32) (l2 : Int32) (τ : zSg) (τ2 : zSg) (r2 : Int32) (hI : i_245 a0 a1 σ l0 l1 l2 τ) (h1 : l2.toInt < (24 : Int)) (g2 : p_178 l0 ((l1 + l2) - (l1 + l2) / (Int32.ofInt (24)) * (Int32.ofInt (24))) τ r2 τ2) (h3 : r2.toInt ≠ (0 : Int)) :
    i_245 a0 a1 σ l0 l1 (l2 + Int32.ofInt (1)) τ2 := by
  obtain ⟨ea, g1⟩ := g2
  subst ea
  obtain ⟨rfl, rfl, rfl, n, hn, rfl, hI⟩ := hI
  rw [o32 (by omega)] at h1
  refine ⟨rfl, rfl, rfl, n + 1, by omega, o32i (by omega), fun P H e1 e2 hH => ?_⟩
  have xb : btb l0 ((l1 + Int32.ofNat n) - (l1 + Int32.ofNat n) / Int32.ofInt 24 * Int32.ofInt 24) = P ((H + n) % 24) := by
    have hm : (H + n) % 24 < 24 := Nat.mod_lt _ (by omega)
    rw [e2, o32a (by omega), (fm48_at (show H + n < 48 by omega)).2, e1, btb_at _ (by omega), fB_bit (by omega) 24 (by omega), decide_eq_true hm, Bool.true_and]
  rw [g1, xb] at h3
  have q : P ((H + n) % 24) = true := by
    cases q : P ((H + n) % 24)
    · rw [q] at h3; exact absurd rfl h3
    · rfl
  show (fRu P H n && P ((H + n) % 24)) = true
  rw [hI P H e1 e2 hH, q]
  rfl
noncomputable def qP_245 : zPp := fun as σ o σ' => match as with
  | [a0, a1] => ∃ r, o = .inl (some (.int r)) ∧ p_245 (q_i a0) (q_i a1) σ r σ'
  | _ => True
set_option maxRecDepth 100000 in
theorem sp_245 {sx : zX} (S178 : zEe sx 178 2 qP_178) : zEe sx 245 2 qP_245 := by
  refine zfle zJ_245 (sps := [(178, 2, qP_178)]) (fun q hq => by
    simp only [List.mem_cons, List.not_mem_nil, or_false] at hq
    rcases hq with rfl
    · exact S178) (fun as σ hl => ?_)
  match as, hl with
  | [a0, a1], _ =>
  refine ⟨[(2, fun lo st τ => st = [] ∧ i_245 (q_i a0) (q_i a1) σ (q_i (lo 0)) (q_i (lo 1)) (q_i (lo 2)) τ)], 400, ?_, ?_⟩
  · intro q hq
    simp only [List.mem_cons, List.not_mem_nil, or_false] at hq
    rcases hq with rfl
    · rintro lo st τ ⟨rfl, hI⟩
      refine ⟨400, ?_⟩
      refine And.intro (fun h1 => ?_) (fun h1 => ?_)
      · exact ⟨_, rfl, sp_245_c2_t (q_i a0) (q_i a1) σ (q_i (lo 0)) (q_i (lo 1)) (q_i (lo 2)) τ hI (cm3t h1)⟩
      · refine fun o2 τ2 g2 => ?_
        obtain ⟨r2, rfl, g2⟩ := g2
        refine And.intro (fun h3 => ?_) (fun h3 => ?_)
        · exact ⟨_, rfl, sp_245_c2_ft (q_i a0) (q_i a1) σ (q_i (lo 0)) (q_i (lo 1)) (q_i (lo 2)) τ τ2 r2 hI (cm3f h1) g2 (cm0t h3)⟩
        · exact ⟨rfl, sp_245_c2_ff (q_i a0) (q_i a1) σ (q_i (lo 0)) (q_i (lo 1)) (q_i (lo 2)) τ τ2 r2 hI (cm3f h1) g2 (cm0f h3)⟩
  · exact ⟨rfl, sp_245_e (q_i a0) (q_i a1) σ ⟩
theorem zJ_246 : zJ3 246 z_m246 z_c246 z_h246 := ⟨rfl, rfl, rfl⟩
noncomputable def p_246 (a : Nat) (f : Int32) (σ : zSg) (r : Int32) (σ' : zSg) : Prop := σ' = σ ∧ (a = 205 → ∀ A, rW σ A → r = Int32.ofNat (fMx (fun h => decide (A (16 + h) = f)) 24))
noncomputable def i_246 (a : Nat) (f : Int32) (σ : zSg) (l0 : Nat) (l1 l2 l3 : Int32) (τ : zSg) : Prop := l0 = a ∧ l1 = f ∧ τ = σ ∧ ∃ n, n ≤ 24 ∧ l3 = Int32.ofNat n ∧ (a = 205 → ∀ A, rW σ A → l2 = Int32.ofNat (fMx (fun h => decide (A (16 + h) = f)) n))
theorem sp_246_e (a0 : Nat) (a1 : Int32) (σ : zSg)  :
    i_246 a0 a1 σ a0 a1 (Int32.ofInt (0)) (Int32.ofInt (0)) σ := by
  exact ⟨rfl, rfl, rfl, 0, by omega, rfl, fun _ _ _ => rfl⟩
theorem sp_246_c4_t (a0 : Nat) (a1 : Int32) (σ : zSg) (l0 : Nat) (l1 : Int32) (l2 : Int32) (l3 : Int32) (τ : zSg) (hI : i_246 a0 a1 σ l0 l1 l2 l3 τ) (h1 : l3.toInt ≥ (24 : Int)) :
    p_246 (a0) (a1) σ l2 τ := by
  obtain ⟨rfl, rfl, rfl, n, hn, rfl, hI⟩ := hI
  rw [o32 (by omega)] at h1
  have : n = 24 := by omega
  subst this
  exact ⟨rfl, hI⟩
theorem sp_246_c4_f (a0 : Nat) (a1 : Int32) (σ : zSg) (l0 : Nat) (l1 : Int32) (l2 : Int32) (l3 : Int32) (τ : zSg) (τ2 : zSg) (r2 : Int32) (τ3 : zSg) (r3 : Int32) (hI : i_246 a0 a1 σ l0 l1 l2 l3 τ) (h1 : l3.toInt < (24 : Int)) (g2 : p_242 l0 l1 τ r2 τ2) (g3 : p_245 r2 l3 τ2 r3 τ3) :
    i_246 a0 a1 σ l0 l1 (if l2 < r3 then r3 else l2) (l3 + Int32.ofInt (1)) τ3 := by
  obtain ⟨ea1, ga1⟩ := g2
  subst ea1
  obtain ⟨ea2, ga2⟩ := g3
  subst ea2
  obtain ⟨rfl, rfl, rfl, n, hn, rfl, hI⟩ := hI
  rw [o32 (by omega)] at h1
  refine ⟨rfl, rfl, rfl, n + 1, by omega, o32i (by omega), fun ha A w => ?_⟩
  have y1 := ga1 ha A w
  have y2 := ga2 _ n y1 rfl (by omega)
  have m1 := fMx_le (fun h => decide (A (16 + h) = l1)) n
  have m2 := fRw_le (fun h => decide (A (16 + h) = l1)) n 24
  rw [hI ha A w, y2, i_max (by omega) (by omega)]
  rfl
noncomputable def qP_246 : zPp := fun as σ o σ' => match as with
  | [a0, a1] => ∃ r, o = .inl (some (.int r)) ∧ p_246 (q_r a0) (q_i a1) σ r σ'
  | _ => True
set_option maxRecDepth 100000 in
theorem sp_246 {sx : zX} (S242 : zEe sx 242 2 qP_242) (S245 : zEe sx 245 2 qP_245) : zEe sx 246 2 qP_246 := by
  refine zfle zJ_246 (sps := [(242, 2, qP_242), (245, 2, qP_245)]) (fun q hq => by
    simp only [List.mem_cons, List.not_mem_nil, or_false] at hq
    rcases hq with rfl | rfl
    · exact S242
    · exact S245) (fun as σ hl => ?_)
  match as, hl with
  | [a0, a1], _ =>
  refine ⟨[(4, fun lo st τ => st = [] ∧ i_246 (q_r a0) (q_i a1) σ (q_r (lo 0)) (q_i (lo 1)) (q_i (lo 2)) (q_i (lo 3)) τ)], 400, ?_, ?_⟩
  · intro q hq
    simp only [List.mem_cons, List.not_mem_nil, or_false] at hq
    rcases hq with rfl
    · rintro lo st τ ⟨rfl, hI⟩
      refine ⟨400, ?_⟩
      refine And.intro (fun h1 => ?_) (fun h1 => ?_)
      · exact ⟨_, rfl, sp_246_c4_t (q_r a0) (q_i a1) σ (q_r (lo 0)) (q_i (lo 1)) (q_i (lo 2)) (q_i (lo 3)) τ hI (cm3t h1)⟩
      · refine fun o2 τ2 g2 => ?_
        obtain ⟨r2, rfl, g2⟩ := g2
        refine fun o3 τ3 g3 => ?_
        obtain ⟨r3, rfl, g3⟩ := g3
        exact ⟨rfl, sp_246_c4_f (q_r a0) (q_i a1) σ (q_r (lo 0)) (q_i (lo 1)) (q_i (lo 2)) (q_i (lo 3)) τ τ2 r2 τ3 r3 hI (cm3f h1) g2 g3⟩
  · exact ⟨rfl, sp_246_e (q_r a0) (q_i a1) σ ⟩
theorem zJ_244 : zJ3 244 z_m244 z_c244 z_h244 := ⟨rfl, rfl, rfl⟩
noncomputable def p_244 (a : Nat) (f : Int32) (σ : zSg) (r : Int32) (σ' : zSg) : Prop := σ' = σ ∧ (a = 205 → ∀ A, rW σ A → ∀ F, f = Int32.ofNat F → F < 6 → r = fBc (fHs A F &&& A (43 + 4 * F)))
theorem sp_244_e (a0 : Nat) (a1 : Int32) (σ : zSg) (τ1 : zSg) (r1 : Int32) (τ2 : zSg) (r2 : Int32) (τ3 : zSg) (r3 : Int32) (g1 : p_242 a0 a1 σ r1 τ1) (g2 : p_190 a0 a1 (Int32.ofInt (3)) τ1 r2 τ2) (g3 : p_311 (r1 &&& r2) τ2 r3 τ3) :
    p_244 (a0) (a1) σ r3 τ3 := by
  obtain ⟨ea1, ga1⟩ := g1
  subst ea1
  obtain ⟨ea2, ga2⟩ := g2
  subst ea2
  obtain ⟨ea3, ga3⟩ := g3
  subst ea3
  refine ⟨rfl, fun ha A w F eF hF => ?_⟩
  have y1 := ga1 ha A w
  have y2 := ga2 ha A w F 3 eF hF rfl (by omega)
  rw [ga3, y1, y2, eF]
  rfl
noncomputable def qP_244 : zPp := fun as σ o σ' => match as with
  | [a0, a1] => ∃ r, o = .inl (some (.int r)) ∧ p_244 (q_r a0) (q_i a1) σ r σ'
  | _ => True
set_option maxRecDepth 100000 in
theorem sp_244 {sx : zX} (S242 : zEe sx 242 2 qP_242) (S190 : zEe sx 190 3 qP_190) (S311 : zEe sx 311 1 qP_311) : zEe sx 244 2 qP_244 := by
  refine zfle zJ_244 (sps := [(242, 2, qP_242), (190, 3, qP_190), (311, 1, qP_311)]) (fun q hq => by
    simp only [List.mem_cons, List.not_mem_nil, or_false] at hq
    rcases hq with rfl | rfl | rfl
    · exact S242
    · exact S190
    · exact S311) (fun as σ hl => ?_)
  match as, hl with
  | [a0, a1], _ =>
  refine ⟨[], 400, ?_, ?_⟩
  · exact fun q hq => absurd hq List.not_mem_nil
  · refine fun o1 τ1 g1 => ?_
    obtain ⟨r1, rfl, g1⟩ := g1
    refine fun o2 τ2 g2 => ?_
    obtain ⟨r2, rfl, g2⟩ := g2
    refine fun o3 τ3 g3 => ?_
    obtain ⟨r3, rfl, g3⟩ := g3
    exact ⟨_, rfl, sp_244_e (q_r a0) (q_i a1) σ τ1 r1 τ2 r2 τ3 r3 g1 g2 g3⟩
theorem zJ_247 : zJ3 247 z_m247 z_c247 z_h247 := ⟨rfl, rfl, rfl⟩
noncomputable def p_247 (a : Nat) (f : Int32) (σ : zSg) (r : Int32) (σ' : zSg) : Prop := σ' = σ ∧ (a = 205 → ∀ A nf nt, rW σ A → aI nf nt A → fCm A (hN A) f r)
noncomputable def i_247 (a : Nat) (f : Int32) (σ : zSg) (l0 : Nat) (l1 l2 : Int32) (τ : zSg) : Prop := l0 = a ∧ l1 = f ∧ τ = σ ∧ ∃ n, n ≤ 24 ∧ l2 = Int32.ofNat n ∧ (a = 205 → ∀ A nf nt, rW σ A → aI nf nt A → ∀ i, i < n → A (16 + (hN A + i) % 24) ≠ f)
theorem sp_247_e (a0 : Nat) (a1 : Int32) (σ : zSg)  :
    i_247 a0 a1 σ a0 a1 (Int32.ofInt (0)) σ := by
  exact ⟨rfl, rfl, rfl, 0, by omega, rfl, fun _ _ _ _ _ _ i hi => absurd hi (Nat.not_lt_zero i)⟩
theorem sp_247_c2_t (a0 : Nat) (a1 : Int32) (σ : zSg) (l0 : Nat) (l1 : Int32) (l2 : Int32) (τ : zSg) (hI : i_247 a0 a1 σ l0 l1 l2 τ) (h1 : l2.toInt ≥ (24 : Int)) :
    p_247 (a0) (a1) σ (Int32.ofInt (-1)) τ := by
  obtain ⟨rfl, rfl, rfl, n, hn, rfl, hI⟩ := hI
  rw [o32 (by omega)] at h1
  exact ⟨rfl, fun ha A nf nt w I => Or.inr ⟨fun i hi => hI ha A nf nt w I i (by omega), rfl⟩⟩
theorem sp_247_c2_ft (a0 : Nat) (a1 : Int32) (σ : zSg) (l0 : Nat) (l1 : Int32) (l2 : Int32) (τ : zSg) (τ3 : zSg) (r3 : Int32) (hI : i_247 a0 a1 σ l0 l1 l2 τ) (h1 : l2.toInt < (24 : Int)) (h2 : 0 ≤ (Int32.ofInt (4)).toInt ∧ (Int32.ofInt (4)).toInt < (τ.2.1 (q_r (τ.1 l0 1)) : Int)) (g3 : p_186 l0 (((q_i (τ.1 (q_r (τ.1 l0 1)) (Int32.ofInt (4)).toNatClampNeg)) + l2) - ((q_i (τ.1 (q_r (τ.1 l0 1)) (Int32.ofInt (4)).toNatClampNeg)) + l2) / (Int32.ofInt (24)) * (Int32.ofInt (24))) τ r3 τ3) (h4 : r3.toInt ≠ l1.toInt) :
    i_247 a0 a1 σ l0 l1 (l2 + Int32.ofInt (1)) τ3 := by
  obtain ⟨ea1, ga1⟩ := g3
  subst ea1
  obtain ⟨rfl, rfl, rfl, n, hn, rfl, hI⟩ := hI
  refine ⟨rfl, rfl, rfl, n + 1, by rw [o32 (by omega)] at h1; omega, o32i (by omega), fun ha A nf nt w I i hi => ?_⟩
  rw [o32 (by omega)] at h1
  obtain ⟨yh1, yh4, -⟩ := I.in
  have y4 : q_i (τ3.1 (q_r (τ3.1 l0 1)) (Int32.ofInt 4).toNatClampNeg) = Int32.ofNat (hN A) := by
    rw [ha, show (Int32.ofInt 4).toNatClampNeg = 4 from rfl, w.at (by omega)]
    exact yh4
  have hm : (hN A + n) % 24 < 24 := Nat.mod_lt _ (by omega)
  have y1 := ga1 ha A ((hN A + n) % 24) w (by rw [y4, o32a (by omega)]; exact (fm48_at (show hN A + n < 48 by omega)).2) hm
  rw [y1] at h4
  by_cases q : i = n
  · rw [q]; exact fun z => h4 (congrArg Int32.toInt z)
  · exact hI ha A nf nt w I i (by omega)
theorem sp_247_c2_ff (a0 : Nat) (a1 : Int32) (σ : zSg) (l0 : Nat) (l1 : Int32) (l2 : Int32) (τ : zSg) (τ3 : zSg) (r3 : Int32) (hI : i_247 a0 a1 σ l0 l1 l2 τ) (h1 : l2.toInt < (24 : Int)) (h2 : 0 ≤ (Int32.ofInt (4)).toInt ∧ (Int32.ofInt (4)).toInt < (τ.2.1 (q_r (τ.1 l0 1)) : Int)) (g3 : p_186 l0 (((q_i (τ.1 (q_r (τ.1 l0 1)) (Int32.ofInt (4)).toNatClampNeg)) + l2) - ((q_i (τ.1 (q_r (τ.1 l0 1)) (Int32.ofInt (4)).toNatClampNeg)) + l2) / (Int32.ofInt (24)) * (Int32.ofInt (24))) τ r3 τ3) (h4 : r3.toInt = l1.toInt) :
    p_247 (a0) (a1) σ l2 τ3 := by
  obtain ⟨ea1, ga1⟩ := g3
  subst ea1
  obtain ⟨rfl, rfl, rfl, n, hn, rfl, hI⟩ := hI
  refine ⟨rfl, fun ha A nf nt w I => ?_⟩
  rw [o32 (by omega)] at h1
  obtain ⟨yh1, yh4, -⟩ := I.in
  have y4 : q_i (τ3.1 (q_r (τ3.1 l0 1)) (Int32.ofInt 4).toNatClampNeg) = Int32.ofNat (hN A) := by
    rw [ha, show (Int32.ofInt 4).toNatClampNeg = 4 from rfl, w.at (by omega)]
    exact yh4
  have hm : (hN A + n) % 24 < 24 := Nat.mod_lt _ (by omega)
  have y1 := ga1 ha A ((hN A + n) % 24) w (by rw [y4, o32a (by omega)]; exact (fm48_at (show hN A + n < 48 by omega)).2) hm
  rw [y1] at h4
  exact Or.inl ⟨n, by omega, rfl, Int32.toInt_inj.mp h4, fun i hi => hI ha A nf nt w I i hi⟩
noncomputable def qP_247 : zPp := fun as σ o σ' => match as with
  | [a0, a1] => ∃ r, o = .inl (some (.int r)) ∧ p_247 (q_r a0) (q_i a1) σ r σ'
  | _ => True
set_option maxRecDepth 100000 in
theorem sp_247 {sx : zX} (S186 : zEe sx 186 2 qP_186) : zEe sx 247 2 qP_247 := by
  refine zfle zJ_247 (sps := [(186, 2, qP_186)]) (fun q hq => by
    simp only [List.mem_cons, List.not_mem_nil, or_false] at hq
    rcases hq with rfl
    · exact S186) (fun as σ hl => ?_)
  match as, hl with
  | [a0, a1], _ =>
  refine ⟨[(2, fun lo st τ => st = [] ∧ i_247 (q_r a0) (q_i a1) σ (q_r (lo 0)) (q_i (lo 1)) (q_i (lo 2)) τ)], 400, ?_, ?_⟩
  · intro q hq
    simp only [List.mem_cons, List.not_mem_nil, or_false] at hq
    rcases hq with rfl
    · rintro lo st τ ⟨rfl, hI⟩
      refine ⟨400, ?_⟩
      refine And.intro (fun h1 => ?_) (fun h1 => ?_)
      · exact ⟨_, rfl, sp_247_c2_t (q_r a0) (q_i a1) σ (q_r (lo 0)) (q_i (lo 1)) (q_i (lo 2)) τ hI (cm3t h1)⟩
      · refine fun h2 => ?_
        refine fun o3 τ3 g3 => ?_
        obtain ⟨r3, rfl, g3⟩ := g3
        refine And.intro (fun h4 => ?_) (fun h4 => ?_)
        · exact ⟨rfl, sp_247_c2_ft (q_r a0) (q_i a1) σ (q_r (lo 0)) (q_i (lo 1)) (q_i (lo 2)) τ τ3 r3 hI (cm3f h1) (q_inp h2) g3 (cm1t h4)⟩
        · exact ⟨_, rfl, sp_247_c2_ff (q_r a0) (q_i a1) σ (q_r (lo 0)) (q_i (lo 1)) (q_i (lo 2)) τ τ3 r3 hI (cm3f h1) (q_inp h2) g3 (cm1f h4)⟩
  · exact ⟨rfl, sp_247_e (q_r a0) (q_i a1) σ ⟩
theorem zJ_249 : zJ3 249 z_m249 z_c249 z_h249 := ⟨rfl, rfl, rfl⟩
noncomputable def p_249 (a : Nat) (f w : Int32) (σ : zSg) (r : Int32) (σ' : zSg) : Prop := a = 205 → ∀ A nf nt, rW σ A → aI nf nt A → (¬ (0 ≤ f.toInt ∧ f.toInt < (nf : Int)) → r = Int32.ofInt 0 ∧ σ' = rTh σ 1) ∧ (∀ F, f = Int32.ofNat F → F < nf → (¬ (0 ≤ w.toInt ∧ w.toInt ≤ 8) → r = Int32.ofInt 0 ∧ σ' = rTh σ 2) ∧ ((0 ≤ w.toInt ∧ w.toInt ≤ 8) → σ' = r0 σ ∧ fFm A F w r))
theorem sp_249_et (a0 : Nat) (a1 : Int32) (a2 : Int32) (σ : zSg) (τ1 : zSg) (r1 : Int32) (τ2 : zSg) (r2 : Int32) (g1 : p_195 a0 a1 (q_w σ a0 0 (.int (Int32.ofInt (0)))) r1 τ1) (g2 : p_176 a0 r1 (Int32.ofInt (1)) τ1 r2 τ2) (h3 : r2.toInt ≠ (0 : Int)) :
    p_249 (a0) (a1) (a2) σ (Int32.ofInt (0)) τ2 := by
  rintro rfl A nf nt w I
  have k6 := I.1.2.1
  have w0 : rW (r0 σ) A := w.el (by omega)
  have q0 : (Int32.ofInt 0).toInt = 0 := rfl
  have q8 : (Int32.ofInt 8).toInt = 8 := rfl
  obtain ⟨e1, u1⟩ := g1
  have e1 : τ1 = r0 σ := e1
  subst e1
  have u1 := u1 rfl A w0 nf I.1.1 k6
  obtain ⟨x2, y2, n2⟩ := g2
  rw [x2] at h3
  have e2 := y2 h3
  subst e2
  exact ⟨fun _ => ⟨rfl, r0_T⟩, fun F eF hF => absurd (by rw [eF, o32 (by omega)]; omega) (u1.mp h3)⟩
theorem sp_249_efts0_ (a0 : Nat) (a1 : Int32) (a2 : Int32) (σ : zSg) (τ1 : zSg) (r1 : Int32) (τ2 : zSg) (r2 : Int32) (τ4 : zSg) (r4 : Int32) (τ9 : zSg) (r9 : Int32) (g1 : p_195 a0 a1 (q_w σ a0 0 (.int (Int32.ofInt (0)))) r1 τ1) (g2 : p_176 a0 r1 (Int32.ofInt (1)) τ1 r2 τ2) (h3 : r2.toInt = (0 : Int)) (g4 : p_177 a2 (Int32.ofInt (0)) (Int32.ofInt (8)) τ2 r4 τ4) (h5 : r4.toInt ≠ (0 : Int)) (h8 : a2.toInt = 4) (g9 : p_242 a0 a1 τ4 r9 τ9) :
    p_249 (a0) (a1) (a2) σ r9 τ9 := by
  rintro rfl A nf nt w I
  have k6 := I.1.2.1
  have w0 : rW (r0 σ) A := w.el (by omega)
  have q0 : (Int32.ofInt 0).toInt = 0 := rfl
  have q8 : (Int32.ofInt 8).toInt = 8 := rfl
  obtain ⟨e1, u1⟩ := g1
  have e1 : τ1 = r0 σ := e1
  subst e1
  have u1 := u1 rfl A w0 nf I.1.1 k6
  obtain ⟨x2, y2, n2⟩ := g2
  rw [x2] at h3
  have e2 := n2 h3
  subst e2
  have v1 : 0 ≤ a1.toInt ∧ a1.toInt < (nf : Int) := Decidable.byContradiction (fun q => (u1.mpr q) h3)
  obtain ⟨e3, u3⟩ := g4
  have e3 : τ4 = r0 σ := e3
  subst e3
  rw [q0, q8] at u3
  have v3 := u3.mp h5
  obtain ⟨e4, g4⟩ := g9
  refine ⟨fun q => absurd v1 q, fun F eF hF => ⟨fun q => absurd v3 q, fun _ => ⟨e4, fFm.of h8 ⟨(fun q => absurd q (by decide)), (fun q => absurd q (by decide)), (fun q => absurd q (by decide)), (fun q => absurd q (by decide)), (fun _ => ?_), (fun q => absurd q (by decide)), (fun q => absurd q (by decide)), (fun q => absurd q (by decide)), (fun q => absurd q (by decide))⟩⟩⟩⟩
  subst eF
  exact g4 rfl A w0
theorem sp_249_efts1_ (a0 : Nat) (a1 : Int32) (a2 : Int32) (σ : zSg) (τ1 : zSg) (r1 : Int32) (τ2 : zSg) (r2 : Int32) (τ4 : zSg) (r4 : Int32) (τ11 : zSg) (r11 : Int32) (g1 : p_195 a0 a1 (q_w σ a0 0 (.int (Int32.ofInt (0)))) r1 τ1) (g2 : p_176 a0 r1 (Int32.ofInt (1)) τ1 r2 τ2) (h3 : r2.toInt = (0 : Int)) (g4 : p_177 a2 (Int32.ofInt (0)) (Int32.ofInt (8)) τ2 r4 τ4) (h5 : r4.toInt ≠ (0 : Int)) (h8 : a2.toInt ≠ 4) (h10 : a2.toInt = 5) (g11 : p_243 a0 a1 τ4 r11 τ11) :
    p_249 (a0) (a1) (a2) σ r11 τ11 := by
  rintro rfl A nf nt w I
  have k6 := I.1.2.1
  have w0 : rW (r0 σ) A := w.el (by omega)
  have q0 : (Int32.ofInt 0).toInt = 0 := rfl
  have q8 : (Int32.ofInt 8).toInt = 8 := rfl
  obtain ⟨e1, u1⟩ := g1
  have e1 : τ1 = r0 σ := e1
  subst e1
  have u1 := u1 rfl A w0 nf I.1.1 k6
  obtain ⟨x2, y2, n2⟩ := g2
  rw [x2] at h3
  have e2 := n2 h3
  subst e2
  have v1 : 0 ≤ a1.toInt ∧ a1.toInt < (nf : Int) := Decidable.byContradiction (fun q => (u1.mpr q) h3)
  obtain ⟨e3, u3⟩ := g4
  have e3 : τ4 = r0 σ := e3
  subst e3
  rw [q0, q8] at u3
  have v3 := u3.mp h5
  obtain ⟨e4, g4⟩ := g11
  refine ⟨fun q => absurd v1 q, fun F eF hF => ⟨fun q => absurd v3 q, fun _ => ⟨e4, fFm.of h10 ⟨(fun q => absurd q (by decide)), (fun q => absurd q (by decide)), (fun q => absurd q (by decide)), (fun q => absurd q (by decide)), (fun q => absurd q (by decide)), (fun _ => ?_), (fun q => absurd q (by decide)), (fun q => absurd q (by decide)), (fun q => absurd q (by decide))⟩⟩⟩⟩
  subst eF
  exact g4 rfl A w0
theorem sp_249_efts2_ (a0 : Nat) (a1 : Int32) (a2 : Int32) (σ : zSg) (τ1 : zSg) (r1 : Int32) (τ2 : zSg) (r2 : Int32) (τ4 : zSg) (r4 : Int32) (τ13 : zSg) (r13 : Int32) (g1 : p_195 a0 a1 (q_w σ a0 0 (.int (Int32.ofInt (0)))) r1 τ1) (g2 : p_176 a0 r1 (Int32.ofInt (1)) τ1 r2 τ2) (h3 : r2.toInt = (0 : Int)) (g4 : p_177 a2 (Int32.ofInt (0)) (Int32.ofInt (8)) τ2 r4 τ4) (h5 : r4.toInt ≠ (0 : Int)) (h8 : a2.toInt ≠ 4) (h10 : a2.toInt ≠ 5) (h12 : a2.toInt = 6) (g13 : p_246 a0 a1 τ4 r13 τ13) :
    p_249 (a0) (a1) (a2) σ r13 τ13 := by
  rintro rfl A nf nt w I
  have k6 := I.1.2.1
  have w0 : rW (r0 σ) A := w.el (by omega)
  have q0 : (Int32.ofInt 0).toInt = 0 := rfl
  have q8 : (Int32.ofInt 8).toInt = 8 := rfl
  obtain ⟨e1, u1⟩ := g1
  have e1 : τ1 = r0 σ := e1
  subst e1
  have u1 := u1 rfl A w0 nf I.1.1 k6
  obtain ⟨x2, y2, n2⟩ := g2
  rw [x2] at h3
  have e2 := n2 h3
  subst e2
  have v1 : 0 ≤ a1.toInt ∧ a1.toInt < (nf : Int) := Decidable.byContradiction (fun q => (u1.mpr q) h3)
  obtain ⟨e3, u3⟩ := g4
  have e3 : τ4 = r0 σ := e3
  subst e3
  rw [q0, q8] at u3
  have v3 := u3.mp h5
  obtain ⟨e4, g4⟩ := g13
  refine ⟨fun q => absurd v1 q, fun F eF hF => ⟨fun q => absurd v3 q, fun _ => ⟨e4, fFm.of h12 ⟨(fun q => absurd q (by decide)), (fun q => absurd q (by decide)), (fun q => absurd q (by decide)), (fun q => absurd q (by decide)), (fun q => absurd q (by decide)), (fun q => absurd q (by decide)), (fun _ => ?_), (fun q => absurd q (by decide)), (fun q => absurd q (by decide))⟩⟩⟩⟩
  subst eF
  exact g4 rfl A w0
theorem sp_249_efts3_ (a0 : Nat) (a1 : Int32) (a2 : Int32) (σ : zSg) (τ1 : zSg) (r1 : Int32) (τ2 : zSg) (r2 : Int32) (τ4 : zSg) (r4 : Int32) (τ15 : zSg) (r15 : Int32) (g1 : p_195 a0 a1 (q_w σ a0 0 (.int (Int32.ofInt (0)))) r1 τ1) (g2 : p_176 a0 r1 (Int32.ofInt (1)) τ1 r2 τ2) (h3 : r2.toInt = (0 : Int)) (g4 : p_177 a2 (Int32.ofInt (0)) (Int32.ofInt (8)) τ2 r4 τ4) (h5 : r4.toInt ≠ (0 : Int)) (h8 : a2.toInt ≠ 4) (h10 : a2.toInt ≠ 5) (h12 : a2.toInt ≠ 6) (h14 : a2.toInt = 7) (g15 : p_244 a0 a1 τ4 r15 τ15) :
    p_249 (a0) (a1) (a2) σ r15 τ15 := by
  rintro rfl A nf nt w I
  have k6 := I.1.2.1
  have w0 : rW (r0 σ) A := w.el (by omega)
  have q0 : (Int32.ofInt 0).toInt = 0 := rfl
  have q8 : (Int32.ofInt 8).toInt = 8 := rfl
  obtain ⟨e1, u1⟩ := g1
  have e1 : τ1 = r0 σ := e1
  subst e1
  have u1 := u1 rfl A w0 nf I.1.1 k6
  obtain ⟨x2, y2, n2⟩ := g2
  rw [x2] at h3
  have e2 := n2 h3
  subst e2
  have v1 : 0 ≤ a1.toInt ∧ a1.toInt < (nf : Int) := Decidable.byContradiction (fun q => (u1.mpr q) h3)
  obtain ⟨e3, u3⟩ := g4
  have e3 : τ4 = r0 σ := e3
  subst e3
  rw [q0, q8] at u3
  have v3 := u3.mp h5
  obtain ⟨e4, g4⟩ := g15
  refine ⟨fun q => absurd v1 q, fun F eF hF => ⟨fun q => absurd v3 q, fun _ => ⟨e4, fFm.of h14 ⟨(fun q => absurd q (by decide)), (fun q => absurd q (by decide)), (fun q => absurd q (by decide)), (fun q => absurd q (by decide)), (fun q => absurd q (by decide)), (fun q => absurd q (by decide)), (fun q => absurd q (by decide)), (fun _ => ?_), (fun q => absurd q (by decide))⟩⟩⟩⟩
  exact g4 rfl A w0 F eF (by omega)
theorem sp_249_efts4_ (a0 : Nat) (a1 : Int32) (a2 : Int32) (σ : zSg) (τ1 : zSg) (r1 : Int32) (τ2 : zSg) (r2 : Int32) (τ4 : zSg) (r4 : Int32) (τ17 : zSg) (r17 : Int32) (g1 : p_195 a0 a1 (q_w σ a0 0 (.int (Int32.ofInt (0)))) r1 τ1) (g2 : p_176 a0 r1 (Int32.ofInt (1)) τ1 r2 τ2) (h3 : r2.toInt = (0 : Int)) (g4 : p_177 a2 (Int32.ofInt (0)) (Int32.ofInt (8)) τ2 r4 τ4) (h5 : r4.toInt ≠ (0 : Int)) (h8 : a2.toInt ≠ 4) (h10 : a2.toInt ≠ 5) (h12 : a2.toInt ≠ 6) (h14 : a2.toInt ≠ 7) (h16 : a2.toInt = 8) (g17 : p_247 a0 a1 τ4 r17 τ17) :
    p_249 (a0) (a1) (a2) σ r17 τ17 := by
  rintro rfl A nf nt w I
  have k6 := I.1.2.1
  have w0 : rW (r0 σ) A := w.el (by omega)
  have q0 : (Int32.ofInt 0).toInt = 0 := rfl
  have q8 : (Int32.ofInt 8).toInt = 8 := rfl
  obtain ⟨e1, u1⟩ := g1
  have e1 : τ1 = r0 σ := e1
  subst e1
  have u1 := u1 rfl A w0 nf I.1.1 k6
  obtain ⟨x2, y2, n2⟩ := g2
  rw [x2] at h3
  have e2 := n2 h3
  subst e2
  have v1 : 0 ≤ a1.toInt ∧ a1.toInt < (nf : Int) := Decidable.byContradiction (fun q => (u1.mpr q) h3)
  obtain ⟨e3, u3⟩ := g4
  have e3 : τ4 = r0 σ := e3
  subst e3
  rw [q0, q8] at u3
  have v3 := u3.mp h5
  obtain ⟨e4, g4⟩ := g17
  refine ⟨fun q => absurd v1 q, fun F eF hF => ⟨fun q => absurd v3 q, fun _ => ⟨e4, fFm.of h16 ⟨(fun q => absurd q (by decide)), (fun q => absurd q (by decide)), (fun q => absurd q (by decide)), (fun q => absurd q (by decide)), (fun q => absurd q (by decide)), (fun q => absurd q (by decide)), (fun q => absurd q (by decide)), (fun q => absurd q (by decide)), (fun _ => ?_)⟩⟩⟩⟩
  subst eF
  exact g4 rfl A nf nt w0 I
theorem sp_249_eftd (a0 : Nat) (a1 : Int32) (a2 : Int32) (σ : zSg) (τ1 : zSg) (r1 : Int32) (τ2 : zSg) (r2 : Int32) (τ4 : zSg) (r4 : Int32) (τ18 : zSg) (r18 : Int32) (g1 : p_195 a0 a1 (q_w σ a0 0 (.int (Int32.ofInt (0)))) r1 τ1) (g2 : p_176 a0 r1 (Int32.ofInt (1)) τ1 r2 τ2) (h3 : r2.toInt = (0 : Int)) (g4 : p_177 a2 (Int32.ofInt (0)) (Int32.ofInt (8)) τ2 r4 τ4) (h5 : r4.toInt ≠ (0 : Int)) (h8 : a2.toInt ≠ 4) (h10 : a2.toInt ≠ 5) (h12 : a2.toInt ≠ 6) (h14 : a2.toInt ≠ 7) (h16 : a2.toInt ≠ 8) (g18 : p_190 a0 a1 a2 τ4 r18 τ18) :
    p_249 (a0) (a1) (a2) σ r18 τ18 := by
  rintro rfl A nf nt w I
  have k6 := I.1.2.1
  have w0 : rW (r0 σ) A := w.el (by omega)
  have q0 : (Int32.ofInt 0).toInt = 0 := rfl
  have q8 : (Int32.ofInt 8).toInt = 8 := rfl
  obtain ⟨e1, u1⟩ := g1
  have e1 : τ1 = r0 σ := e1
  subst e1
  have u1 := u1 rfl A w0 nf I.1.1 k6
  obtain ⟨x2, y2, n2⟩ := g2
  rw [x2] at h3
  have e2 := n2 h3
  subst e2
  have v1 : 0 ≤ a1.toInt ∧ a1.toInt < (nf : Int) := Decidable.byContradiction (fun q => (u1.mpr q) h3)
  obtain ⟨e3, u3⟩ := g4
  have e3 : τ4 = r0 σ := e3
  subst e3
  rw [q0, q8] at u3
  have v3 := u3.mp h5
  obtain ⟨e4, g4⟩ := g18
  refine ⟨fun q => absurd v1 q, fun F eF hF => ⟨fun q => absurd v3 q, fun _ => ⟨e4, ?_, ?_, ?_, ?_, fun q => absurd q h8, fun q => absurd q h10, fun q => absurd q h12, fun q => absurd q h14, fun q => absurd q h16⟩⟩⟩
  · exact fun q => g4 rfl A w0 F 0 eF (by omega) (Int32.toInt_inj.mp q) (by omega)
  · exact fun q => g4 rfl A w0 F 1 eF (by omega) (Int32.toInt_inj.mp q) (by omega)
  · exact fun q => g4 rfl A w0 F 2 eF (by omega) (Int32.toInt_inj.mp q) (by omega)
  · exact fun q => g4 rfl A w0 F 3 eF (by omega) (Int32.toInt_inj.mp q) (by omega)
theorem sp_249_eff (a0 : Nat) (a1 : Int32) (a2 : Int32) (σ : zSg) (τ1 : zSg) (r1 : Int32) (τ2 : zSg) (r2 : Int32) (τ4 : zSg) (r4 : Int32) (g1 : p_195 a0 a1 (q_w σ a0 0 (.int (Int32.ofInt (0)))) r1 τ1) (g2 : p_176 a0 r1 (Int32.ofInt (1)) τ1 r2 τ2) (h3 : r2.toInt = (0 : Int)) (g4 : p_177 a2 (Int32.ofInt (0)) (Int32.ofInt (8)) τ2 r4 τ4) (h5 : r4.toInt = (0 : Int)) :
    p_249 (a0) (a1) (a2) σ (Int32.ofInt (0)) (q_w τ4 a0 0 (.int (Int32.ofInt (2)))) := by
  rintro rfl A nf nt w I
  have k6 := I.1.2.1
  have w0 : rW (r0 σ) A := w.el (by omega)
  have q0 : (Int32.ofInt 0).toInt = 0 := rfl
  have q8 : (Int32.ofInt 8).toInt = 8 := rfl
  obtain ⟨e1, u1⟩ := g1
  have e1 : τ1 = r0 σ := e1
  subst e1
  have u1 := u1 rfl A w0 nf I.1.1 k6
  obtain ⟨x2, y2, n2⟩ := g2
  rw [x2] at h3
  have e2 := n2 h3
  subst e2
  have v1 : 0 ≤ a1.toInt ∧ a1.toInt < (nf : Int) := Decidable.byContradiction (fun q => (u1.mpr q) h3)
  obtain ⟨e3, u3⟩ := g4
  have e3 : τ4 = r0 σ := e3
  subst e3
  rw [q0, q8] at u3
  exact ⟨fun q => absurd v1 q, fun F _ _ => ⟨fun _ => ⟨rfl, r0_T⟩, fun q => absurd h5 (u3.mpr q)⟩⟩
noncomputable def qP_249 : zPp := fun as σ o σ' => match as with
  | [a0, a1, a2] => ∃ r, o = .inl (some (.int r)) ∧ p_249 (q_r a0) (q_i a1) (q_i a2) σ r σ'
  | _ => True
set_option maxRecDepth 100000 in
theorem sp_249 {sx : zX} (S195 : zEe sx 195 2 qP_195) (S176 : zEe sx 176 3 qP_176) (S177 : zEe sx 177 3 qP_177) (S242 : zEe sx 242 2 qP_242) (S243 : zEe sx 243 2 qP_243) (S246 : zEe sx 246 2 qP_246) (S244 : zEe sx 244 2 qP_244) (S247 : zEe sx 247 2 qP_247) (S190 : zEe sx 190 3 qP_190) : zEe sx 249 3 qP_249 := by
  refine zfle zJ_249 (sps := [(195, 2, qP_195), (176, 3, qP_176), (177, 3, qP_177), (242, 2, qP_242), (243, 2, qP_243), (246, 2, qP_246), (244, 2, qP_244), (247, 2, qP_247), (190, 3, qP_190)]) (fun q hq => by
    simp only [List.mem_cons, List.not_mem_nil, or_false] at hq
    rcases hq with rfl | rfl | rfl | rfl | rfl | rfl | rfl | rfl | rfl
    · exact S195
    · exact S176
    · exact S177
    · exact S242
    · exact S243
    · exact S246
    · exact S244
    · exact S247
    · exact S190) (fun as σ hl => ?_)
  match as, hl with
  | [a0, a1, a2], _ =>
  refine ⟨[], 400, ?_, ?_⟩
  · exact fun q hq => absurd hq List.not_mem_nil
  · refine fun o1 τ1 g1 => ?_
    obtain ⟨r1, rfl, g1⟩ := g1
    refine fun o2 τ2 g2 => ?_
    obtain ⟨r2, rfl, g2⟩ := g2
    refine And.intro (fun h3 => ?_) (fun h3 => ?_)
    · exact ⟨_, rfl, sp_249_et (q_r a0) (q_i a1) (q_i a2) σ τ1 r1 τ2 r2 g1 g2 (cm1t h3)⟩
    · refine fun o4 τ4 g4 => ?_
      obtain ⟨r4, rfl, g4⟩ := g4
      refine And.intro (fun h5 => ?_) (fun h5 => ?_)
      · refine fun o6 τ6 g6 => ?_
        obtain ⟨r6, rfl, rfl, y6, z6⟩ := g6
        have e6 := (z6 rfl).symm
        subst e6
        refine And.intro (fun _ => ?_) (fun h7 => absurd (show z_cmp 0 (Int32.ofInt (0)) 0 = false from h7) (by decide))
        refine And.intro (fun h8 => ?_) (fun h8 => ?_)
        · refine fun o9 τ9 g9 => ?_
          obtain ⟨r9, rfl, g9⟩ := g9
          exact ⟨_, rfl, sp_249_efts0_ (q_r a0) (q_i a1) (q_i a2) σ τ1 r1 τ2 r2 τ4 r4 τ9 r9 g1 g2 (cm1f h3) g4 (cm1t h5) h8 g9⟩
        refine And.intro (fun h10 => ?_) (fun h10 => ?_)
        · refine fun o11 τ11 g11 => ?_
          obtain ⟨r11, rfl, g11⟩ := g11
          exact ⟨_, rfl, sp_249_efts1_ (q_r a0) (q_i a1) (q_i a2) σ τ1 r1 τ2 r2 τ4 r4 τ11 r11 g1 g2 (cm1f h3) g4 (cm1t h5) h8 h10 g11⟩
        refine And.intro (fun h12 => ?_) (fun h12 => ?_)
        · refine fun o13 τ13 g13 => ?_
          obtain ⟨r13, rfl, g13⟩ := g13
          exact ⟨_, rfl, sp_249_efts2_ (q_r a0) (q_i a1) (q_i a2) σ τ1 r1 τ2 r2 τ4 r4 τ13 r13 g1 g2 (cm1f h3) g4 (cm1t h5) h8 h10 h12 g13⟩
        refine And.intro (fun h14 => ?_) (fun h14 => ?_)
        · refine fun o15 τ15 g15 => ?_
          obtain ⟨r15, rfl, g15⟩ := g15
          exact ⟨_, rfl, sp_249_efts3_ (q_r a0) (q_i a1) (q_i a2) σ τ1 r1 τ2 r2 τ4 r4 τ15 r15 g1 g2 (cm1f h3) g4 (cm1t h5) h8 h10 h12 h14 g15⟩
        refine And.intro (fun h16 => ?_) (fun h16 => ?_)
        · refine fun o17 τ17 g17 => ?_
          obtain ⟨r17, rfl, g17⟩ := g17
          exact ⟨_, rfl, sp_249_efts4_ (q_r a0) (q_i a1) (q_i a2) σ τ1 r1 τ2 r2 τ4 r4 τ17 r17 g1 g2 (cm1f h3) g4 (cm1t h5) h8 h10 h12 h14 h16 g17⟩
        refine fun o18 τ18 g18 => ?_
        obtain ⟨r18, rfl, g18⟩ := g18
        exact ⟨_, rfl, sp_249_eftd (q_r a0) (q_i a1) (q_i a2) σ τ1 r1 τ2 r2 τ4 r4 τ18 r18 g1 g2 (cm1f h3) g4 (cm1t h5) h8 h10 h12 h14 h16 g18⟩
      · refine fun o19 τ19 g19 => ?_
        obtain ⟨r19, rfl, rfl, y19, z19⟩ := g19
        have e19 := (y19 (by decide)).symm
        subst e19
        refine And.intro (fun h20 => absurd (show z_cmp 0 (Int32.ofInt (1)) 0 = true from h20) (by decide)) (fun _ => ?_)
        exact ⟨_, rfl, sp_249_eff (q_r a0) (q_i a1) (q_i a2) σ τ1 r1 τ2 r2 τ4 r4 g1 g2 (cm1f h3) g4 (cm1f h5)⟩
theorem zJ_318 : zJ3 318 z_m318 z_c318 z_h318 := ⟨rfl, rfl, rfl⟩
noncomputable def p_318 (a : Nat) (a1 a2 : Int32) (o : Nat) (σ : zSg) (k : Int32) (σ' : zSg) : Prop := ∃ e τ, p_124 a a1 a2 σ e τ ∧ ((∃ v, e = .inl v ∧ k = Int32.ofInt 0 ∧ σ' = q_w τ o 0 (.long v.toInt64)) ∨ (e = .inr 2 ∧ k = Int32.ofInt 1 ∧ σ' = τ) ∨ (e = .inr 3 ∧ k = Int32.ofInt 2 ∧ σ' = τ))
theorem sp_318_en (a0 : Nat) (a1 : Int32) (a2 : Int32) (a3 : Nat) (σ : zSg) (τ1 : zSg) (r1 : Int32) (g1 : p_124 a0 a1 a2 σ (.inl r1) τ1) (h2 : 0 ≤ (Int32.ofInt (0)).toInt ∧ (Int32.ofInt (0)).toInt < (τ1.2.1 a3 : Int)) :
    p_318 (a0) (a1) (a2) (a3) σ (Int32.ofInt (0)) (q_w τ1 a3 (Int32.ofInt (0)).toNatClampNeg (.long r1.toInt64)) := by
  exact ⟨_, _, g1, Or.inl ⟨_, rfl, rfl, rfl⟩⟩
theorem sp_318_ex2_ (a0 : Nat) (a1 : Int32) (a2 : Int32) (a3 : Nat) (σ : zSg) (τ1 : zSg) (g1 : p_124 a0 a1 a2 σ (.inr 2) τ1) :
    p_318 (a0) (a1) (a2) (a3) σ (Int32.ofInt (1)) τ1 := by
  exact ⟨_, _, g1, Or.inr (Or.inl (⟨rfl, rfl, rfl⟩))⟩
theorem sp_318_ex3_ (a0 : Nat) (a1 : Int32) (a2 : Int32) (a3 : Nat) (σ : zSg) (τ1 : zSg) (g1 : p_124 a0 a1 a2 σ (.inr 3) τ1) :
    p_318 (a0) (a1) (a2) (a3) σ (Int32.ofInt (2)) τ1 := by
  exact ⟨_, _, g1, Or.inr (Or.inr (⟨rfl, rfl, rfl⟩))⟩
noncomputable def qP_318 : zPp := fun as σ o σ' => match as with
  | [a0, a1, a2, a3] => ∃ r, o = .inl (some (.int r)) ∧ p_318 (q_r a0) (q_i a1) (q_i a2) (q_r a3) σ r σ'
  | _ => True
set_option maxRecDepth 100000 in
theorem sp_318 {sx : zX} (S124 : zEe sx 124 3 qP_124) : zEe sx 318 4 qP_318 := by
  refine zfle zJ_318 (sps := [(124, 3, qP_124)]) (fun q hq => by
    simp only [List.mem_cons, List.not_mem_nil, or_false] at hq
    rcases hq with rfl
    · exact S124) (fun as σ hl => ?_)
  match as, hl with
  | [a0, a1, a2, a3], _ =>
  refine ⟨[], 400, ?_, ?_⟩
  · exact fun q hq => absurd hq List.not_mem_nil
  · refine fun o1 τ1 g1 => ?_
    rcases g1 with ⟨r1, rfl, g1⟩ | ⟨rfl, g1⟩ | ⟨rfl, g1⟩
    · refine fun h2 => ?_
      exact ⟨_, rfl, sp_318_en (q_r a0) (q_i a1) (q_i a2) (q_r a3) σ τ1 r1 g1 (q_inp h2)⟩
    · exact ⟨_, rfl, sp_318_ex2_ (q_r a0) (q_i a1) (q_i a2) (q_r a3) σ τ1 g1⟩
    · exact ⟨_, rfl, sp_318_ex3_ (q_r a0) (q_i a1) (q_i a2) (q_r a3) σ τ1 g1⟩
end
section
/-! readers of both sides, exact: trade; printed with wip/gen/gen_ea.py -/
/-- how much gladder a family is that gets one hour and loses one -/
noncomputable def fGl (A : Nat → Int32) (F : Nat) (g l : Int32) : Int32 := (if btb (A (43 + 4 * F)) g = true then Int32.ofInt 1 else Int32.ofInt 0) - (if btb (A (43 + 4 * F)) l = true then Int32.ofInt 1 else Int32.ofInt 0)
noncomputable def fSw (A : Nat → Int32) (x y : Nat) : Int32 := if A (16 + x) = Int32.ofInt (-1) ∨ A (16 + y) = Int32.ofInt (-1) ∨ A (16 + x) = A (16 + y) then Int32.ofInt 0 else if (fGl A (A (16 + x)).toNatClampNeg (Int32.ofNat y) (Int32.ofNat x)).toInt < 0 ∨ (fGl A (A (16 + y)).toNatClampNeg (Int32.ofNat x) (Int32.ofNat y)).toInt < 0 then Int32.ofInt 0 else fGl A (A (16 + x)).toNatClampNeg (Int32.ofNat y) (Int32.ofNat x) + fGl A (A (16 + y)).toNatClampNeg (Int32.ofNat x) (Int32.ofNat y)
noncomputable def fT1 (A : Nat → Int32) (a b : Nat) (x : Int32 × Int32) : Int32 × Int32 := if x.2.toInt < (fSw A a b).toInt then (Int32.ofInt 24 * Int32.ofNat a + Int32.ofNat b, fSw A a b) else x
noncomputable def fTi (A : Nat → Int32) (a : Nat) (x : Int32 × Int32) : Nat → Int32 × Int32
  | 0 => x
  | n + 1 => fT1 A a (a + 1 + n) (fTi A a x n)
noncomputable def fTo (A : Nat → Int32) : Nat → Int32 × Int32
  | 0 => (Int32.ofInt (-1), Int32.ofInt 0)
  | a + 1 => fTi A a (fTo A a) (23 - a)
theorem fT1_r {A : Nat → Int32} {a b : Nat} {x : Int32 × Int32} (h : 0 ≤ x.2.toInt) : 0 ≤ (fT1 A a b x).2.toInt := by
  unfold fT1
  split
  · next q => show 0 ≤ (fSw A a b).toInt; omega
  · exact h
theorem fTi_r {A : Nat → Int32} {a : Nat} {x : Int32 × Int32} (h : 0 ≤ x.2.toInt) : ∀ n, 0 ≤ (fTi A a x n).2.toInt
  | 0 => h
  | n + 1 => fT1_r (fTi_r h n)
theorem fTo_r (A : Nat → Int32) : ∀ a, 0 ≤ (fTo A a).2.toInt
  | 0 => by show (0 : Int) ≤ (Int32.ofInt 0).toInt; decide
  | a + 1 => fTi_r (fTo_r A a) _
theorem fT1_n {A : Nat → Int32} {a b : Nat} {x : Int32 × Int32} (h : ¬ x.2.toInt < (fSw A a b).toInt) : fT1 A a b x = x := if_neg h
theorem fT1_y {A : Nat → Int32} {a b : Nat} {x : Int32 × Int32} (h : x.2.toInt < (fSw A a b).toInt) : fT1 A a b x = (Int32.ofInt 24 * Int32.ofNat a + Int32.ofNat b, fSw A a b) := if_pos h
theorem fSw_1 {A : Nat → Int32} {x y : Nat} (h : A (16 + x) = Int32.ofInt (-1) ∨ A (16 + y) = Int32.ofInt (-1) ∨ A (16 + x) = A (16 + y)) : fSw A x y = Int32.ofInt 0 := if_pos h
theorem fSw_2 {A : Nat → Int32} {x y F G : Nat} (hF : F ≤ 6) (hG : G ≤ 6) (e : A (16 + x) = Int32.ofNat F) (e' : A (16 + y) = Int32.ofNat G) (h : Int32.ofNat F ≠ Int32.ofNat G) : fSw A x y = if (fGl A F (Int32.ofNat y) (Int32.ofNat x)).toInt < 0 ∨ (fGl A G (Int32.ofNat x) (Int32.ofNat y)).toInt < 0 then Int32.ofInt 0 else fGl A F (Int32.ofNat y) (Int32.ofNat x) + fGl A G (Int32.ofNat x) (Int32.ofNat y) := by
  have n1 : ∀ {K : Nat}, K ≤ 6 → Int32.ofNat K ≠ Int32.ofInt (-1) := fun {K} hK q => by
    have := congrArg Int32.toInt q
    rw [o32 (by omega), show (Int32.ofInt (-1)).toInt = -1 from rfl] at this
    omega
  unfold fSw
  rw [e, e', if_neg (fun q => by
    rcases q with q | q | q
    · exact n1 hF q
    · exact n1 hG q
    · exact h q), o32n (by omega), o32n (by omega)]
theorem zJ_79 : zJ3 79 z_m79 z_c79 z_h79 := ⟨rfl, rfl, rfl⟩
noncomputable def p_79 (a : Nat) (f x y : Int32) (σ : zSg) (r : Int32) (σ' : zSg) : Prop := σ' = σ ∧ ∀ H nf, hH σ a H → H 0 = Int32.ofNat nf → nf ≤ 6 → ∀ F, f = Int32.ofNat F → F < nf → r = fGl H F y x
theorem sp_79_ett (a0 : Nat) (a1 : Int32) (a2 : Int32) (a3 : Int32) (σ : zSg) (τ1 : zSg) (r1 : Int32) (τ3 : zSg) (r3 : Int32) (g1 : p_14 (q_r (σ.1 a0 1)) a1 a2 σ r1 τ1) (h2 : r1.toInt = (0 : Int)) (g3 : p_14 (q_r (τ1.1 a0 1)) a1 a3 τ1 r3 τ3) (h4 : r3.toInt = (0 : Int)) :
    p_79 (a0) (a1) (a2) (a3) σ ((Int32.ofInt (0)) - (Int32.ofInt (0))) τ3 := by
  obtain ⟨ea1, ga1⟩ := g1
  subst ea1
  obtain ⟨ea2, ga2⟩ := g3
  subst ea2
  refine ⟨rfl, fun H nf K e0 yh6 F eF hF => ?_⟩
  rw [K.k hk_1] at ga1 ga2
  have y1 := ga1 a0 H nf rfl K e0 yh6 F eF hF
  have y2 := ga2 a0 H nf rfl K e0 yh6 F eF hF
  have q1 : btb (H (43 + 4 * F)) a2 = false := by
    cases q : btb (H (43 + 4 * F)) a2
    · rfl
    · rw [y1, q] at h2; exact absurd h2 (by decide)
  have q2 : btb (H (43 + 4 * F)) a3 = false := by
    cases q : btb (H (43 + 4 * F)) a3
    · rfl
    · rw [y2, q] at h4; exact absurd h4 (by decide)
  unfold fGl
  rw [q1, q2]
  rfl
theorem sp_79_etf (a0 : Nat) (a1 : Int32) (a2 : Int32) (a3 : Int32) (σ : zSg) (τ1 : zSg) (r1 : Int32) (τ3 : zSg) (r3 : Int32) (g1 : p_14 (q_r (σ.1 a0 1)) a1 a2 σ r1 τ1) (h2 : r1.toInt = (0 : Int)) (g3 : p_14 (q_r (τ1.1 a0 1)) a1 a3 τ1 r3 τ3) (h4 : r3.toInt ≠ (0 : Int)) :
    p_79 (a0) (a1) (a2) (a3) σ ((Int32.ofInt (1)) - (Int32.ofInt (0))) τ3 := by
  obtain ⟨ea1, ga1⟩ := g1
  subst ea1
  obtain ⟨ea2, ga2⟩ := g3
  subst ea2
  refine ⟨rfl, fun H nf K e0 yh6 F eF hF => ?_⟩
  rw [K.k hk_1] at ga1 ga2
  have y1 := ga1 a0 H nf rfl K e0 yh6 F eF hF
  have y2 := ga2 a0 H nf rfl K e0 yh6 F eF hF
  have q1 : btb (H (43 + 4 * F)) a2 = false := by
    cases q : btb (H (43 + 4 * F)) a2
    · rfl
    · rw [y1, q] at h2; exact absurd h2 (by decide)
  have q2 : btb (H (43 + 4 * F)) a3 = true := by
    cases q : btb (H (43 + 4 * F)) a3
    · rw [y2, q] at h4; exact absurd rfl h4
    · rfl
  unfold fGl
  rw [q1, q2]
  rfl
theorem sp_79_eft (a0 : Nat) (a1 : Int32) (a2 : Int32) (a3 : Int32) (σ : zSg) (τ1 : zSg) (r1 : Int32) (τ5 : zSg) (r5 : Int32) (g1 : p_14 (q_r (σ.1 a0 1)) a1 a2 σ r1 τ1) (h2 : r1.toInt ≠ (0 : Int)) (g5 : p_14 (q_r (τ1.1 a0 1)) a1 a3 τ1 r5 τ5) (h6 : r5.toInt = (0 : Int)) :
    p_79 (a0) (a1) (a2) (a3) σ ((Int32.ofInt (0)) - (Int32.ofInt (1))) τ5 := by
  obtain ⟨ea1, ga1⟩ := g1
  subst ea1
  obtain ⟨ea2, ga2⟩ := g5
  subst ea2
  refine ⟨rfl, fun H nf K e0 yh6 F eF hF => ?_⟩
  rw [K.k hk_1] at ga1 ga2
  have y1 := ga1 a0 H nf rfl K e0 yh6 F eF hF
  have y2 := ga2 a0 H nf rfl K e0 yh6 F eF hF
  have q1 : btb (H (43 + 4 * F)) a2 = true := by
    cases q : btb (H (43 + 4 * F)) a2
    · rw [y1, q] at h2; exact absurd rfl h2
    · rfl
  have q2 : btb (H (43 + 4 * F)) a3 = false := by
    cases q : btb (H (43 + 4 * F)) a3
    · rfl
    · rw [y2, q] at h6; exact absurd h6 (by decide)
  unfold fGl
  rw [q1, q2]
  rfl
theorem sp_79_eff (a0 : Nat) (a1 : Int32) (a2 : Int32) (a3 : Int32) (σ : zSg) (τ1 : zSg) (r1 : Int32) (τ5 : zSg) (r5 : Int32) (g1 : p_14 (q_r (σ.1 a0 1)) a1 a2 σ r1 τ1) (h2 : r1.toInt ≠ (0 : Int)) (g5 : p_14 (q_r (τ1.1 a0 1)) a1 a3 τ1 r5 τ5) (h6 : r5.toInt ≠ (0 : Int)) :
    p_79 (a0) (a1) (a2) (a3) σ ((Int32.ofInt (1)) - (Int32.ofInt (1))) τ5 := by
  obtain ⟨ea1, ga1⟩ := g1
  subst ea1
  obtain ⟨ea2, ga2⟩ := g5
  subst ea2
  refine ⟨rfl, fun H nf K e0 yh6 F eF hF => ?_⟩
  rw [K.k hk_1] at ga1 ga2
  have y1 := ga1 a0 H nf rfl K e0 yh6 F eF hF
  have y2 := ga2 a0 H nf rfl K e0 yh6 F eF hF
  have q1 : btb (H (43 + 4 * F)) a2 = true := by
    cases q : btb (H (43 + 4 * F)) a2
    · rw [y1, q] at h2; exact absurd rfl h2
    · rfl
  have q2 : btb (H (43 + 4 * F)) a3 = true := by
    cases q : btb (H (43 + 4 * F)) a3
    · rw [y2, q] at h6; exact absurd rfl h6
    · rfl
  unfold fGl
  rw [q1, q2]
  rfl
noncomputable def qP_79 : zPp := fun as σ o σ' => match as with
  | [a0, a1, a2, a3] => ∃ r, o = .inl (some (.int r)) ∧ p_79 (q_r a0) (q_i a1) (q_i a2) (q_i a3) σ r σ'
  | _ => True
set_option maxRecDepth 100000 in
theorem sp_79 {sx : zX} (S14 : zEe sx 14 3 qP_14) : zEe sx 79 4 qP_79 := by
  refine zfle zJ_79 (sps := [(14, 3, qP_14)]) (fun q hq => by
    simp only [List.mem_cons, List.not_mem_nil, or_false] at hq
    rcases hq with rfl
    · exact S14) (fun as σ hl => ?_)
  match as, hl with
  | [a0, a1, a2, a3], _ =>
  refine ⟨[], 400, ?_, ?_⟩
  · exact fun q hq => absurd hq List.not_mem_nil
  · refine fun o1 τ1 g1 => ?_
    obtain ⟨r1, rfl, g1⟩ := g1
    refine And.intro (fun h2 => ?_) (fun h2 => ?_)
    · refine fun o3 τ3 g3 => ?_
      obtain ⟨r3, rfl, g3⟩ := g3
      refine And.intro (fun h4 => ?_) (fun h4 => ?_)
      · exact ⟨_, rfl, sp_79_ett (q_r a0) (q_i a1) (q_i a2) (q_i a3) σ τ1 r1 τ3 r3 g1 (cm0t h2) g3 (cm0t h4)⟩
      · exact ⟨_, rfl, sp_79_etf (q_r a0) (q_i a1) (q_i a2) (q_i a3) σ τ1 r1 τ3 r3 g1 (cm0t h2) g3 (cm0f h4)⟩
    · refine fun o5 τ5 g5 => ?_
      obtain ⟨r5, rfl, g5⟩ := g5
      refine And.intro (fun h6 => ?_) (fun h6 => ?_)
      · exact ⟨_, rfl, sp_79_eft (q_r a0) (q_i a1) (q_i a2) (q_i a3) σ τ1 r1 τ5 r5 g1 (cm0f h2) g5 (cm0t h6)⟩
      · exact ⟨_, rfl, sp_79_eff (q_r a0) (q_i a1) (q_i a2) (q_i a3) σ τ1 r1 τ5 r5 g1 (cm0f h2) g5 (cm0f h6)⟩
theorem zJ_289 : zJ3 289 z_m289 z_c289 z_h289 := ⟨rfl, rfl, rfl⟩
noncomputable def p_289 (a : Nat) (f x y : Int32) (σ : zSg) (r : Int32) (σ' : zSg) : Prop := σ' = σ ∧ (a = 205 → ∀ A, rW σ A → ∀ F, f = Int32.ofNat F → F < 6 → r = fGl A F x y)
theorem sp_289_ett (a0 : Nat) (a1 : Int32) (a2 : Int32) (a3 : Int32) (σ : zSg) (τ1 : zSg) (r1 : Int32) (τ3 : zSg) (r3 : Int32) (g1 : p_191 a0 a1 a2 σ r1 τ1) (h2 : r1.toInt = (0 : Int)) (g3 : p_191 a0 a1 a3 τ1 r3 τ3) (h4 : r3.toInt = (0 : Int)) :
    p_289 (a0) (a1) (a2) (a3) σ ((Int32.ofInt (0)) - (Int32.ofInt (0))) τ3 := by
  obtain ⟨ea1, ga1⟩ := g1
  subst ea1
  obtain ⟨ea2, ga2⟩ := g3
  subst ea2
  refine ⟨rfl, fun ha A w F eF hF => ?_⟩
  have y1 := ga1 ha A w F eF hF
  have y2 := ga2 ha A w F eF hF
  have q1 : btb (A (43 + 4 * F)) a2 = false := by
    cases q : btb (A (43 + 4 * F)) a2
    · rfl
    · rw [y1, q] at h2; exact absurd h2 (by decide)
  have q2 : btb (A (43 + 4 * F)) a3 = false := by
    cases q : btb (A (43 + 4 * F)) a3
    · rfl
    · rw [y2, q] at h4; exact absurd h4 (by decide)
  unfold fGl
  rw [q1, q2]
  rfl
theorem sp_289_etf (a0 : Nat) (a1 : Int32) (a2 : Int32) (a3 : Int32) (σ : zSg) (τ1 : zSg) (r1 : Int32) (τ3 : zSg) (r3 : Int32) (g1 : p_191 a0 a1 a2 σ r1 τ1) (h2 : r1.toInt = (0 : Int)) (g3 : p_191 a0 a1 a3 τ1 r3 τ3) (h4 : r3.toInt ≠ (0 : Int)) :
    p_289 (a0) (a1) (a2) (a3) σ ((Int32.ofInt (0)) - (Int32.ofInt (1))) τ3 := by
  obtain ⟨ea1, ga1⟩ := g1
  subst ea1
  obtain ⟨ea2, ga2⟩ := g3
  subst ea2
  refine ⟨rfl, fun ha A w F eF hF => ?_⟩
  have y1 := ga1 ha A w F eF hF
  have y2 := ga2 ha A w F eF hF
  have q1 : btb (A (43 + 4 * F)) a2 = false := by
    cases q : btb (A (43 + 4 * F)) a2
    · rfl
    · rw [y1, q] at h2; exact absurd h2 (by decide)
  have q2 : btb (A (43 + 4 * F)) a3 = true := by
    cases q : btb (A (43 + 4 * F)) a3
    · rw [y2, q] at h4; exact absurd rfl h4
    · rfl
  unfold fGl
  rw [q1, q2]
  rfl
theorem sp_289_eft (a0 : Nat) (a1 : Int32) (a2 : Int32) (a3 : Int32) (σ : zSg) (τ1 : zSg) (r1 : Int32) (τ5 : zSg) (r5 : Int32) (g1 : p_191 a0 a1 a2 σ r1 τ1) (h2 : r1.toInt ≠ (0 : Int)) (g5 : p_191 a0 a1 a3 τ1 r5 τ5) (h6 : r5.toInt = (0 : Int)) :
    p_289 (a0) (a1) (a2) (a3) σ ((Int32.ofInt (1)) - (Int32.ofInt (0))) τ5 := by
  obtain ⟨ea1, ga1⟩ := g1
  subst ea1
  obtain ⟨ea2, ga2⟩ := g5
  subst ea2
  refine ⟨rfl, fun ha A w F eF hF => ?_⟩
  have y1 := ga1 ha A w F eF hF
  have y2 := ga2 ha A w F eF hF
  have q1 : btb (A (43 + 4 * F)) a2 = true := by
    cases q : btb (A (43 + 4 * F)) a2
    · rw [y1, q] at h2; exact absurd rfl h2
    · rfl
  have q2 : btb (A (43 + 4 * F)) a3 = false := by
    cases q : btb (A (43 + 4 * F)) a3
    · rfl
    · rw [y2, q] at h6; exact absurd h6 (by decide)
  unfold fGl
  rw [q1, q2]
  rfl
theorem sp_289_eff (a0 : Nat) (a1 : Int32) (a2 : Int32) (a3 : Int32) (σ : zSg) (τ1 : zSg) (r1 : Int32) (τ5 : zSg) (r5 : Int32) (g1 : p_191 a0 a1 a2 σ r1 τ1) (h2 : r1.toInt ≠ (0 : Int)) (g5 : p_191 a0 a1 a3 τ1 r5 τ5) (h6 : r5.toInt ≠ (0 : Int)) :
    p_289 (a0) (a1) (a2) (a3) σ ((Int32.ofInt (1)) - (Int32.ofInt (1))) τ5 := by
  obtain ⟨ea1, ga1⟩ := g1
  subst ea1
  obtain ⟨ea2, ga2⟩ := g5
  subst ea2
  refine ⟨rfl, fun ha A w F eF hF => ?_⟩
  have y1 := ga1 ha A w F eF hF
  have y2 := ga2 ha A w F eF hF
  have q1 : btb (A (43 + 4 * F)) a2 = true := by
    cases q : btb (A (43 + 4 * F)) a2
    · rw [y1, q] at h2; exact absurd rfl h2
    · rfl
  have q2 : btb (A (43 + 4 * F)) a3 = true := by
    cases q : btb (A (43 + 4 * F)) a3
    · rw [y2, q] at h6; exact absurd rfl h6
    · rfl
  unfold fGl
  rw [q1, q2]
  rfl
noncomputable def qP_289 : zPp := fun as σ o σ' => match as with
  | [a0, a1, a2, a3] => ∃ r, o = .inl (some (.int r)) ∧ p_289 (q_r a0) (q_i a1) (q_i a2) (q_i a3) σ r σ'
  | _ => True
set_option maxRecDepth 100000 in
theorem sp_289 {sx : zX} (S191 : zEe sx 191 3 qP_191) : zEe sx 289 4 qP_289 := by
  refine zfle zJ_289 (sps := [(191, 3, qP_191)]) (fun q hq => by
    simp only [List.mem_cons, List.not_mem_nil, or_false] at hq
    rcases hq with rfl
    · exact S191) (fun as σ hl => ?_)
  match as, hl with
  | [a0, a1, a2, a3], _ =>
  refine ⟨[], 400, ?_, ?_⟩
  · exact fun q hq => absurd hq List.not_mem_nil
  · refine fun o1 τ1 g1 => ?_
    obtain ⟨r1, rfl, g1⟩ := g1
    refine And.intro (fun h2 => ?_) (fun h2 => ?_)
    · refine fun o3 τ3 g3 => ?_
      obtain ⟨r3, rfl, g3⟩ := g3
      refine And.intro (fun h4 => ?_) (fun h4 => ?_)
      · exact ⟨_, rfl, sp_289_ett (q_r a0) (q_i a1) (q_i a2) (q_i a3) σ τ1 r1 τ3 r3 g1 (cm0t h2) g3 (cm0t h4)⟩
      · exact ⟨_, rfl, sp_289_etf (q_r a0) (q_i a1) (q_i a2) (q_i a3) σ τ1 r1 τ3 r3 g1 (cm0t h2) g3 (cm0f h4)⟩
    · refine fun o5 τ5 g5 => ?_
      obtain ⟨r5, rfl, g5⟩ := g5
      refine And.intro (fun h6 => ?_) (fun h6 => ?_)
      · exact ⟨_, rfl, sp_289_eft (q_r a0) (q_i a1) (q_i a2) (q_i a3) σ τ1 r1 τ5 r5 g1 (cm0f h2) g5 (cm0t h6)⟩
      · exact ⟨_, rfl, sp_289_eff (q_r a0) (q_i a1) (q_i a2) (q_i a3) σ τ1 r1 τ5 r5 g1 (cm0f h2) g5 (cm0f h6)⟩
theorem zJ_78 : zJ3 78 z_m78 z_c78 z_h78 := ⟨rfl, rfl, rfl⟩
noncomputable def p_78 (a : Nat) (g o : Int32) (σ : zSg) (r : Int32) (σ' : zSg) : Prop := σ' = σ ∧ ∀ A nf nt, hH σ a A → aI nf nt A → ∀ x y, g = Int32.ofNat x → x < 24 → o = Int32.ofNat y → y < 24 → r = fSw A x y
theorem sp_78_et (a0 : Nat) (a1 : Int32) (a2 : Int32) (σ : zSg) (τ1 : zSg) (r1 : Int32) (τ2 : zSg) (r2 : Int32) (g1 : p_26 a0 a1 σ r1 τ1) (g2 : p_26 a0 a2 τ1 r2 τ2) (h3 : r1.toInt = (-1 : Int)) :
    p_78 (a0) (a1) (a2) σ (Int32.ofInt (0)) τ2 := by
  obtain ⟨ea1, ga1⟩ := g1
  subst ea1
  obtain ⟨ea2, ga2⟩ := g2
  subst ea2
  refine ⟨rfl, fun A nf nt K I x y ex hx ey hy => ?_⟩
  have k6 := I.1.2.1
  have m1 : (Int32.ofInt (-1)).toInt = -1 := rfl
  have y1 := ga1 A x K ex hx
  have y2 := ga2 A y K ey hy
  rw [y1] at h3
  rw [fSw_1 (Or.inl (Int32.toInt_inj.mp (h3.trans m1.symm)))]
theorem sp_78_eft (a0 : Nat) (a1 : Int32) (a2 : Int32) (σ : zSg) (τ1 : zSg) (r1 : Int32) (τ2 : zSg) (r2 : Int32) (g1 : p_26 a0 a1 σ r1 τ1) (g2 : p_26 a0 a2 τ1 r2 τ2) (h3 : r1.toInt ≠ (-1 : Int)) (h4 : r2.toInt = (-1 : Int)) :
    p_78 (a0) (a1) (a2) σ (Int32.ofInt (0)) τ2 := by
  obtain ⟨ea1, ga1⟩ := g1
  subst ea1
  obtain ⟨ea2, ga2⟩ := g2
  subst ea2
  refine ⟨rfl, fun A nf nt K I x y ex hx ey hy => ?_⟩
  have k6 := I.1.2.1
  have m1 : (Int32.ofInt (-1)).toInt = -1 := rfl
  have y1 := ga1 A x K ex hx
  have y2 := ga2 A y K ey hy
  rw [y1] at h3
  rw [y2] at h4
  rw [fSw_1 (Or.inr (Or.inl (Int32.toInt_inj.mp (h4.trans m1.symm))))]
theorem sp_78_efftt (a0 : Nat) (a1 : Int32) (a2 : Int32) (σ : zSg) (τ1 : zSg) (r1 : Int32) (τ2 : zSg) (r2 : Int32) (τ6 : zSg) (r6 : Int32) (τ7 : zSg) (r7 : Int32) (g1 : p_26 a0 a1 σ r1 τ1) (g2 : p_26 a0 a2 τ1 r2 τ2) (h3 : r1.toInt ≠ (-1 : Int)) (h4 : r2.toInt ≠ (-1 : Int)) (h5 : r1.toInt ≠ r2.toInt) (g6 : p_79 a0 r1 a1 a2 τ2 r6 τ6) (g7 : p_79 a0 r2 a2 a1 τ6 r7 τ7) (h8 : r6.toInt < (0 : Int)) :
    p_78 (a0) (a1) (a2) σ (Int32.ofInt (0)) τ7 := by
  obtain ⟨ea1, ga1⟩ := g1
  subst ea1
  obtain ⟨ea2, ga2⟩ := g2
  subst ea2
  obtain ⟨ea3, ga3⟩ := g6
  subst ea3
  obtain ⟨ea4, ga4⟩ := g7
  subst ea4
  refine ⟨rfl, fun A nf nt K I x y ex hx ey hy => ?_⟩
  have k6 := I.1.2.1
  have m1 : (Int32.ofInt (-1)).toInt = -1 := rfl
  have y1 := ga1 A x K ex hx
  have y2 := ga2 A y K ey hy
  rw [y1] at h3
  rw [y2] at h4
  rw [y1, y2] at h5
  rcases I.2.1 x hx with w | ⟨F, hF, w⟩
  · exact absurd (by rw [w]; rfl) h3
  rcases I.2.1 y hy with w' | ⟨G, hG, w'⟩
  · exact absurd (by rw [w']; rfl) h4
  have y3 := ga3 A nf K I.1.1 k6 F (y1.trans w) hF
  have y4 := ga4 A nf K I.1.1 k6 G (y2.trans w') hG
  rw [ex, ey] at y3 y4
  rw [fSw_2 (by omega) (by omega) w w' (fun q => h5 (by rw [w, w', q]))]
  rw [y3] at h8
  rw [if_pos (Or.inl h8)]
theorem sp_78_efftft (a0 : Nat) (a1 : Int32) (a2 : Int32) (σ : zSg) (τ1 : zSg) (r1 : Int32) (τ2 : zSg) (r2 : Int32) (τ6 : zSg) (r6 : Int32) (τ7 : zSg) (r7 : Int32) (g1 : p_26 a0 a1 σ r1 τ1) (g2 : p_26 a0 a2 τ1 r2 τ2) (h3 : r1.toInt ≠ (-1 : Int)) (h4 : r2.toInt ≠ (-1 : Int)) (h5 : r1.toInt ≠ r2.toInt) (g6 : p_79 a0 r1 a1 a2 τ2 r6 τ6) (g7 : p_79 a0 r2 a2 a1 τ6 r7 τ7) (h8 : r6.toInt ≥ (0 : Int)) (h9 : r7.toInt ≥ (0 : Int)) :
    p_78 (a0) (a1) (a2) σ (r6 + r7) τ7 := by
  obtain ⟨ea1, ga1⟩ := g1
  subst ea1
  obtain ⟨ea2, ga2⟩ := g2
  subst ea2
  obtain ⟨ea3, ga3⟩ := g6
  subst ea3
  obtain ⟨ea4, ga4⟩ := g7
  subst ea4
  refine ⟨rfl, fun A nf nt K I x y ex hx ey hy => ?_⟩
  have k6 := I.1.2.1
  have m1 : (Int32.ofInt (-1)).toInt = -1 := rfl
  have y1 := ga1 A x K ex hx
  have y2 := ga2 A y K ey hy
  rw [y1] at h3
  rw [y2] at h4
  rw [y1, y2] at h5
  rcases I.2.1 x hx with w | ⟨F, hF, w⟩
  · exact absurd (by rw [w]; rfl) h3
  rcases I.2.1 y hy with w' | ⟨G, hG, w'⟩
  · exact absurd (by rw [w']; rfl) h4
  have y3 := ga3 A nf K I.1.1 k6 F (y1.trans w) hF
  have y4 := ga4 A nf K I.1.1 k6 G (y2.trans w') hG
  rw [ex, ey] at y3 y4
  rw [fSw_2 (by omega) (by omega) w w' (fun q => h5 (by rw [w, w', q]))]
  rw [y3] at h8
  rw [y4] at h9
  rw [if_neg (by omega), y3, y4]
theorem sp_78_efftff (a0 : Nat) (a1 : Int32) (a2 : Int32) (σ : zSg) (τ1 : zSg) (r1 : Int32) (τ2 : zSg) (r2 : Int32) (τ6 : zSg) (r6 : Int32) (τ7 : zSg) (r7 : Int32) (g1 : p_26 a0 a1 σ r1 τ1) (g2 : p_26 a0 a2 τ1 r2 τ2) (h3 : r1.toInt ≠ (-1 : Int)) (h4 : r2.toInt ≠ (-1 : Int)) (h5 : r1.toInt ≠ r2.toInt) (g6 : p_79 a0 r1 a1 a2 τ2 r6 τ6) (g7 : p_79 a0 r2 a2 a1 τ6 r7 τ7) (h8 : r6.toInt ≥ (0 : Int)) (h9 : r7.toInt < (0 : Int)) :
    p_78 (a0) (a1) (a2) σ (Int32.ofInt (0)) τ7 := by
  obtain ⟨ea1, ga1⟩ := g1
  subst ea1
  obtain ⟨ea2, ga2⟩ := g2
  subst ea2
  obtain ⟨ea3, ga3⟩ := g6
  subst ea3
  obtain ⟨ea4, ga4⟩ := g7
  subst ea4
  refine ⟨rfl, fun A nf nt K I x y ex hx ey hy => ?_⟩
  have k6 := I.1.2.1
  have m1 : (Int32.ofInt (-1)).toInt = -1 := rfl
  have y1 := ga1 A x K ex hx
  have y2 := ga2 A y K ey hy
  rw [y1] at h3
  rw [y2] at h4
  rw [y1, y2] at h5
  rcases I.2.1 x hx with w | ⟨F, hF, w⟩
  · exact absurd (by rw [w]; rfl) h3
  rcases I.2.1 y hy with w' | ⟨G, hG, w'⟩
  · exact absurd (by rw [w']; rfl) h4
  have y3 := ga3 A nf K I.1.1 k6 F (y1.trans w) hF
  have y4 := ga4 A nf K I.1.1 k6 G (y2.trans w') hG
  rw [ex, ey] at y3 y4
  rw [fSw_2 (by omega) (by omega) w w' (fun q => h5 (by rw [w, w', q]))]
  rw [y4] at h9
  rw [if_pos (Or.inr h9)]
theorem sp_78_efff (a0 : Nat) (a1 : Int32) (a2 : Int32) (σ : zSg) (τ1 : zSg) (r1 : Int32) (τ2 : zSg) (r2 : Int32) (g1 : p_26 a0 a1 σ r1 τ1) (g2 : p_26 a0 a2 τ1 r2 τ2) (h3 : r1.toInt ≠ (-1 : Int)) (h4 : r2.toInt ≠ (-1 : Int)) (h5 : r1.toInt = r2.toInt) :
    p_78 (a0) (a1) (a2) σ (Int32.ofInt (0)) τ2 := by
  obtain ⟨ea1, ga1⟩ := g1
  subst ea1
  obtain ⟨ea2, ga2⟩ := g2
  subst ea2
  refine ⟨rfl, fun A nf nt K I x y ex hx ey hy => ?_⟩
  have k6 := I.1.2.1
  have m1 : (Int32.ofInt (-1)).toInt = -1 := rfl
  have y1 := ga1 A x K ex hx
  have y2 := ga2 A y K ey hy
  rw [y1] at h3
  rw [y1, y2] at h5
  rw [fSw_1 (Or.inr (Or.inr (Int32.toInt_inj.mp h5)))]
noncomputable def qP_78 : zPp := fun as σ o σ' => match as with
  | [a0, a1, a2] => ∃ r, o = .inl (some (.int r)) ∧ p_78 (q_r a0) (q_i a1) (q_i a2) σ r σ'
  | _ => True
set_option maxRecDepth 100000 in
theorem sp_78 {sx : zX} (S26 : zEe sx 26 2 qP_26) (S79 : zEe sx 79 4 qP_79) : zEe sx 78 3 qP_78 := by
  refine zfle zJ_78 (sps := [(26, 2, qP_26), (79, 4, qP_79)]) (fun q hq => by
    simp only [List.mem_cons, List.not_mem_nil, or_false] at hq
    rcases hq with rfl | rfl
    · exact S26
    · exact S79) (fun as σ hl => ?_)
  match as, hl with
  | [a0, a1, a2], _ =>
  refine ⟨[], 400, ?_, ?_⟩
  · exact fun q hq => absurd hq List.not_mem_nil
  · refine fun o1 τ1 g1 => ?_
    obtain ⟨r1, rfl, g1⟩ := g1
    refine fun o2 τ2 g2 => ?_
    obtain ⟨r2, rfl, g2⟩ := g2
    refine And.intro (fun h3 => ?_) (fun h3 => ?_)
    · exact ⟨_, rfl, sp_78_et (q_r a0) (q_i a1) (q_i a2) σ τ1 r1 τ2 r2 g1 g2 (cm0t h3)⟩
    · refine And.intro (fun h4 => ?_) (fun h4 => ?_)
      · exact ⟨_, rfl, sp_78_eft (q_r a0) (q_i a1) (q_i a2) σ τ1 r1 τ2 r2 g1 g2 (cm0f h3) (cm0t h4)⟩
      · refine And.intro (fun h5 => ?_) (fun h5 => ?_)
        · refine fun o6 τ6 g6 => ?_
          obtain ⟨r6, rfl, g6⟩ := g6
          refine fun o7 τ7 g7 => ?_
          obtain ⟨r7, rfl, g7⟩ := g7
          refine And.intro (fun h8 => ?_) (fun h8 => ?_)
          · exact ⟨_, rfl, sp_78_efftt (q_r a0) (q_i a1) (q_i a2) σ τ1 r1 τ2 r2 τ6 r6 τ7 r7 g1 g2 (cm0f h3) (cm0f h4) (cm1t h5) g6 g7 (cm2t h8)⟩
          · refine And.intro (fun h9 => ?_) (fun h9 => ?_)
            · exact ⟨_, rfl, sp_78_efftft (q_r a0) (q_i a1) (q_i a2) σ τ1 r1 τ2 r2 τ6 r6 τ7 r7 g1 g2 (cm0f h3) (cm0f h4) (cm1t h5) g6 g7 (cm2f h8) (cm3t h9)⟩
            · exact ⟨_, rfl, sp_78_efftff (q_r a0) (q_i a1) (q_i a2) σ τ1 r1 τ2 r2 τ6 r6 τ7 r7 g1 g2 (cm0f h3) (cm0f h4) (cm1t h5) g6 g7 (cm2f h8) (cm3f h9)⟩
        · exact ⟨_, rfl, sp_78_efff (q_r a0) (q_i a1) (q_i a2) σ τ1 r1 τ2 r2 g1 g2 (cm0f h3) (cm0f h4) (cm1f h5)⟩
theorem zJ_77 : zJ3 77 z_m77 z_c77 z_h77 := ⟨rfl, rfl, rfl⟩
noncomputable def p_77 (b : Nat) (σ : zSg) (r : Int32) (σ' : zSg) : Prop := σ' = σ ∧ ∀ A nf nt, hH σ b A → aI nf nt A → r = (fTo A 24).1
noncomputable def i_77 (b : Nat) (σ : zSg) (l0 : Nat) (l1 l2 l3 : Int32) (τ : zSg) : Prop := l0 = b ∧ τ = σ ∧ ∃ a, a ≤ 24 ∧ l3 = Int32.ofNat a ∧ ∀ A nf nt, hH σ b A → aI nf nt A → (l1, l2) = fTo A a
noncomputable def j_77 (b : Nat) (σ : zSg) (l0 : Nat) (l1 l2 l3 l4 : Int32) (τ : zSg) : Prop := l0 = b ∧ τ = σ ∧ ∃ a n, a < 24 ∧ n ≤ 23 - a ∧ l3 = Int32.ofNat a ∧ l4 = Int32.ofNat (a + 1 + n) ∧ ∀ A nf nt, hH σ b A → aI nf nt A → (l1, l2) = fTi A a (fTo A a) n
theorem sp_77_e (a0 : Nat) (σ : zSg)  :
    i_77 a0 σ a0 (Int32.ofInt (-1)) (Int32.ofInt (0)) (Int32.ofInt (0)) σ := by
  exact ⟨rfl, rfl, 0, by omega, rfl, fun _ _ _ _ _ => rfl⟩
theorem sp_77_c6_t (a0 : Nat) (σ : zSg) (l0 : Nat) (l1 : Int32) (l2 : Int32) (l3 : Int32) (τ : zSg) (hI : i_77 a0 σ l0 l1 l2 l3 τ) (h1 : l3.toInt ≥ (24 : Int)) :
    p_77 (a0) σ l1 τ := by
  obtain ⟨rfl, rfl, a, ha, e3, hI⟩ := hI
  rw [e3, o32 (by omega)] at h1
  have : a = 24 := by omega
  subst this
  exact ⟨rfl, fun A nf nt K I => congrArg Prod.fst (hI A nf nt K I)⟩
theorem sp_77_c6_f (a0 : Nat) (σ : zSg) (l0 : Nat) (l1 : Int32) (l2 : Int32) (l3 : Int32) (τ : zSg) (hI : i_77 a0 σ l0 l1 l2 l3 τ) (h1 : l3.toInt < (24 : Int)) :
    j_77 a0 σ l0 l1 l2 l3 (l3 + (Int32.ofInt (1))) τ := by
  obtain ⟨rfl, rfl, a, ha, e3, hI⟩ := hI
  rw [e3, o32 (by omega)] at h1
  exact ⟨rfl, rfl, a, 0, by omega, by omega, e3, by rw [e3]; exact o32i (by omega), hI⟩
theorem sp_77_c13_t (a0 : Nat) (σ : zSg) (l0 : Nat) (l1 : Int32) (l2 : Int32) (l3 : Int32) (l4 : Int32) (τ : zSg) (hI : j_77 a0 σ l0 l1 l2 l3 l4 τ) (h2 : l4.toInt ≥ (24 : Int)) :
    i_77 a0 σ l0 l1 l2 (l3 + Int32.ofInt (1)) τ := by
  obtain ⟨rfl, rfl, a, n, ha, hn, e3, e4, hI⟩ := hI
  rw [e4, o32 (by omega)] at h2
  have : n = 23 - a := by omega
  subst this
  exact ⟨rfl, rfl, a + 1, by omega, by rw [e3]; exact o32i (by omega), hI⟩
theorem sp_77_c13_ft (a0 : Nat) (σ : zSg) (l0 : Nat) (l1 : Int32) (l2 : Int32) (l3 : Int32) (l4 : Int32) (τ : zSg) (τ3 : zSg) (r3 : Int32) (hI : j_77 a0 σ l0 l1 l2 l3 l4 τ) (h2 : l4.toInt < (24 : Int)) (g3 : p_78 l0 l3 l4 τ r3 τ3) (h4 : r3.toInt ≤ l2.toInt) :
    j_77 a0 σ l0 l1 l2 l3 (l4 + Int32.ofInt (1)) τ3 := by
  obtain ⟨ea, ga⟩ := g3
  subst ea
  obtain ⟨rfl, rfl, a, n, ha, hn, e3, e4, hI⟩ := hI
  rw [e4, o32 (by omega)] at h2
  refine ⟨rfl, rfl, a, n + 1, ha, by omega, e3, by rw [e4]; exact o32i (by omega), fun A nf nt K I => ?_⟩
  have y := ga A nf nt K I a (a + 1 + n) e3 ha e4 (by omega)
  have e := hI A nf nt K I
  show (l1, l2) = fT1 A a (a + 1 + n) (fTi A a (fTo A a) n)
  rw [← e, fT1_n (by rw [← y]; dsimp only; omega)]
theorem sp_77_c13_ff (a0 : Nat) (σ : zSg) (l0 : Nat) (l1 : Int32) (l2 : Int32) (l3 : Int32) (l4 : Int32) (τ : zSg) (τ3 : zSg) (r3 : Int32) (hI : j_77 a0 σ l0 l1 l2 l3 l4 τ) (h2 : l4.toInt < (24 : Int)) (g3 : p_78 l0 l3 l4 τ r3 τ3) (h4 : r3.toInt > l2.toInt) :
    j_77 a0 σ l0 (((Int32.ofInt (24)) * l3) + l4) r3 l3 (l4 + Int32.ofInt (1)) τ3 := by
  obtain ⟨ea, ga⟩ := g3
  subst ea
  obtain ⟨rfl, rfl, a, n, ha, hn, e3, e4, hI⟩ := hI
  rw [e4, o32 (by omega)] at h2
  refine ⟨rfl, rfl, a, n + 1, ha, by omega, e3, by rw [e4]; exact o32i (by omega), fun A nf nt K I => ?_⟩
  have y := ga A nf nt K I a (a + 1 + n) e3 ha e4 (by omega)
  have e := hI A nf nt K I
  show (_, _) = fT1 A a (a + 1 + n) (fTi A a (fTo A a) n)
  rw [← e, fT1_y (by rw [← y]; dsimp only; omega), e3, e4, y]
noncomputable def qP_77 : zPp := fun as σ o σ' => match as with
  | [a0] => ∃ r, o = .inl (some (.int r)) ∧ p_77 (q_r a0) σ r σ'
  | _ => True
set_option maxRecDepth 100000 in
theorem sp_77 {sx : zX} (S78 : zEe sx 78 3 qP_78) : zEe sx 77 1 qP_77 := by
  refine zfle zJ_77 (sps := [(78, 3, qP_78)]) (fun q hq => by
    simp only [List.mem_cons, List.not_mem_nil, or_false] at hq
    rcases hq with rfl
    · exact S78) (fun as σ hl => ?_)
  match as, hl with
  | [a0], _ =>
  refine ⟨[(6, fun lo st τ => st = [] ∧ i_77 (q_r a0) σ (q_r (lo 0)) (q_i (lo 1)) (q_i (lo 2)) (q_i (lo 3)) τ), (13, fun lo st τ => st = [] ∧ j_77 (q_r a0) σ (q_r (lo 0)) (q_i (lo 1)) (q_i (lo 2)) (q_i (lo 3)) (q_i (lo 4)) τ)], 400, ?_, ?_⟩
  · intro q hq
    simp only [List.mem_cons, List.not_mem_nil, or_false] at hq
    rcases hq with rfl | rfl
    · rintro lo st τ ⟨rfl, hI⟩
      refine ⟨400, ?_⟩
      refine And.intro (fun h1 => ?_) (fun h1 => ?_)
      · exact ⟨_, rfl, sp_77_c6_t (q_r a0) σ (q_r (lo 0)) (q_i (lo 1)) (q_i (lo 2)) (q_i (lo 3)) τ hI (cm3t h1)⟩
      · exact ⟨rfl, sp_77_c6_f (q_r a0) σ (q_r (lo 0)) (q_i (lo 1)) (q_i (lo 2)) (q_i (lo 3)) τ hI (cm3f h1)⟩
    · rintro lo st τ ⟨rfl, hI⟩
      refine ⟨400, ?_⟩
      refine And.intro (fun h2 => ?_) (fun h2 => ?_)
      · exact ⟨rfl, sp_77_c13_t (q_r a0) σ (q_r (lo 0)) (q_i (lo 1)) (q_i (lo 2)) (q_i (lo 3)) (q_i (lo 4)) τ hI (cm3t h2)⟩
      · refine fun o3 τ3 g3 => ?_
        obtain ⟨r3, rfl, g3⟩ := g3
        refine And.intro (fun h4 => ?_) (fun h4 => ?_)
        · exact ⟨rfl, sp_77_c13_ft (q_r a0) σ (q_r (lo 0)) (q_i (lo 1)) (q_i (lo 2)) (q_i (lo 3)) (q_i (lo 4)) τ τ3 r3 hI (cm3f h2) g3 (cm5t h4)⟩
        · exact ⟨rfl, sp_77_c13_ff (q_r a0) σ (q_r (lo 0)) (q_i (lo 1)) (q_i (lo 2)) (q_i (lo 3)) (q_i (lo 4)) τ τ3 r3 hI (cm3f h2) g3 (cm5f h4)⟩
  · exact ⟨rfl, sp_77_e (q_r a0) σ ⟩
theorem zJ_140 : zJ3 140 z_m140 z_c140 z_h140 := ⟨rfl, rfl, rfl⟩
noncomputable def p_140 (a : Nat) (σ : zSg) (r : Int32) (σ' : zSg) : Prop := a = 0 → xSk σ → σ' = σ ∧ ∀ A nf nt, hH σ 8 A → aI nf nt A → r = (fTo A 24).1
theorem sp_140_e (a0 : Nat) (σ : zSg) (τ1 : zSg) (r1 : Int32) (g1 : p_77 (q_r (σ.1 a0 2)) σ r1 τ1) :
    p_140 (a0) σ r1 τ1 := by
  rintro rfl K
  have d2 : q_r (σ.1 0 2) = 8 := by rw [K.2.1]; rfl
  rw [d2] at g1
  exact g1
noncomputable def qP_140 : zPp := fun as σ o σ' => match as with
  | [a0] => ∃ r, o = .inl (some (.int r)) ∧ p_140 (q_r a0) σ r σ'
  | _ => True
set_option maxRecDepth 100000 in
theorem sp_140 {sx : zX} (S77 : zEe sx 77 1 qP_77) : zEe sx 140 1 qP_140 := by
  refine zfle zJ_140 (sps := [(77, 1, qP_77)]) (fun q hq => by
    simp only [List.mem_cons, List.not_mem_nil, or_false] at hq
    rcases hq with rfl
    · exact S77) (fun as σ hl => ?_)
  match as, hl with
  | [a0], _ =>
  refine ⟨[], 400, ?_, ?_⟩
  · exact fun q hq => absurd hq List.not_mem_nil
  · refine fun o1 τ1 g1 => ?_
    obtain ⟨r1, rfl, g1⟩ := g1
    exact ⟨_, rfl, sp_140_e (q_r a0) σ τ1 r1 g1⟩
theorem zJ_290 : zJ3 290 z_m290 z_c290 z_h290 := ⟨rfl, rfl, rfl⟩
noncomputable def p_290 (a : Nat) (σ : zSg) (r : Int32) (σ' : zSg) : Prop := a = 205 → ∀ A nf nt, rW σ A → aI nf nt A → σ' = r0 σ ∧ r = (fTo A 24).1
noncomputable def i_290 (a : Nat) (σ : zSg) (l0 : Nat) (l1 l2 l3 : Int32) (τ : zSg) : Prop := l0 = a ∧ ∃ c, c ≤ 24 ∧ l3 = Int32.ofNat c ∧ (a = 205 → ∀ A nf nt, rW σ A → aI nf nt A → τ = r0 σ ∧ (l1, l2) = fTo A c)
noncomputable def j_290 (a : Nat) (σ : zSg) (l0 : Nat) (l1 l2 l3 l4 : Int32) (τ : zSg) : Prop := l0 = a ∧ ∃ c n, c < 24 ∧ n ≤ 23 - c ∧ l3 = Int32.ofNat c ∧ l4 = Int32.ofNat (c + 1 + n) ∧ (a = 205 → ∀ A nf nt, rW σ A → aI nf nt A → τ = r0 σ ∧ (l1, l2) = fTi A c (fTo A c) n)
theorem sp_290_e (a0 : Nat) (σ : zSg)  :
    i_290 a0 σ a0 (Int32.ofInt (-1)) (Int32.ofInt (0)) (Int32.ofInt (0)) (q_w σ a0 0 (.int (Int32.ofInt (0)))) := by
  refine ⟨rfl, 0, by omega, rfl, ?_⟩
  rintro rfl A nf nt _ _
  exact ⟨rfl, rfl⟩
theorem sp_290_c9_t (a0 : Nat) (σ : zSg) (l0 : Nat) (l1 : Int32) (l2 : Int32) (l3 : Int32) (τ : zSg) (hI : i_290 a0 σ l0 l1 l2 l3 τ) (h1 : l3.toInt ≥ (24 : Int)) :
    p_290 (a0) σ l1 τ := by
  obtain ⟨rfl, a, ha, e3, hI⟩ := hI
  rw [e3, o32 (by omega)] at h1
  have : a = 24 := by omega
  subst this
  exact fun h A nf nt w I => ⟨(hI h A nf nt w I).1, congrArg Prod.fst (hI h A nf nt w I).2⟩
theorem sp_290_c9_f (a0 : Nat) (σ : zSg) (l0 : Nat) (l1 : Int32) (l2 : Int32) (l3 : Int32) (τ : zSg) (hI : i_290 a0 σ l0 l1 l2 l3 τ) (h1 : l3.toInt < (24 : Int)) :
    j_290 a0 σ l0 l1 l2 l3 (l3 + (Int32.ofInt (1))) τ := by
  obtain ⟨rfl, a, ha, e3, hI⟩ := hI
  rw [e3, o32 (by omega)] at h1
  exact ⟨rfl, a, 0, by omega, by omega, e3, by rw [e3]; exact o32i (by omega), hI⟩
theorem sp_290_c16_t (a0 : Nat) (σ : zSg) (l0 : Nat) (l1 : Int32) (l2 : Int32) (l3 : Int32) (l4 : Int32) (τ : zSg) (hI : j_290 a0 σ l0 l1 l2 l3 l4 τ) (h2 : l4.toInt ≥ (24 : Int)) :
    i_290 a0 σ l0 l1 l2 (l3 + Int32.ofInt (1)) τ := by
  obtain ⟨rfl, a, n, ha, hn, e3, e4, hI⟩ := hI
  rw [e4, o32 (by omega)] at h2
  have : n = 23 - a := by omega
  subst this
  exact ⟨rfl, a + 1, by omega, by rw [e3]; exact o32i (by omega), hI⟩
theorem sp_290_c16_ft (a0 : Nat) (σ : zSg) (l0 : Nat) (l1 : Int32) (l2 : Int32) (l3 : Int32) (l4 : Int32) (τ : zSg) (τ3 : zSg) (r3 : Int32) (τ4 : zSg) (r4 : Int32) (hI : j_290 a0 σ l0 l1 l2 l3 l4 τ) (h2 : l4.toInt < (24 : Int)) (g3 : p_186 l0 l3 τ r3 τ3) (g4 : p_186 l0 l4 τ3 r4 τ4) (h5 : r3.toInt = (-1 : Int)) :
    j_290 a0 σ l0 l1 l2 l3 (l4 + Int32.ofInt (1)) τ4 := by
  obtain ⟨ea1, ga1⟩ := g3
  subst ea1
  obtain ⟨ea2, ga2⟩ := g4
  subst ea2
  obtain ⟨rfl, a, n, ha, hn, e3, e4, hI⟩ := hI
  rw [e4, o32 (by omega)] at h2
  refine ⟨rfl, a, n + 1, ha, by omega, e3, by rw [e4]; exact o32i (by omega), fun h A nf nt w I => ?_⟩
  have k6 := I.1.2.1
  have m1 : (Int32.ofInt (-1)).toInt = -1 := rfl
  obtain ⟨et, e⟩ := hI h A nf nt w I
  have w0 : rW τ4 A := by rw [et]; exact w.el (by omega)
  have y1 := ga1 h A a w0 e3 ha
  have y2 := ga2 h A (a + 1 + n) w0 e4 (by omega)
  have r0 := fTi_r (fTo_r A a) (a := a) (A := A) n
  rw [← e] at r0
  have r0 : 0 ≤ l2.toInt := r0
  refine ⟨et, ?_⟩
  show (_, _) = fT1 A a (a + 1 + n) (fTi A a (fTo A a) n)
  rw [← e]
  rw [y1] at h5
  rw [fT1_n (by rw [fSw_1 (Or.inl (Int32.toInt_inj.mp (h5.trans m1.symm)))]; show ¬ l2.toInt < (Int32.ofInt 0).toInt; rw [show (Int32.ofInt 0).toInt = 0 from rfl]; omega)]
theorem sp_290_c16_fft (a0 : Nat) (σ : zSg) (l0 : Nat) (l1 : Int32) (l2 : Int32) (l3 : Int32) (l4 : Int32) (τ : zSg) (τ3 : zSg) (r3 : Int32) (τ4 : zSg) (r4 : Int32) (hI : j_290 a0 σ l0 l1 l2 l3 l4 τ) (h2 : l4.toInt < (24 : Int)) (g3 : p_186 l0 l3 τ r3 τ3) (g4 : p_186 l0 l4 τ3 r4 τ4) (h5 : r3.toInt ≠ (-1 : Int)) (h6 : r4.toInt = (-1 : Int)) :
    j_290 a0 σ l0 l1 l2 l3 (l4 + Int32.ofInt (1)) τ4 := by
  obtain ⟨ea1, ga1⟩ := g3
  subst ea1
  obtain ⟨ea2, ga2⟩ := g4
  subst ea2
  obtain ⟨rfl, a, n, ha, hn, e3, e4, hI⟩ := hI
  rw [e4, o32 (by omega)] at h2
  refine ⟨rfl, a, n + 1, ha, by omega, e3, by rw [e4]; exact o32i (by omega), fun h A nf nt w I => ?_⟩
  have k6 := I.1.2.1
  have m1 : (Int32.ofInt (-1)).toInt = -1 := rfl
  obtain ⟨et, e⟩ := hI h A nf nt w I
  have w0 : rW τ4 A := by rw [et]; exact w.el (by omega)
  have y1 := ga1 h A a w0 e3 ha
  have y2 := ga2 h A (a + 1 + n) w0 e4 (by omega)
  have r0 := fTi_r (fTo_r A a) (a := a) (A := A) n
  rw [← e] at r0
  have r0 : 0 ≤ l2.toInt := r0
  refine ⟨et, ?_⟩
  show (_, _) = fT1 A a (a + 1 + n) (fTi A a (fTo A a) n)
  rw [← e]
  rw [y2] at h6
  rw [fT1_n (by rw [fSw_1 (Or.inr (Or.inl (Int32.toInt_inj.mp (h6.trans m1.symm))))]; show ¬ l2.toInt < (Int32.ofInt 0).toInt; rw [show (Int32.ofInt 0).toInt = 0 from rfl]; omega)]
theorem sp_290_c16_ffft (a0 : Nat) (σ : zSg) (l0 : Nat) (l1 : Int32) (l2 : Int32) (l3 : Int32) (l4 : Int32) (τ : zSg) (τ3 : zSg) (r3 : Int32) (τ4 : zSg) (r4 : Int32) (hI : j_290 a0 σ l0 l1 l2 l3 l4 τ) (h2 : l4.toInt < (24 : Int)) (g3 : p_186 l0 l3 τ r3 τ3) (g4 : p_186 l0 l4 τ3 r4 τ4) (h5 : r3.toInt ≠ (-1 : Int)) (h6 : r4.toInt ≠ (-1 : Int)) (h7 : r3.toInt = r4.toInt) :
    j_290 a0 σ l0 l1 l2 l3 (l4 + Int32.ofInt (1)) τ4 := by
  obtain ⟨ea1, ga1⟩ := g3
  subst ea1
  obtain ⟨ea2, ga2⟩ := g4
  subst ea2
  obtain ⟨rfl, a, n, ha, hn, e3, e4, hI⟩ := hI
  rw [e4, o32 (by omega)] at h2
  refine ⟨rfl, a, n + 1, ha, by omega, e3, by rw [e4]; exact o32i (by omega), fun h A nf nt w I => ?_⟩
  have k6 := I.1.2.1
  have m1 : (Int32.ofInt (-1)).toInt = -1 := rfl
  obtain ⟨et, e⟩ := hI h A nf nt w I
  have w0 : rW τ4 A := by rw [et]; exact w.el (by omega)
  have y1 := ga1 h A a w0 e3 ha
  have y2 := ga2 h A (a + 1 + n) w0 e4 (by omega)
  have r0 := fTi_r (fTo_r A a) (a := a) (A := A) n
  rw [← e] at r0
  have r0 : 0 ≤ l2.toInt := r0
  refine ⟨et, ?_⟩
  show (_, _) = fT1 A a (a + 1 + n) (fTi A a (fTo A a) n)
  rw [← e]
  rw [y1, y2] at h7
  rw [fT1_n (by rw [fSw_1 (Or.inr (Or.inr (Int32.toInt_inj.mp h7)))]; show ¬ l2.toInt < (Int32.ofInt 0).toInt; rw [show (Int32.ofInt 0).toInt = 0 from rfl]; omega)]
theorem sp_290_c16_fffft (a0 : Nat) (σ : zSg) (l0 : Nat) (l1 : Int32) (l2 : Int32) (l3 : Int32) (l4 : Int32) (τ : zSg) (τ3 : zSg) (r3 : Int32) (τ4 : zSg) (r4 : Int32) (τ8 : zSg) (r8 : Int32) (hI : j_290 a0 σ l0 l1 l2 l3 l4 τ) (h2 : l4.toInt < (24 : Int)) (g3 : p_186 l0 l3 τ r3 τ3) (g4 : p_186 l0 l4 τ3 r4 τ4) (h5 : r3.toInt ≠ (-1 : Int)) (h6 : r4.toInt ≠ (-1 : Int)) (h7 : r3.toInt ≠ r4.toInt) (g8 : p_289 l0 r3 l4 l3 τ4 r8 τ8) (h9 : r8.toInt < (0 : Int)) :
    j_290 a0 σ l0 l1 l2 l3 (l4 + Int32.ofInt (1)) τ8 := by
  obtain ⟨ea1, ga1⟩ := g3
  subst ea1
  obtain ⟨ea2, ga2⟩ := g4
  subst ea2
  obtain ⟨ea3, ga3⟩ := g8
  subst ea3
  obtain ⟨rfl, a, n, ha, hn, e3, e4, hI⟩ := hI
  rw [e4, o32 (by omega)] at h2
  refine ⟨rfl, a, n + 1, ha, by omega, e3, by rw [e4]; exact o32i (by omega), fun h A nf nt w I => ?_⟩
  have k6 := I.1.2.1
  have m1 : (Int32.ofInt (-1)).toInt = -1 := rfl
  obtain ⟨et, e⟩ := hI h A nf nt w I
  have w0 : rW τ8 A := by rw [et]; exact w.el (by omega)
  have y1 := ga1 h A a w0 e3 ha
  have y2 := ga2 h A (a + 1 + n) w0 e4 (by omega)
  have r0 := fTi_r (fTo_r A a) (a := a) (A := A) n
  rw [← e] at r0
  have r0 : 0 ≤ l2.toInt := r0
  refine ⟨et, ?_⟩
  show (_, _) = fT1 A a (a + 1 + n) (fTi A a (fTo A a) n)
  rw [← e]
  rw [y1] at h5
  rw [y2] at h6
  rw [y1, y2] at h7
  rcases I.2.1 a ha with v | ⟨F, hF, v⟩
  · exact absurd (by rw [v]; rfl) h5
  rcases I.2.1 (a + 1 + n) (by omega) with v' | ⟨G, hG, v'⟩
  · exact absurd (by rw [v']; rfl) h6
  have sw := fSw_2 (A := A) (x := a) (y := a + 1 + n) (F := F) (G := G) (by omega) (by omega) v v' (fun q => h7 (by rw [v, v', q]))
  have y3 := ga3 h A w0 F (y1.trans v) (by omega)
  rw [e3, e4] at y3
  rw [y3] at h9
  rw [if_pos (Or.inl h9)] at sw
  rw [fT1_n (by rw [sw]; show ¬ l2.toInt < (Int32.ofInt 0).toInt; rw [show (Int32.ofInt 0).toInt = 0 from rfl]; omega)]
theorem sp_290_c16_ffffftt (a0 : Nat) (σ : zSg) (l0 : Nat) (l1 : Int32) (l2 : Int32) (l3 : Int32) (l4 : Int32) (τ : zSg) (τ3 : zSg) (r3 : Int32) (τ4 : zSg) (r4 : Int32) (τ8 : zSg) (r8 : Int32) (τ10 : zSg) (r10 : Int32) (τ12 : zSg) (r12 : Int32) (τ13 : zSg) (r13 : Int32) (hI : j_290 a0 σ l0 l1 l2 l3 l4 τ) (h2 : l4.toInt < (24 : Int)) (g3 : p_186 l0 l3 τ r3 τ3) (g4 : p_186 l0 l4 τ3 r4 τ4) (h5 : r3.toInt ≠ (-1 : Int)) (h6 : r4.toInt ≠ (-1 : Int)) (h7 : r3.toInt ≠ r4.toInt) (g8 : p_289 l0 r3 l4 l3 τ4 r8 τ8) (h9 : r8.toInt ≥ (0 : Int)) (g10 : p_289 l0 r4 l3 l4 τ8 r10 τ10) (h11 : r10.toInt ≥ (0 : Int)) (g12 : p_289 l0 r3 l4 l3 τ10 r12 τ12) (g13 : p_289 l0 r4 l3 l4 τ12 r13 τ13) (h14 : (r12 + r13).toInt ≤ l2.toInt) :
    j_290 a0 σ l0 l1 (if l2 < (r12 + r13) then (r12 + r13) else l2) l3 (l4 + Int32.ofInt (1)) τ13 := by
  obtain ⟨ea1, ga1⟩ := g3
  subst ea1
  obtain ⟨ea2, ga2⟩ := g4
  subst ea2
  obtain ⟨ea3, ga3⟩ := g8
  subst ea3
  obtain ⟨ea4, ga4⟩ := g10
  subst ea4
  obtain ⟨ea5, ga5⟩ := g12
  subst ea5
  obtain ⟨ea6, ga6⟩ := g13
  subst ea6
  obtain ⟨rfl, a, n, ha, hn, e3, e4, hI⟩ := hI
  rw [e4, o32 (by omega)] at h2
  refine ⟨rfl, a, n + 1, ha, by omega, e3, by rw [e4]; exact o32i (by omega), fun h A nf nt w I => ?_⟩
  have k6 := I.1.2.1
  have m1 : (Int32.ofInt (-1)).toInt = -1 := rfl
  obtain ⟨et, e⟩ := hI h A nf nt w I
  have w0 : rW τ13 A := by rw [et]; exact w.el (by omega)
  have y1 := ga1 h A a w0 e3 ha
  have y2 := ga2 h A (a + 1 + n) w0 e4 (by omega)
  have r0 := fTi_r (fTo_r A a) (a := a) (A := A) n
  rw [← e] at r0
  have r0 : 0 ≤ l2.toInt := r0
  refine ⟨et, ?_⟩
  show (_, _) = fT1 A a (a + 1 + n) (fTi A a (fTo A a) n)
  rw [← e]
  rw [y1] at h5
  rw [y2] at h6
  rw [y1, y2] at h7
  rcases I.2.1 a ha with v | ⟨F, hF, v⟩
  · exact absurd (by rw [v]; rfl) h5
  rcases I.2.1 (a + 1 + n) (by omega) with v' | ⟨G, hG, v'⟩
  · exact absurd (by rw [v']; rfl) h6
  have sw := fSw_2 (A := A) (x := a) (y := a + 1 + n) (F := F) (G := G) (by omega) (by omega) v v' (fun q => h7 (by rw [v, v', q]))
  have y3 := ga3 h A w0 F (y1.trans v) (by omega)
  rw [e3, e4] at y3
  have y4 := ga4 h A w0 G (y2.trans v') (by omega)
  rw [e3, e4] at y4
  have y5 := ga5 h A w0 F (y1.trans v) (by omega)
  have y6 := ga6 h A w0 G (y2.trans v') (by omega)
  rw [e3, e4] at y5 y6
  rw [y3] at h9
  rw [y4] at h11
  rw [if_neg (by omega), ← y5, ← y6] at sw
  rw [if_neg (fun q => by have := Int32.lt_iff_toInt_lt.mp q; omega)]
  rw [← sw] at h14
  rw [fT1_n (by show ¬ l2.toInt < _; omega)]
theorem sp_290_c16_ffffftf (a0 : Nat) (σ : zSg) (l0 : Nat) (l1 : Int32) (l2 : Int32) (l3 : Int32) (l4 : Int32) (τ : zSg) (τ3 : zSg) (r3 : Int32) (τ4 : zSg) (r4 : Int32) (τ8 : zSg) (r8 : Int32) (τ10 : zSg) (r10 : Int32) (τ12 : zSg) (r12 : Int32) (τ13 : zSg) (r13 : Int32) (hI : j_290 a0 σ l0 l1 l2 l3 l4 τ) (h2 : l4.toInt < (24 : Int)) (g3 : p_186 l0 l3 τ r3 τ3) (g4 : p_186 l0 l4 τ3 r4 τ4) (h5 : r3.toInt ≠ (-1 : Int)) (h6 : r4.toInt ≠ (-1 : Int)) (h7 : r3.toInt ≠ r4.toInt) (g8 : p_289 l0 r3 l4 l3 τ4 r8 τ8) (h9 : r8.toInt ≥ (0 : Int)) (g10 : p_289 l0 r4 l3 l4 τ8 r10 τ10) (h11 : r10.toInt ≥ (0 : Int)) (g12 : p_289 l0 r3 l4 l3 τ10 r12 τ12) (g13 : p_289 l0 r4 l3 l4 τ12 r13 τ13) (h14 : (r12 + r13).toInt > l2.toInt) :
    j_290 a0 σ l0 (((Int32.ofInt (24)) * l3) + l4) (if l2 < (r12 + r13) then (r12 + r13) else l2) l3 (l4 + Int32.ofInt (1)) τ13 := by
  obtain ⟨ea1, ga1⟩ := g3
  subst ea1
  obtain ⟨ea2, ga2⟩ := g4
  subst ea2
  obtain ⟨ea3, ga3⟩ := g8
  subst ea3
  obtain ⟨ea4, ga4⟩ := g10
  subst ea4
  obtain ⟨ea5, ga5⟩ := g12
  subst ea5
  obtain ⟨ea6, ga6⟩ := g13
  subst ea6
  obtain ⟨rfl, a, n, ha, hn, e3, e4, hI⟩ := hI
  rw [e4, o32 (by omega)] at h2
  refine ⟨rfl, a, n + 1, ha, by omega, e3, by rw [e4]; exact o32i (by omega), fun h A nf nt w I => ?_⟩
  have k6 := I.1.2.1
  have m1 : (Int32.ofInt (-1)).toInt = -1 := rfl
  obtain ⟨et, e⟩ := hI h A nf nt w I
  have w0 : rW τ13 A := by rw [et]; exact w.el (by omega)
  have y1 := ga1 h A a w0 e3 ha
  have y2 := ga2 h A (a + 1 + n) w0 e4 (by omega)
  have r0 := fTi_r (fTo_r A a) (a := a) (A := A) n
  rw [← e] at r0
  have r0 : 0 ≤ l2.toInt := r0
  refine ⟨et, ?_⟩
  show (_, _) = fT1 A a (a + 1 + n) (fTi A a (fTo A a) n)
  rw [← e]
  rw [y1] at h5
  rw [y2] at h6
  rw [y1, y2] at h7
  rcases I.2.1 a ha with v | ⟨F, hF, v⟩
  · exact absurd (by rw [v]; rfl) h5
  rcases I.2.1 (a + 1 + n) (by omega) with v' | ⟨G, hG, v'⟩
  · exact absurd (by rw [v']; rfl) h6
  have sw := fSw_2 (A := A) (x := a) (y := a + 1 + n) (F := F) (G := G) (by omega) (by omega) v v' (fun q => h7 (by rw [v, v', q]))
  have y3 := ga3 h A w0 F (y1.trans v) (by omega)
  rw [e3, e4] at y3
  have y4 := ga4 h A w0 G (y2.trans v') (by omega)
  rw [e3, e4] at y4
  have y5 := ga5 h A w0 F (y1.trans v) (by omega)
  have y6 := ga6 h A w0 G (y2.trans v') (by omega)
  rw [e3, e4] at y5 y6
  rw [y3] at h9
  rw [y4] at h11
  rw [if_neg (by omega), ← y5, ← y6] at sw
  rw [if_pos (Int32.lt_iff_toInt_lt.mpr (by omega))]
  rw [← sw] at h14
  rw [fT1_y (by show l2.toInt < _; omega), e3, e4, sw]
theorem sp_290_c16_ffffff (a0 : Nat) (σ : zSg) (l0 : Nat) (l1 : Int32) (l2 : Int32) (l3 : Int32) (l4 : Int32) (τ : zSg) (τ3 : zSg) (r3 : Int32) (τ4 : zSg) (r4 : Int32) (τ8 : zSg) (r8 : Int32) (τ10 : zSg) (r10 : Int32) (hI : j_290 a0 σ l0 l1 l2 l3 l4 τ) (h2 : l4.toInt < (24 : Int)) (g3 : p_186 l0 l3 τ r3 τ3) (g4 : p_186 l0 l4 τ3 r4 τ4) (h5 : r3.toInt ≠ (-1 : Int)) (h6 : r4.toInt ≠ (-1 : Int)) (h7 : r3.toInt ≠ r4.toInt) (g8 : p_289 l0 r3 l4 l3 τ4 r8 τ8) (h9 : r8.toInt ≥ (0 : Int)) (g10 : p_289 l0 r4 l3 l4 τ8 r10 τ10) (h11 : r10.toInt < (0 : Int)) :
    j_290 a0 σ l0 l1 l2 l3 (l4 + Int32.ofInt (1)) τ10 := by
  obtain ⟨ea1, ga1⟩ := g3
  subst ea1
  obtain ⟨ea2, ga2⟩ := g4
  subst ea2
  obtain ⟨ea3, ga3⟩ := g8
  subst ea3
  obtain ⟨ea4, ga4⟩ := g10
  subst ea4
  obtain ⟨rfl, a, n, ha, hn, e3, e4, hI⟩ := hI
  rw [e4, o32 (by omega)] at h2
  refine ⟨rfl, a, n + 1, ha, by omega, e3, by rw [e4]; exact o32i (by omega), fun h A nf nt w I => ?_⟩
  have k6 := I.1.2.1
  have m1 : (Int32.ofInt (-1)).toInt = -1 := rfl
  obtain ⟨et, e⟩ := hI h A nf nt w I
  have w0 : rW τ10 A := by rw [et]; exact w.el (by omega)
  have y1 := ga1 h A a w0 e3 ha
  have y2 := ga2 h A (a + 1 + n) w0 e4 (by omega)
  have r0 := fTi_r (fTo_r A a) (a := a) (A := A) n
  rw [← e] at r0
  have r0 : 0 ≤ l2.toInt := r0
  refine ⟨et, ?_⟩
  show (_, _) = fT1 A a (a + 1 + n) (fTi A a (fTo A a) n)
  rw [← e]
  rw [y1] at h5
  rw [y2] at h6
  rw [y1, y2] at h7
  rcases I.2.1 a ha with v | ⟨F, hF, v⟩
  · exact absurd (by rw [v]; rfl) h5
  rcases I.2.1 (a + 1 + n) (by omega) with v' | ⟨G, hG, v'⟩
  · exact absurd (by rw [v']; rfl) h6
  have sw := fSw_2 (A := A) (x := a) (y := a + 1 + n) (F := F) (G := G) (by omega) (by omega) v v' (fun q => h7 (by rw [v, v', q]))
  have y3 := ga3 h A w0 F (y1.trans v) (by omega)
  rw [e3, e4] at y3
  have y4 := ga4 h A w0 G (y2.trans v') (by omega)
  rw [e3, e4] at y4
  rw [y4] at h11
  rw [if_pos (Or.inr h11)] at sw
  rw [fT1_n (by rw [sw]; show ¬ l2.toInt < (Int32.ofInt 0).toInt; rw [show (Int32.ofInt 0).toInt = 0 from rfl]; omega)]
noncomputable def qP_290 : zPp := fun as σ o σ' => match as with
  | [a0] => ∃ r, o = .inl (some (.int r)) ∧ p_290 (q_r a0) σ r σ'
  | _ => True
set_option maxRecDepth 100000 in
theorem sp_290 {sx : zX} (S186 : zEe sx 186 2 qP_186) (S289 : zEe sx 289 4 qP_289) : zEe sx 290 1 qP_290 := by
  refine zfle zJ_290 (sps := [(186, 2, qP_186), (289, 4, qP_289)]) (fun q hq => by
    simp only [List.mem_cons, List.not_mem_nil, or_false] at hq
    rcases hq with rfl | rfl
    · exact S186
    · exact S289) (fun as σ hl => ?_)
  match as, hl with
  | [a0], _ =>
  refine ⟨[(9, fun lo st τ => st = [] ∧ i_290 (q_r a0) σ (q_r (lo 0)) (q_i (lo 1)) (q_i (lo 2)) (q_i (lo 3)) τ), (16, fun lo st τ => st = [] ∧ j_290 (q_r a0) σ (q_r (lo 0)) (q_i (lo 1)) (q_i (lo 2)) (q_i (lo 3)) (q_i (lo 4)) τ)], 400, ?_, ?_⟩
  · intro q hq
    simp only [List.mem_cons, List.not_mem_nil, or_false] at hq
    rcases hq with rfl | rfl
    · rintro lo st τ ⟨rfl, hI⟩
      refine ⟨400, ?_⟩
      refine And.intro (fun h1 => ?_) (fun h1 => ?_)
      · exact ⟨_, rfl, sp_290_c9_t (q_r a0) σ (q_r (lo 0)) (q_i (lo 1)) (q_i (lo 2)) (q_i (lo 3)) τ hI (cm3t h1)⟩
      · exact ⟨rfl, sp_290_c9_f (q_r a0) σ (q_r (lo 0)) (q_i (lo 1)) (q_i (lo 2)) (q_i (lo 3)) τ hI (cm3f h1)⟩
    · rintro lo st τ ⟨rfl, hI⟩
      refine ⟨400, ?_⟩
      refine And.intro (fun h2 => ?_) (fun h2 => ?_)
      · exact ⟨rfl, sp_290_c16_t (q_r a0) σ (q_r (lo 0)) (q_i (lo 1)) (q_i (lo 2)) (q_i (lo 3)) (q_i (lo 4)) τ hI (cm3t h2)⟩
      · refine fun o3 τ3 g3 => ?_
        obtain ⟨r3, rfl, g3⟩ := g3
        refine fun o4 τ4 g4 => ?_
        obtain ⟨r4, rfl, g4⟩ := g4
        refine And.intro (fun h5 => ?_) (fun h5 => ?_)
        · exact ⟨rfl, sp_290_c16_ft (q_r a0) σ (q_r (lo 0)) (q_i (lo 1)) (q_i (lo 2)) (q_i (lo 3)) (q_i (lo 4)) τ τ3 r3 τ4 r4 hI (cm3f h2) g3 g4 (cm0t h5)⟩
        · refine And.intro (fun h6 => ?_) (fun h6 => ?_)
          · exact ⟨rfl, sp_290_c16_fft (q_r a0) σ (q_r (lo 0)) (q_i (lo 1)) (q_i (lo 2)) (q_i (lo 3)) (q_i (lo 4)) τ τ3 r3 τ4 r4 hI (cm3f h2) g3 g4 (cm0f h5) (cm0t h6)⟩
          · refine And.intro (fun h7 => ?_) (fun h7 => ?_)
            · exact ⟨rfl, sp_290_c16_ffft (q_r a0) σ (q_r (lo 0)) (q_i (lo 1)) (q_i (lo 2)) (q_i (lo 3)) (q_i (lo 4)) τ τ3 r3 τ4 r4 hI (cm3f h2) g3 g4 (cm0f h5) (cm0f h6) (cm0t h7)⟩
            · refine fun o8 τ8 g8 => ?_
              obtain ⟨r8, rfl, g8⟩ := g8
              refine And.intro (fun h9 => ?_) (fun h9 => ?_)
              · exact ⟨rfl, sp_290_c16_fffft (q_r a0) σ (q_r (lo 0)) (q_i (lo 1)) (q_i (lo 2)) (q_i (lo 3)) (q_i (lo 4)) τ τ3 r3 τ4 r4 τ8 r8 hI (cm3f h2) g3 g4 (cm0f h5) (cm0f h6) (cm0f h7) g8 (cm2t h9)⟩
              · refine fun o10 τ10 g10 => ?_
                obtain ⟨r10, rfl, g10⟩ := g10
                refine And.intro (fun h11 => ?_) (fun h11 => ?_)
                · refine fun o12 τ12 g12 => ?_
                  obtain ⟨r12, rfl, g12⟩ := g12
                  refine fun o13 τ13 g13 => ?_
                  obtain ⟨r13, rfl, g13⟩ := g13
                  refine And.intro (fun h14 => ?_) (fun h14 => ?_)
                  · exact ⟨rfl, sp_290_c16_ffffftt (q_r a0) σ (q_r (lo 0)) (q_i (lo 1)) (q_i (lo 2)) (q_i (lo 3)) (q_i (lo 4)) τ τ3 r3 τ4 r4 τ8 r8 τ10 r10 τ12 r12 τ13 r13 hI (cm3f h2) g3 g4 (cm0f h5) (cm0f h6) (cm0f h7) g8 (cm2f h9) g10 (cm3t h11) g12 g13 (cm5t h14)⟩
                  · exact ⟨rfl, sp_290_c16_ffffftf (q_r a0) σ (q_r (lo 0)) (q_i (lo 1)) (q_i (lo 2)) (q_i (lo 3)) (q_i (lo 4)) τ τ3 r3 τ4 r4 τ8 r8 τ10 r10 τ12 r12 τ13 r13 hI (cm3f h2) g3 g4 (cm0f h5) (cm0f h6) (cm0f h7) g8 (cm2f h9) g10 (cm3t h11) g12 g13 (cm5f h14)⟩
                · exact ⟨rfl, sp_290_c16_ffffff (q_r a0) σ (q_r (lo 0)) (q_i (lo 1)) (q_i (lo 2)) (q_i (lo 3)) (q_i (lo 4)) τ τ3 r3 τ4 r4 τ8 r8 τ10 r10 hI (cm3f h2) g3 g4 (cm0f h5) (cm0f h6) (cm0f h7) g8 (cm2f h9) g10 (cm3f h11)⟩
  · exact ⟨rfl, sp_290_e (q_r a0) σ ⟩
end
section
/-! readers of both sides, exact: lesson; printed with wip/gen/gen_eb.py -/
theorem fRu_s {P : Nat → Bool} {h : Nat} (hh : h < 24) : ∀ n, fRu P h (n + 1) = (P h && fRu P ((h + 1) % 24) n)
  | 0 => by
    show (true && P ((h + 0) % 24)) = (P h && true)
    rw [Bool.true_and, Bool.and_true, Nat.add_zero, Nat.mod_eq_of_lt hh]
  | n + 1 => by
    show (fRu P h (n + 1) && P ((h + (n + 1)) % 24)) = (P h && (fRu P ((h + 1) % 24) n && P (((h + 1) % 24 + n) % 24)))
    rw [fRu_s hh n, show ((h + 1) % 24 + n) % 24 = (h + (n + 1)) % 24 by omega, Bool.and_assoc]
theorem fRu_B (P : Nat → Bool) (n : Nat) : fB P 24 &&& fSn (fB (fun h => fRu P h n) 24) = fB (fun h => fRu P h (n + 1)) 24 := by
  rw [fSn_B, fB_and]
  exact fB_cg 24 (fun h hh => (fRu_s hh n).symm)
/-- the first hour of which Q is true, or none -/
noncomputable def fFi (Q : Nat → Prop) (r : Int32) : Prop := (∃ h, h < 24 ∧ r = Int32.ofNat h ∧ Q h ∧ ∀ i, i < h → ¬ Q i) ∨ ((∀ i, i < 24 → ¬ Q i) ∧ r = Int32.ofInt (-1))
theorem fFi.eq {Q : Nat → Prop} {r r' : Int32} (h : fFi Q r) (h' : fFi Q r') : r = r' := by
  rcases h with ⟨n, a1, a2, a3, a4⟩ | ⟨a1, a2⟩ <;> rcases h' with ⟨m, b1, b2, b3, b4⟩ | ⟨b1, b2⟩
  · have : n = m := by
      rcases Nat.lt_trichotomy n m with q | q | q
      · exact absurd a3 (b4 n q)
      · exact q
      · exact absurd b3 (a4 m q)
    rw [a2, b2, this]
  · exact absurd a3 (b1 n a1)
  · exact absurd b3 (a1 m b1)
  · rw [a2, b2]
/-- the hours that a family has and wishes for -/
noncomputable def fGd (A : Nat → Int32) (F : Nat) (h : Nat) : Bool := decide (A (16 + h) = Int32.ofNat F) && btb (A (43 + 4 * F)) (Int32.ofNat h)
theorem fGd_B (A : Nat → Int32) (F : Nat) : fHs A F &&& A (43 + 4 * F) = fB (fGd A F) 24 := fB_k (fun i hi => (btb_at _ (by omega)).symm)
noncomputable def fLq (A : Nat → Int32) (nf N h : Nat) : Prop := ∃ F, F < nf ∧ fRu (fGd A F) h N = true
theorem zJ_74 : zJ3 74 z_m74 z_c74 z_h74 := ⟨rfl, rfl, rfl⟩
noncomputable def p_74 (x n : Int32) (σ : zSg) (r : Int32) (σ' : zSg) : Prop := σ' = σ ∧ ∀ P N, x = fB P 24 → n = Int32.ofNat N → 1 ≤ N → N ≤ 24 → r = fB (fun h => fRu P h N) 24
noncomputable def i_74 (x n : Int32) (σ : zSg) (l0 l1 l2 l3 : Int32) (τ : zSg) : Prop := l0 = x ∧ l1 = n ∧ τ = σ ∧ ∀ P N, x = fB P 24 → n = Int32.ofNat N → 1 ≤ N → N ≤ 24 → ∃ k, 1 ≤ k ∧ k ≤ N ∧ l3 = Int32.ofNat k ∧ l2 = fB (fun h => fRu P h k) 24
theorem sp_74_e (a0 : Int32) (a1 : Int32) (σ : zSg)  :
    i_74 a0 a1 σ a0 a1 a0 (Int32.ofInt (1)) σ := by
  refine ⟨rfl, rfl, rfl, fun P N e1 e2 yh1 yh2 => ⟨1, Nat.le_refl _, yh1, rfl, ?_⟩⟩
  rw [e1]
  exact fB_cg 24 (fun h hh => by
    show P h = (true && P ((h + 0) % 24))
    rw [Bool.true_and, Nat.add_zero, Nat.mod_eq_of_lt hh])
theorem sp_74_c4_t (a0 : Int32) (a1 : Int32) (σ : zSg) (l0 : Int32) (l1 : Int32) (l2 : Int32) (l3 : Int32) (τ : zSg) (hI : i_74 a0 a1 σ l0 l1 l2 l3 τ) (h1 : l3.toInt ≥ l1.toInt) :
    p_74 (a0) (a1) σ l2 τ := by
  obtain ⟨rfl, rfl, rfl, hI⟩ := hI
  refine ⟨rfl, fun P N e1 e2 yh1 yh2 => ?_⟩
  obtain ⟨k, k1, k2, e3, e4⟩ := hI P N e1 e2 yh1 yh2
  rw [e3, e2, o32 (by omega), o32 (by omega)] at h1
  have : k = N := by omega
  rw [e4, this]
theorem sp_74_c4_f (a0 : Int32) (a1 : Int32) (σ : zSg) (l0 : Int32) (l1 : Int32) (l2 : Int32) (l3 : Int32) (τ : zSg) (τ2 : zSg) (r2 : Int32) (hI : i_74 a0 a1 σ l0 l1 l2 l3 τ) (h1 : l3.toInt < l1.toInt) (g2 : p_67 l2 τ r2 τ2) :
    i_74 a0 a1 σ l0 l1 (l0 &&& r2) (l3 + Int32.ofInt (1)) τ2 := by
  obtain ⟨ea, x1⟩ := g2
  subst ea
  obtain ⟨rfl, rfl, rfl, hI⟩ := hI
  refine ⟨rfl, rfl, rfl, fun P N e1 e2 yh1 yh2 => ?_⟩
  obtain ⟨k, k1, k2, e3, e4⟩ := hI P N e1 e2 yh1 yh2
  rw [e3, e2, o32 (by omega), o32 (by omega)] at h1
  refine ⟨k + 1, by omega, by omega, by rw [e3]; exact o32i (by omega), ?_⟩
  rw [x1, e4, e1, fRu_B]
noncomputable def qP_74 : zPp := fun as σ o σ' => match as with
  | [a0, a1] => ∃ r, o = .inl (some (.int r)) ∧ p_74 (q_i a0) (q_i a1) σ r σ'
  | _ => True
set_option maxRecDepth 100000 in
theorem sp_74 {sx : zX} (S67 : zEe sx 67 1 qP_67) : zEe sx 74 2 qP_74 := by
  refine zfle zJ_74 (sps := [(67, 1, qP_67)]) (fun q hq => by
    simp only [List.mem_cons, List.not_mem_nil, or_false] at hq
    rcases hq with rfl
    · exact S67) (fun as σ hl => ?_)
  match as, hl with
  | [a0, a1], _ =>
  refine ⟨[(4, fun lo st τ => st = [] ∧ i_74 (q_i a0) (q_i a1) σ (q_i (lo 0)) (q_i (lo 1)) (q_i (lo 2)) (q_i (lo 3)) τ)], 400, ?_, ?_⟩
  · intro q hq
    simp only [List.mem_cons, List.not_mem_nil, or_false] at hq
    rcases hq with rfl
    · rintro lo st τ ⟨rfl, hI⟩
      refine ⟨400, ?_⟩
      refine And.intro (fun h1 => ?_) (fun h1 => ?_)
      · exact ⟨_, rfl, sp_74_c4_t (q_i a0) (q_i a1) σ (q_i (lo 0)) (q_i (lo 1)) (q_i (lo 2)) (q_i (lo 3)) τ hI (cm3t h1)⟩
      · refine fun o2 τ2 g2 => ?_
        obtain ⟨r2, rfl, g2⟩ := g2
        exact ⟨rfl, sp_74_c4_f (q_i a0) (q_i a1) σ (q_i (lo 0)) (q_i (lo 1)) (q_i (lo 2)) (q_i (lo 3)) τ τ2 r2 hI (cm3f h1) g2⟩
  · exact ⟨rfl, sp_74_e (q_i a0) (q_i a1) σ ⟩
theorem zJ_73 : zJ3 73 z_m73 z_c73 z_h73 := ⟨rfl, rfl, rfl⟩
noncomputable def p_73 (b : Nat) (n : Int32) (σ : zSg) (r : Int32) (σ' : zSg) : Prop := σ' = σ ∧ ∀ A nf nt, hH σ b A → aI nf nt A → ∀ N, n = Int32.ofNat N → 1 ≤ N → N ≤ 24 → fFi (fLq A nf N) r
noncomputable def i_73 (b : Nat) (n : Int32) (σ : zSg) (l0 : Nat) (l1 l2 l3 : Int32) (τ : zSg) : Prop := l0 = b ∧ l1 = n ∧ τ = σ ∧ ∀ A nf nt, hH σ b A → aI nf nt A → ∀ N, n = Int32.ofNat N → 1 ≤ N → N ≤ 24 → ∃ k Q, k ≤ nf ∧ l3 = Int32.ofNat k ∧ l2 = fB Q 24 ∧ ∀ h, h < 24 → (Q h = true ↔ fLq A k N h)
noncomputable def j_73 (b : Nat) (n : Int32) (σ : zSg) (l1 l2 l3 : Int32) (τ : zSg) : Prop := τ = σ ∧ ∃ h, h ≤ 24 ∧ l3 = Int32.ofNat h ∧ ∀ A nf nt, hH σ b A → aI nf nt A → ∀ N, n = Int32.ofNat N → 1 ≤ N → N ≤ 24 → ∃ Q, l2 = fB Q 24 ∧ (∀ h, h < 24 → (Q h = true ↔ fLq A nf N h)) ∧ ∀ i, i < h → Q i = false
theorem sp_73_e (a0 : Nat) (a1 : Int32) (σ : zSg)  :
    i_73 a0 a1 σ a0 a1 (Int32.ofInt (0)) (Int32.ofInt (0)) σ := by
  refine ⟨rfl, rfl, rfl, fun A nf nt K I N e yh1 yh2 => ⟨0, fun _ => false, Nat.zero_le _, rfl, (fB_f 24).symm, fun h hh => ⟨fun q => (by cases q), ?_⟩⟩⟩
  rintro ⟨F, hF, -⟩
  exact absurd hF (Nat.not_lt_zero F)
theorem sp_73_c4_t (a0 : Nat) (a1 : Int32) (σ : zSg) (l0 : Nat) (l1 : Int32) (l2 : Int32) (l3 : Int32) (τ : zSg) (hI : i_73 a0 a1 σ l0 l1 l2 l3 τ) (h1 : l3.toInt ≥ (q_i (τ.1 (q_r (τ.1 l0 1)) 4)).toInt) :
    j_73 a0 a1 σ l1 l2 (Int32.ofInt (0)) τ := by
  obtain ⟨rfl, rfl, rfl, hI⟩ := hI
  refine ⟨rfl, 0, Nat.zero_le _, rfl, fun A nf nt K I N e yh1 yh2 => ?_⟩
  obtain ⟨k, Q, hk, e3, e2, q⟩ := hI A nf nt K I N e yh1 yh2
  have k6 := I.1.2.1
  have n0 : q_i (τ.1 (q_r (τ.1 l0 1)) 4) = Int32.ofNat nf := by rw [K.k hk_1, K.p hp_0]; exact I.1.1
  rw [n0, e3, o32 (by omega), o32 (by omega)] at h1
  have : k = nf := by omega
  subst this
  exact ⟨Q, e2, q, fun i hi => absurd hi (Nat.not_lt_zero i)⟩
theorem sp_73_c4_f (a0 : Nat) (a1 : Int32) (σ : zSg) (l0 : Nat) (l1 : Int32) (l2 : Int32) (l3 : Int32) (τ : zSg) (τ2 : zSg) (r2 : Int32) (τ4 : zSg) (r4 : Int32) (hI : i_73 a0 a1 σ l0 l1 l2 l3 τ) (h1 : l3.toInt < (q_i (τ.1 (q_r (τ.1 l0 1)) 4)).toInt) (g2 : p_28 l0 ((Int32.ofInt (1)) <<< (l3 &&& 31)) τ r2 τ2) (h3 : 0 ≤ l3.toInt ∧ l3.toInt < (τ2.2.1 (q_r (τ2.1 (q_r (τ2.1 l0 1)) 3)) : Int)) (g4 : p_74 (r2 &&& (q_i (τ2.1 (q_r (τ2.1 (q_r (τ2.1 l0 1)) 3)) l3.toNatClampNeg))) l1 τ2 r4 τ4) :
    i_73 a0 a1 σ l0 l1 (l2 ||| r4) (l3 + Int32.ofInt (1)) τ4 := by
  obtain ⟨ea, x1⟩ := g2
  subst ea
  obtain ⟨eb, x2⟩ := g4
  subst eb
  obtain ⟨rfl, rfl, rfl, hI⟩ := hI
  refine ⟨rfl, rfl, rfl, fun A nf nt K I N e yh1 yh2 => ?_⟩
  obtain ⟨k, Q, hk, e3, e2, q⟩ := hI A nf nt K I N e yh1 yh2
  have k6 := I.1.2.1
  have n0 : q_i (τ4.1 (q_r (τ4.1 l0 1)) 4) = Int32.ofNat nf := by rw [K.k hk_1, K.p hp_0]; exact I.1.1
  rw [n0, e3, o32 (by omega), o32 (by omega)] at h1
  have y1 := x1 A K
  have w1 : q_i (τ4.1 (q_r (τ4.1 (q_r (τ4.1 l0 1)) 3)) l3.toNatClampNeg) = A (43 + 4 * k) := by
    rw [K.k hk_1, K.k hk_f3, e3, o32n (by omega)]
    exact K.p (hp_f3 (by omega))
  have y1' : r2 = fHs A k := by
    rw [y1, e3]
    refine fB_cg 24 (fun h hh => ?_)
    rcases I.2.1 h hh with v | ⟨F, hF, v⟩
    · rw [v, decide_eq_false (fun q => q rfl), Bool.false_and]
      refine (decide_eq_false fun q => ?_).symm
      have := congrArg Int32.toInt q
      rw [o32 (by omega), show (Int32.ofInt (-1)).toInt = -1 from rfl] at this
      omega
    · rw [v, decide_eq_true (show Int32.ofNat F ≠ Int32.ofInt (-1) from fun q => by
        have := congrArg Int32.toInt q
        rw [o32 (by omega), show (Int32.ofInt (-1)).toInt = -1 from rfl] at this
        omega), Bool.true_and, btb_1 (by omega) (by omega)]
      refine decide_eq_decide.mpr ⟨fun q => by rw [q], fun q => ?_⟩
      have := congrArg Int32.toInt q
      rw [o32 (by omega), o32 (by omega)] at this
      omega
  have y2 := x2 (fGd A k) N (by rw [y1', w1, fGd_B]) e yh1 yh2
  refine ⟨k + 1, fun h => Q h || fRu (fGd A k) h N, by omega, by rw [e3]; exact o32i (by omega), by rw [e2, y2, fB_or], fun h hh => ?_⟩
  rw [Bool.or_eq_true, q h hh]
  constructor
  · rintro (⟨F, hF, v⟩ | v)
    · exact ⟨F, by omega, v⟩
    · exact ⟨k, by omega, v⟩
  · rintro ⟨F, hF, v⟩
    by_cases z : F = k
    · subst z; exact Or.inr v
    · exact Or.inl ⟨F, by omega, v⟩
theorem sp_73_c31_t (a0 : Nat) (a1 : Int32) (σ : zSg) (l1 : Int32) (l2 : Int32) (l3 : Int32) (τ : zSg) (hI : j_73 a0 a1 σ l1 l2 l3 τ) (h5 : l3.toInt ≥ (24 : Int)) :
    p_73 (a0) (a1) σ (Int32.ofInt (-1)) τ := by
  obtain ⟨rfl, h, hh, e3, hI⟩ := hI
  refine ⟨rfl, fun A nf nt K I N e yh1 yh2 => ?_⟩
  obtain ⟨Q, e2, q, z⟩ := hI A nf nt K I N e yh1 yh2
  rw [e3, o32 (by omega)] at h5
  refine Or.inr ⟨fun i hi w => ?_, rfl⟩
  have := (q i hi).mpr w
  rw [z i (by omega)] at this
  cases this
theorem sp_73_c31_ft (a0 : Nat) (a1 : Int32) (σ : zSg) (l1 : Int32) (l2 : Int32) (l3 : Int32) (τ : zSg) (hI : j_73 a0 a1 σ l1 l2 l3 τ) (h5 : l3.toInt < (24 : Int)) (h6 : ((l2 >>> (l3 &&& 31)) &&& (Int32.ofInt (1))).toInt ≠ (1 : Int)) :
    j_73 a0 a1 σ l1 l2 (l3 + Int32.ofInt (1)) τ := by
  obtain ⟨rfl, h, hh, e3, hI⟩ := hI
  rw [e3, o32 (by omega)] at h5
  refine ⟨rfl, h + 1, by omega, by rw [e3]; exact o32i (by omega), fun A nf nt K I N e yh1 yh2 => ?_⟩
  obtain ⟨Q, e2, q, z⟩ := hI A nf nt K I N e yh1 yh2
  refine ⟨Q, e2, q, fun i hi => ?_⟩
  by_cases y : i = h
  · subst y
    have b := btb_at l2 (i := i) (by omega)
    rw [e2, fB_bit (by omega) 24 (by omega), decide_eq_true (by omega), Bool.true_and, ← e2] at b
    rw [← b]
    unfold btb
    rw [← e3]
    exact decide_eq_false h6
  · exact z i (by omega)
theorem sp_73_c31_ff (a0 : Nat) (a1 : Int32) (σ : zSg) (l1 : Int32) (l2 : Int32) (l3 : Int32) (τ : zSg) (hI : j_73 a0 a1 σ l1 l2 l3 τ) (h5 : l3.toInt < (24 : Int)) (h6 : ((l2 >>> (l3 &&& 31)) &&& (Int32.ofInt (1))).toInt = (1 : Int)) :
    p_73 (a0) (a1) σ l3 τ := by
  obtain ⟨rfl, h, hh, e3, hI⟩ := hI
  rw [e3, o32 (by omega)] at h5
  refine ⟨rfl, fun A nf nt K I N e yh1 yh2 => ?_⟩
  obtain ⟨Q, e2, q, z⟩ := hI A nf nt K I N e yh1 yh2
  have b := btb_at l2 (i := h) (by omega)
  rw [e2, fB_bit (by omega) 24 (by omega), decide_eq_true (by omega), Bool.true_and, ← e2] at b
  have bt : Q h = true := by
    rw [← b]
    unfold btb
    rw [← e3]
    exact decide_eq_true h6
  refine Or.inl ⟨h, by omega, e3, (q h (by omega)).mp bt, fun i hi w => ?_⟩
  have := (q i (by omega)).mpr w
  rw [z i hi] at this
  cases this
noncomputable def qP_73 : zPp := fun as σ o σ' => match as with
  | [a0, a1] => ∃ r, o = .inl (some (.int r)) ∧ p_73 (q_r a0) (q_i a1) σ r σ'
  | _ => True
set_option maxRecDepth 100000 in
theorem sp_73 {sx : zX} (S28 : zEe sx 28 2 qP_28) (S74 : zEe sx 74 2 qP_74) : zEe sx 73 2 qP_73 := by
  refine zfle zJ_73 (sps := [(28, 2, qP_28), (74, 2, qP_74)]) (fun q hq => by
    simp only [List.mem_cons, List.not_mem_nil, or_false] at hq
    rcases hq with rfl | rfl
    · exact S28
    · exact S74) (fun as σ hl => ?_)
  match as, hl with
  | [a0, a1], _ =>
  refine ⟨[(4, fun lo st τ => st = [] ∧ i_73 (q_r a0) (q_i a1) σ (q_r (lo 0)) (q_i (lo 1)) (q_i (lo 2)) (q_i (lo 3)) τ), (31, fun lo st τ => st = [] ∧ j_73 (q_r a0) (q_i a1) σ (q_i (lo 1)) (q_i (lo 2)) (q_i (lo 3)) τ)], 400, ?_, ?_⟩
  · intro q hq
    simp only [List.mem_cons, List.not_mem_nil, or_false] at hq
    rcases hq with rfl | rfl
    · rintro lo st τ ⟨rfl, hI⟩
      refine ⟨400, ?_⟩
      refine And.intro (fun h1 => ?_) (fun h1 => ?_)
      · exact ⟨rfl, sp_73_c4_t (q_r a0) (q_i a1) σ (q_r (lo 0)) (q_i (lo 1)) (q_i (lo 2)) (q_i (lo 3)) τ hI (cm3t h1)⟩
      · refine fun o2 τ2 g2 => ?_
        obtain ⟨r2, rfl, g2⟩ := g2
        refine fun h3 => ?_
        refine fun o4 τ4 g4 => ?_
        obtain ⟨r4, rfl, g4⟩ := g4
        exact ⟨rfl, sp_73_c4_f (q_r a0) (q_i a1) σ (q_r (lo 0)) (q_i (lo 1)) (q_i (lo 2)) (q_i (lo 3)) τ τ2 r2 τ4 r4 hI (cm3f h1) g2 (q_inp h3) g4⟩
    · rintro lo st τ ⟨rfl, hI⟩
      refine ⟨400, ?_⟩
      refine And.intro (fun h5 => ?_) (fun h5 => ?_)
      · exact ⟨_, rfl, sp_73_c31_t (q_r a0) (q_i a1) σ (q_i (lo 1)) (q_i (lo 2)) (q_i (lo 3)) τ hI (cm3t h5)⟩
      · refine And.intro (fun h6 => ?_) (fun h6 => ?_)
        · exact ⟨rfl, sp_73_c31_ft (q_r a0) (q_i a1) σ (q_i (lo 1)) (q_i (lo 2)) (q_i (lo 3)) τ hI (cm3f h5) (cm1t h6)⟩
        · exact ⟨_, rfl, sp_73_c31_ff (q_r a0) (q_i a1) σ (q_i (lo 1)) (q_i (lo 2)) (q_i (lo 3)) τ hI (cm3f h5) (cm1f h6)⟩
  · exact ⟨rfl, sp_73_e (q_r a0) (q_i a1) σ ⟩
theorem zJ_149 : zJ3 149 z_m149 z_c149 z_h149 := ⟨rfl, rfl, rfl⟩
noncomputable def p_149 (a : Nat) (n : Int32) (σ : zSg) (e : Int32 ⊕ Nat) (σ' : zSg) : Prop := a = 0 → ∀ A nf nt, xSk σ → hH σ 8 A → aI nf nt A → σ' = σ ∧ (¬ (1 ≤ n.toInt ∧ n.toInt ≤ 24) → e = .inr 0) ∧ (∀ N, n = Int32.ofNat N → 1 ≤ N → N ≤ 24 → ∃ v, e = .inl v ∧ fFi (fLq A nf N) v)
theorem sp_149_en (a0 : Nat) (a1 : Int32) (σ : zSg) (τ1 : zSg) (τ2 : zSg) (r2 : Int32) (g1 : p_170 a0 a1 (Int32.ofInt (1)) (Int32.ofInt (24)) σ (.inl 0) τ1) (g2 : p_73 (q_r (τ1.1 a0 2)) a1 τ1 r2 τ2) :
    p_149 (a0) (a1) σ (.inl r2) τ2 := by
  rintro rfl A nf nt K H I
  obtain ⟨rfl, u, -⟩ := g1
  have u : (1 : Int) ≤ a1.toInt ∧ a1.toInt ≤ (24 : Int) := u rfl
  have d2 : q_r (τ1.1 0 2) = 8 := by rw [K.2.1]; rfl
  rw [d2] at g2
  obtain ⟨rfl, g2⟩ := g2
  exact ⟨rfl, fun q => absurd u q, fun N e yh1 yh2 => ⟨_, rfl, g2 A nf nt H I N e yh1 yh2⟩⟩
theorem sp_149_ex0_ (a0 : Nat) (a1 : Int32) (σ : zSg) (τ1 : zSg) (g1 : p_170 a0 a1 (Int32.ofInt (1)) (Int32.ofInt (24)) σ (.inr 0) τ1) :
    p_149 (a0) (a1) σ (.inr 0) τ1 := by
  rintro rfl A nf nt K H I
  obtain ⟨rfl, -, u⟩ := g1
  have u : ¬ ((1 : Int) ≤ a1.toInt ∧ a1.toInt ≤ (24 : Int)) := u rfl
  exact ⟨rfl, fun _ => rfl, fun N e yh1 yh2 => absurd (by rw [e, o32 (by omega)]; omega) u⟩
noncomputable def qP_149 : zPp := fun as σ o σ' => match as with
  | [a0, a1] => (∃ r, o = .inl (some (.int r)) ∧ p_149 (q_r a0) (q_i a1) σ (.inl r) σ') ∨ (o = .inr 0 ∧ p_149 (q_r a0) (q_i a1) σ (.inr 0) σ')
  | _ => True
set_option maxRecDepth 100000 in
theorem sp_149 {sx : zX} (S170 : zEe sx 170 4 qP_170) (S73 : zEe sx 73 2 qP_73) : zEe sx 149 2 qP_149 := by
  refine zfle zJ_149 (sps := [(170, 4, qP_170), (73, 2, qP_73)]) (fun q hq => by
    simp only [List.mem_cons, List.not_mem_nil, or_false] at hq
    rcases hq with rfl | rfl
    · exact S170
    · exact S73) (fun as σ hl => ?_)
  match as, hl with
  | [a0, a1], _ =>
  refine ⟨[], 400, ?_, ?_⟩
  · exact fun q hq => absurd hq List.not_mem_nil
  · refine fun o1 τ1 g1 => ?_
    rcases g1 with ⟨rfl, g1⟩ | ⟨rfl, g1⟩
    · refine fun o2 τ2 g2 => ?_
      obtain ⟨r2, rfl, g2⟩ := g2
      exact Or.inl ⟨_, rfl, sp_149_en (q_r a0) (q_i a1) σ τ1 τ2 r2 g1 g2⟩
    · exact Or.inr (⟨rfl, sp_149_ex0_ (q_r a0) (q_i a1) σ τ1 g1⟩)
theorem zJ_284 : zJ3 284 z_m284 z_c284 z_h284 := ⟨rfl, rfl, rfl⟩
noncomputable def p_284 (a : Nat) (n : Int32) (σ : zSg) (r : Int32) (σ' : zSg) : Prop := a = 205 → ∀ A nf nt, rW σ A → aI nf nt A → (¬ (1 ≤ n.toInt ∧ n.toInt ≤ 24) → r = Int32.ofInt 0 ∧ σ' = rTh σ 1) ∧ (∀ N, n = Int32.ofNat N → 1 ≤ N → N ≤ 24 → σ' = r0 σ ∧ fFi (fLq A nf N) r)
noncomputable def i_284 (a : Nat) (n : Int32) (σ : zSg) (l0 : Nat) (l1 l2 : Int32) (τ : zSg) : Prop := l0 = a ∧ l1 = n ∧ τ = q_w σ a 0 (.int (Int32.ofInt 0)) ∧ (1 ≤ n.toInt ∧ n.toInt ≤ 24) ∧ ∃ h, h ≤ 24 ∧ l2 = Int32.ofNat h ∧ (a = 205 → ∀ A nf nt, rW σ A → aI nf nt A → ∀ N, n = Int32.ofNat N → 1 ≤ N → N ≤ 24 → ∀ i, i < h → ¬ fLq A nf N i)
noncomputable def j_284 (a : Nat) (n : Int32) (σ : zSg) (l0 : Nat) (l1 l2 l3 : Int32) (τ : zSg) : Prop := l0 = a ∧ l1 = n ∧ τ = q_w σ a 0 (.int (Int32.ofInt 0)) ∧ (1 ≤ n.toInt ∧ n.toInt ≤ 24) ∧ ∃ h, h < 24 ∧ l2 = Int32.ofNat h ∧ (a = 205 → ∀ A nf nt, rW σ A → aI nf nt A → ∃ k, k ≤ nf ∧ l3 = Int32.ofNat k ∧ ∀ N, n = Int32.ofNat N → 1 ≤ N → N ≤ 24 → (∀ i, i < h → ¬ fLq A nf N i) ∧ ¬ fLq A k N h)
theorem sp_284_et (a0 : Nat) (a1 : Int32) (σ : zSg) (τ1 : zSg) (r1 : Int32) (g1 : p_177 a1 (Int32.ofInt (1)) (Int32.ofInt (24)) (q_w σ a0 0 (.int (Int32.ofInt (0)))) r1 τ1) (h2 : r1.toInt ≠ (0 : Int)) :
    i_284 a0 a1 σ a0 a1 (Int32.ofInt (0)) τ1 := by
  obtain ⟨ea, u⟩ := g1
  subst ea
  rw [show (Int32.ofInt 1).toInt = 1 from rfl, show (Int32.ofInt 24).toInt = 24 from rfl] at u
  exact ⟨rfl, rfl, rfl, u.mp h2, 0, Nat.zero_le _, rfl, fun _ _ _ _ _ _ _ _ _ _ i hi => absurd hi (Nat.not_lt_zero i)⟩
theorem sp_284_ef (a0 : Nat) (a1 : Int32) (σ : zSg) (τ1 : zSg) (r1 : Int32) (g1 : p_177 a1 (Int32.ofInt (1)) (Int32.ofInt (24)) (q_w σ a0 0 (.int (Int32.ofInt (0)))) r1 τ1) (h2 : r1.toInt = (0 : Int)) :
    p_284 (a0) (a1) σ (Int32.ofInt (0)) (q_w τ1 a0 0 (.int (Int32.ofInt (1)))) := by
  obtain ⟨ea, u⟩ := g1
  subst ea
  rw [show (Int32.ofInt 1).toInt = 1 from rfl, show (Int32.ofInt 24).toInt = 24 from rfl] at u
  rintro rfl A nf nt w I
  exact ⟨fun _ => ⟨rfl, r0_T⟩, fun N e yh1 yh2 => absurd (h2) (u.mpr (by rw [e, o32 (by omega)]; omega))⟩
theorem sp_284_c19_t (a0 : Nat) (a1 : Int32) (σ : zSg) (l0 : Nat) (l1 : Int32) (l2 : Int32) (τ : zSg) (hI : i_284 a0 a1 σ l0 l1 l2 τ) (h7 : l2.toInt ≥ (24 : Int)) :
    p_284 (a0) (a1) σ (Int32.ofInt (-1)) τ := by
  obtain ⟨rfl, rfl, rfl, hv, h, hh, e2, hI⟩ := hI
  rw [e2, o32 (by omega)] at h7
  rintro rfl A nf nt w I
  exact ⟨fun q => absurd hv q, fun N e yh1 yh2 => ⟨rfl, Or.inr ⟨fun i hi => hI rfl A nf nt w I N e yh1 yh2 i (by omega), rfl⟩⟩⟩
theorem sp_284_c19_f (a0 : Nat) (a1 : Int32) (σ : zSg) (l0 : Nat) (l1 : Int32) (l2 : Int32) (τ : zSg) (hI : i_284 a0 a1 σ l0 l1 l2 τ) (h7 : l2.toInt < (24 : Int)) :
    j_284 a0 a1 σ l0 l1 l2 (Int32.ofInt (0)) τ := by
  obtain ⟨rfl, rfl, rfl, hv, h, hh, e2, hI⟩ := hI
  rw [e2, o32 (by omega)] at h7
  refine ⟨rfl, rfl, rfl, hv, h, by omega, e2, fun ha A nf nt w I => ⟨0, Nat.zero_le _, rfl, fun N e yh1 yh2 => ⟨hI ha A nf nt w I N e yh1 yh2, ?_⟩⟩⟩
  rintro ⟨F, hF, -⟩
  exact absurd hF (Nat.not_lt_zero F)
theorem sp_284_c24_t (a0 : Nat) (a1 : Int32) (σ : zSg) (l0 : Nat) (l1 : Int32) (l2 : Int32) (l3 : Int32) (τ : zSg) (τ8 : zSg) (r8 : Int32) (hI : j_284 a0 a1 σ l0 l1 l2 l3 τ) (g8 : p_184 l0 τ r8 τ8) (h9 : l3.toInt ≥ r8.toInt) :
    i_284 a0 a1 σ l0 l1 (l2 + Int32.ofInt (1)) τ8 := by
  obtain ⟨ea, g1⟩ := g8
  subst ea
  obtain ⟨rfl, rfl, e0, hv, h, hh, e2, hI⟩ := hI
  refine ⟨rfl, rfl, e0, hv, h + 1, by omega, by rw [e2]; exact o32i (by omega), fun ha A nf nt w I N e yh1 yh2 i hi => ?_⟩
  obtain ⟨k, k1, e3, q⟩ := hI ha A nf nt w I
  have k6 := I.1.2.1
  have w0 : rW τ8 A := by rw [e0, ha]; exact w.el (by omega)
  have y1 := g1 ha A w0
  rw [y1, I.1.1, e3, o32 (by omega), o32 (by omega)] at h9
  have : k = nf := by omega
  subst this
  by_cases z : i = h
  · rw [z]; exact (q N e yh1 yh2).2
  · exact (q N e yh1 yh2).1 i (by omega)
theorem sp_284_c24_ft (a0 : Nat) (a1 : Int32) (σ : zSg) (l0 : Nat) (l1 : Int32) (l2 : Int32) (l3 : Int32) (τ : zSg) (τ8 : zSg) (r8 : Int32) (τ10 : zSg) (r10 : Int32) (τ11 : zSg) (r11 : Int32) (τ12 : zSg) (r12 : Int32) (hI : j_284 a0 a1 σ l0 l1 l2 l3 τ) (g8 : p_184 l0 τ r8 τ8) (h9 : l3.toInt < r8.toInt) (g10 : p_242 l0 l3 τ8 r10 τ10) (g11 : p_190 l0 l3 (Int32.ofInt (3)) τ10 r11 τ11) (g12 : p_245 (r10 &&& r11) l2 τ11 r12 τ12) (h13 : r12.toInt < l1.toInt) :
    j_284 a0 a1 σ l0 l1 l2 (l3 + Int32.ofInt (1)) τ12 := by
  obtain ⟨ea, g1⟩ := g8
  subst ea
  obtain ⟨eb, g2⟩ := g10
  subst eb
  obtain ⟨ec, g3⟩ := g11
  subst ec
  obtain ⟨ed, g4⟩ := g12
  subst ed
  obtain ⟨rfl, rfl, e0, hv, h, hh, e2, hI⟩ := hI
  refine ⟨rfl, rfl, e0, hv, h, hh, e2, fun ha A nf nt w I => ?_⟩
  obtain ⟨k, k1, e3, q⟩ := hI ha A nf nt w I
  have k6 := I.1.2.1
  have w0 : rW τ12 A := by rw [e0, ha]; exact w.el (by omega)
  have y1 := g1 ha A w0
  rw [y1, I.1.1, e3, o32 (by omega), o32 (by omega)] at h9
  have y2 := g2 ha A w0
  have y3 := g3 ha A w0 k 3 e3 (by omega) rfl (by omega)
  have xb : r10 &&& r11 = fB (fGd A k) 24 := by
    rw [y2, y3, e3]
    exact fGd_B A k
  have y4 := g4 (fGd A k) h xb e2 hh
  have rl := fRw_le (fGd A k) h 24
  refine ⟨k + 1, by omega, by rw [e3]; exact o32i (by omega), fun N e yh1 yh2 => ⟨(q N e yh1 yh2).1, ?_⟩⟩
  rw [y4, e, o32 (by omega), o32 (by omega)] at h13
  rintro ⟨F, hF, v⟩
  by_cases z : F = k
  · subst z
    have := (fRw_iff (P := fGd A F) (h := h) (m := N) (n := 24) yh2).mpr v
    omega
  · exact (q N e yh1 yh2).2 ⟨F, by omega, v⟩
theorem sp_284_c24_ff (a0 : Nat) (a1 : Int32) (σ : zSg) (l0 : Nat) (l1 : Int32) (l2 : Int32) (l3 : Int32) (τ : zSg) (τ8 : zSg) (r8 : Int32) (τ10 : zSg) (r10 : Int32) (τ11 : zSg) (r11 : Int32) (τ12 : zSg) (r12 : Int32) (hI : j_284 a0 a1 σ l0 l1 l2 l3 τ) (g8 : p_184 l0 τ r8 τ8) (h9 : l3.toInt < r8.toInt) (g10 : p_242 l0 l3 τ8 r10 τ10) (g11 : p_190 l0 l3 (Int32.ofInt (3)) τ10 r11 τ11) (g12 : p_245 (r10 &&& r11) l2 τ11 r12 τ12) (h13 : r12.toInt ≥ l1.toInt) :
    p_284 (a0) (a1) σ l2 τ12 := by
  obtain ⟨ea, g1⟩ := g8
  subst ea
  obtain ⟨eb, g2⟩ := g10
  subst eb
  obtain ⟨ec, g3⟩ := g11
  subst ec
  obtain ⟨ed, g4⟩ := g12
  subst ed
  obtain ⟨rfl, rfl, e0, hv, h, hh, e2, hI⟩ := hI
  intro ha A nf nt w I
  obtain ⟨k, k1, e3, q⟩ := hI ha A nf nt w I
  have k6 := I.1.2.1
  have w0 : rW τ12 A := by rw [e0, ha]; exact w.el (by omega)
  have y1 := g1 ha A w0
  rw [y1, I.1.1, e3, o32 (by omega), o32 (by omega)] at h9
  have y2 := g2 ha A w0
  have y3 := g3 ha A w0 k 3 e3 (by omega) rfl (by omega)
  have xb : r10 &&& r11 = fB (fGd A k) 24 := by
    rw [y2, y3, e3]
    exact fGd_B A k
  have y4 := g4 (fGd A k) h xb e2 hh
  have rl := fRw_le (fGd A k) h 24
  refine ⟨fun q => absurd hv q, fun N e yh1 yh2 => ⟨by rw [e0, ha]; rfl, Or.inl ⟨h, hh, e2, ⟨k, by omega, ?_⟩, (q N e yh1 yh2).1⟩⟩⟩
  rw [y4, e, o32 (by omega), o32 (by omega)] at h13
  exact (fRw_iff (P := fGd A k) (h := h) (m := N) (n := 24) yh2).mp (by omega)
noncomputable def qP_284 : zPp := fun as σ o σ' => match as with
  | [a0, a1] => ∃ r, o = .inl (some (.int r)) ∧ p_284 (q_r a0) (q_i a1) σ r σ'
  | _ => True
set_option maxRecDepth 100000 in
theorem sp_284 {sx : zX} (S177 : zEe sx 177 3 qP_177) (S176 : zEe sx 176 3 qP_176) (S184 : zEe sx 184 1 qP_184) (S242 : zEe sx 242 2 qP_242) (S190 : zEe sx 190 3 qP_190) (S245 : zEe sx 245 2 qP_245) : zEe sx 284 2 qP_284 := by
  refine zfle zJ_284 (sps := [(177, 3, qP_177), (176, 3, qP_176), (184, 1, qP_184), (242, 2, qP_242), (190, 3, qP_190), (245, 2, qP_245)]) (fun q hq => by
    simp only [List.mem_cons, List.not_mem_nil, or_false] at hq
    rcases hq with rfl | rfl | rfl | rfl | rfl | rfl
    · exact S177
    · exact S176
    · exact S184
    · exact S242
    · exact S190
    · exact S245) (fun as σ hl => ?_)
  match as, hl with
  | [a0, a1], _ =>
  refine ⟨[(19, fun lo st τ => st = [] ∧ i_284 (q_r a0) (q_i a1) σ (q_r (lo 0)) (q_i (lo 1)) (q_i (lo 2)) τ), (24, fun lo st τ => st = [] ∧ j_284 (q_r a0) (q_i a1) σ (q_r (lo 0)) (q_i (lo 1)) (q_i (lo 2)) (q_i (lo 3)) τ)], 400, ?_, ?_⟩
  · intro q hq
    simp only [List.mem_cons, List.not_mem_nil, or_false] at hq
    rcases hq with rfl | rfl
    · rintro lo st τ ⟨rfl, hI⟩
      refine ⟨400, ?_⟩
      refine And.intro (fun h7 => ?_) (fun h7 => ?_)
      · exact ⟨_, rfl, sp_284_c19_t (q_r a0) (q_i a1) σ (q_r (lo 0)) (q_i (lo 1)) (q_i (lo 2)) τ hI (cm3t h7)⟩
      · exact ⟨rfl, sp_284_c19_f (q_r a0) (q_i a1) σ (q_r (lo 0)) (q_i (lo 1)) (q_i (lo 2)) τ hI (cm3f h7)⟩
    · rintro lo st τ ⟨rfl, hI⟩
      refine ⟨400, ?_⟩
      refine fun o8 τ8 g8 => ?_
      obtain ⟨r8, rfl, g8⟩ := g8
      refine And.intro (fun h9 => ?_) (fun h9 => ?_)
      · exact ⟨rfl, sp_284_c24_t (q_r a0) (q_i a1) σ (q_r (lo 0)) (q_i (lo 1)) (q_i (lo 2)) (q_i (lo 3)) τ τ8 r8 hI g8 (cm3t h9)⟩
      · refine fun o10 τ10 g10 => ?_
        obtain ⟨r10, rfl, g10⟩ := g10
        refine fun o11 τ11 g11 => ?_
        obtain ⟨r11, rfl, g11⟩ := g11
        refine fun o12 τ12 g12 => ?_
        obtain ⟨r12, rfl, g12⟩ := g12
        refine And.intro (fun h13 => ?_) (fun h13 => ?_)
        · exact ⟨rfl, sp_284_c24_ft (q_r a0) (q_i a1) σ (q_r (lo 0)) (q_i (lo 1)) (q_i (lo 2)) (q_i (lo 3)) τ τ8 r8 τ10 r10 τ11 r11 τ12 r12 hI g8 (cm3f h9) g10 g11 g12 (cm2t h13)⟩
        · exact ⟨_, rfl, sp_284_c24_ff (q_r a0) (q_i a1) σ (q_r (lo 0)) (q_i (lo 1)) (q_i (lo 2)) (q_i (lo 3)) τ τ8 r8 τ10 r10 τ11 r11 τ12 r12 hI g8 (cm3f h9) g10 g11 g12 (cm2f h13)⟩
  · refine fun o1 τ1 g1 => ?_
    obtain ⟨r1, rfl, g1⟩ := g1
    refine And.intro (fun h2 => ?_) (fun h2 => ?_)
    · refine fun o3 τ3 g3 => ?_
      obtain ⟨r3, rfl, rfl, y3, z3⟩ := g3
      have e3 := (z3 rfl).symm
      subst e3
      refine And.intro (fun _ => ?_) (fun h4 => absurd (show z_cmp 0 (Int32.ofInt (0)) 0 = false from h4) (by decide))
      exact ⟨rfl, sp_284_et (q_r a0) (q_i a1) σ τ1 r1 g1 (cm1t h2)⟩
    · refine fun o5 τ5 g5 => ?_
      obtain ⟨r5, rfl, rfl, y5, z5⟩ := g5
      have e5 := (y5 (by decide)).symm
      subst e5
      refine And.intro (fun h6 => absurd (show z_cmp 0 (Int32.ofInt (1)) 0 = true from h6) (by decide)) (fun _ => ?_)
      exact ⟨_, rfl, sp_284_ef (q_r a0) (q_i a1) σ τ1 r1 g1 (cm1f h2)⟩
theorem zJ_334 : zJ3 334 z_m334 z_c334 z_h334 := ⟨rfl, rfl, rfl⟩
noncomputable def p_334 (a : Nat) (a1 : Int32) (o : Nat) (σ : zSg) (k : Int32) (σ' : zSg) : Prop := ∃ e τ, p_149 a a1 σ e τ ∧ ((∃ v, e = .inl v ∧ k = Int32.ofInt 0 ∧ σ' = q_w τ o 0 (.long v.toInt64)) ∨ (e = .inr 0 ∧ k = Int32.ofInt 1 ∧ σ' = τ))
theorem sp_334_en (a0 : Nat) (a1 : Int32) (a2 : Nat) (σ : zSg) (τ1 : zSg) (r1 : Int32) (g1 : p_149 a0 a1 σ (.inl r1) τ1) (h2 : 0 ≤ (Int32.ofInt (0)).toInt ∧ (Int32.ofInt (0)).toInt < (τ1.2.1 a2 : Int)) :
    p_334 (a0) (a1) (a2) σ (Int32.ofInt (0)) (q_w τ1 a2 (Int32.ofInt (0)).toNatClampNeg (.long r1.toInt64)) := by
  exact ⟨_, _, g1, Or.inl ⟨_, rfl, rfl, rfl⟩⟩
theorem sp_334_ex0_ (a0 : Nat) (a1 : Int32) (a2 : Nat) (σ : zSg) (τ1 : zSg) (g1 : p_149 a0 a1 σ (.inr 0) τ1) :
    p_334 (a0) (a1) (a2) σ (Int32.ofInt (1)) τ1 := by
  exact ⟨_, _, g1, Or.inr (⟨rfl, rfl, rfl⟩)⟩
noncomputable def qP_334 : zPp := fun as σ o σ' => match as with
  | [a0, a1, a2] => ∃ r, o = .inl (some (.int r)) ∧ p_334 (q_r a0) (q_i a1) (q_r a2) σ r σ'
  | _ => True
set_option maxRecDepth 100000 in
theorem sp_334 {sx : zX} (S149 : zEe sx 149 2 qP_149) : zEe sx 334 3 qP_334 := by
  refine zfle zJ_334 (sps := [(149, 2, qP_149)]) (fun q hq => by
    simp only [List.mem_cons, List.not_mem_nil, or_false] at hq
    rcases hq with rfl
    · exact S149) (fun as σ hl => ?_)
  match as, hl with
  | [a0, a1, a2], _ =>
  refine ⟨[], 400, ?_, ?_⟩
  · exact fun q hq => absurd hq List.not_mem_nil
  · refine fun o1 τ1 g1 => ?_
    rcases g1 with ⟨r1, rfl, g1⟩ | ⟨rfl, g1⟩
    · refine fun h2 => ?_
      exact ⟨_, rfl, sp_334_en (q_r a0) (q_i a1) (q_r a2) σ τ1 r1 g1 (q_inp h2)⟩
    · exact ⟨_, rfl, sp_334_ex0_ (q_r a0) (q_i a1) (q_r a2) σ τ1 g1⟩
end
