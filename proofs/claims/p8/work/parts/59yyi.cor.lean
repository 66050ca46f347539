section
/-! readers of both sides, exact: corner; printed with wip/gen/gen_ec.py -/
theorem fm72 : (List.range 72).all (fun t => decide (((0 : Int) ≤ ((Int32.ofNat t - Int32.ofInt 24) ^^^ Int32.ofInt 24).toInt → (Int32.ofNat t - Int32.ofInt 24) - (Int32.ofNat t - Int32.ofInt 24) / Int32.ofInt 24 * Int32.ofInt 24 = Int32.ofNat (t % 24)) ∧ (((Int32.ofNat t - Int32.ofInt 24) ^^^ Int32.ofInt 24).toInt < (0 : Int) → ((Int32.ofNat t - Int32.ofInt 24) - (Int32.ofNat t - Int32.ofInt 24) / Int32.ofInt 24 * Int32.ofInt 24).toInt = (0 : Int) → (Int32.ofNat t - Int32.ofInt 24) - (Int32.ofNat t - Int32.ofInt 24) / Int32.ofInt 24 * Int32.ofInt 24 = Int32.ofNat (t % 24)) ∧ (((Int32.ofNat t - Int32.ofInt 24) ^^^ Int32.ofInt 24).toInt < (0 : Int) → ((Int32.ofNat t - Int32.ofInt 24) - (Int32.ofNat t - Int32.ofInt 24) / Int32.ofInt 24 * Int32.ofInt 24).toInt ≠ (0 : Int) → ((Int32.ofNat t - Int32.ofInt 24) - (Int32.ofNat t - Int32.ofInt 24) / Int32.ofInt 24 * Int32.ofInt 24) + Int32.ofInt 24 = Int32.ofNat (t % 24)))) = true := by decide +kernel
theorem of24 : (List.range 48).all (fun n => decide (Int32.ofNat n = Int32.ofNat (n + 24) - Int32.ofInt 24)) = true := by decide +kernel
theorem of23 : (List.range 24).all (fun n => decide (Int32.ofNat n - Int32.ofInt 1 = Int32.ofNat (n + 23) - Int32.ofInt 24)) = true := by decide +kernel
theorem of24_at {n : Nat} (h : n < 48) : Int32.ofNat n = Int32.ofNat (n + 24) - Int32.ofInt 24 := of_decide_eq_true (List.all_eq_true.mp of24 n (List.mem_range.mpr h))
theorem of23_at {n : Nat} (h : n < 24) : Int32.ofNat n - Int32.ofInt 1 = Int32.ofNat (n + 23) - Int32.ofInt 24 := of_decide_eq_true (List.all_eq_true.mp of23 n (List.mem_range.mpr h))
theorem hf24 : (List.range 24).all (fun h => decide (((Int32.ofNat h + Int32.ofInt 24) - Int32.ofInt 1) - ((Int32.ofNat h + Int32.ofInt 24) - Int32.ofInt 1) / Int32.ofInt 24 * Int32.ofInt 24 = Int32.ofNat ((h + 23) % 24))) = true := by decide +kernel
theorem hf24_at {h : Nat} (hh : h < 24) : ((Int32.ofNat h + Int32.ofInt 24) - Int32.ofInt 1) - ((Int32.ofNat h + Int32.ofInt 24) - Int32.ofInt 1) / Int32.ofInt 24 * Int32.ofInt 24 = Int32.ofNat ((h + 23) % 24) := of_decide_eq_true (List.all_eq_true.mp hf24 h (List.mem_range.mpr hh))
noncomputable def p_312x (x y : Int32) (σ : zSg) (r : Int32) (σ' : zSg) : Prop := σ' = σ ∧ (y = Int32.ofInt 24 → ∀ t, t < 72 → x = Int32.ofNat t - Int32.ofInt 24 → r = Int32.ofNat (t % 24))
theorem sp_312x_et (a0 : Int32) (a1 : Int32) (σ : zSg) (h1 : (a0 ^^^ a1).toInt ≥ (0 : Int)) :
    p_312x (a0) (a1) σ (a0 - a0 / a1 * a1) σ := by
  refine ⟨rfl, ?_⟩
  rintro rfl t ht rfl
  have q := of_decide_eq_true (List.all_eq_true.mp fm72 t (List.mem_range.mpr ht))
  exact q.1 h1
theorem sp_312x_eft (a0 : Int32) (a1 : Int32) (σ : zSg) (h1 : (a0 ^^^ a1).toInt < (0 : Int)) (h2 : (a0 - a0 / a1 * a1).toInt = (0 : Int)) :
    p_312x (a0) (a1) σ (a0 - a0 / a1 * a1) σ := by
  refine ⟨rfl, ?_⟩
  rintro rfl t ht rfl
  have q := of_decide_eq_true (List.all_eq_true.mp fm72 t (List.mem_range.mpr ht))
  exact q.2.1 h1 h2
theorem sp_312x_eff (a0 : Int32) (a1 : Int32) (σ : zSg) (h1 : (a0 ^^^ a1).toInt < (0 : Int)) (h2 : (a0 - a0 / a1 * a1).toInt ≠ (0 : Int)) :
    p_312x (a0) (a1) σ ((a0 - a0 / a1 * a1) + a1) σ := by
  refine ⟨rfl, ?_⟩
  rintro rfl t ht rfl
  have q := of_decide_eq_true (List.all_eq_true.mp fm72 t (List.mem_range.mpr ht))
  exact q.2.2 h1 h2
noncomputable def qP_312x : zPp := fun as σ o σ' => match as with
  | [a0, a1] => ∃ r, o = .inl (some (.int r)) ∧ p_312x (q_i a0) (q_i a1) σ r σ'
  | _ => True
set_option maxRecDepth 100000 in
theorem sp_312x {sx : zX}  : zEe sx 312 2 qP_312x := by
  refine zfle zJ_312 (sps := []) (fun q hq => absurd hq List.not_mem_nil) (fun as σ hl => ?_)
  match as, hl with
  | [a0, a1], _ =>
  refine ⟨[], 400, ?_, ?_⟩
  · exact fun q hq => absurd hq List.not_mem_nil
  · refine And.intro (fun h1 => ?_) (fun h1 => ?_)
    · exact ⟨_, rfl, sp_312x_et (q_i a0) (q_i a1) σ (cm3t h1)⟩
    · refine And.intro (fun h2 => ?_) (fun h2 => ?_)
      · exact ⟨_, rfl, sp_312x_eft (q_i a0) (q_i a1) σ (cm3f h1) (cm0t h2)⟩
      · exact ⟨_, rfl, sp_312x_eff (q_i a0) (q_i a1) σ (cm3f h1) (cm0f h2)⟩
noncomputable def p_26x (a : Nat) (t : Int32) (σ : zSg) (r : Int32) (σ' : zSg) : Prop := σ' = σ ∧ ∀ H n, hH σ a H → t = Int32.ofNat n - Int32.ofInt 24 → n < 72 → r = H (16 + n % 24)
theorem sp_26x_e (a0 : Nat) (a1 : Int32) (σ : zSg) (τ1 : zSg) (r1 : Int32) (g1 : p_312x a1 (Int32.ofInt (24)) σ r1 τ1) (h2 : 0 ≤ r1.toInt ∧ r1.toInt < (τ1.2.1 (q_r (σ.1 a0 0)) : Int)) :
    p_26x (a0) (a1) σ (q_i (τ1.1 (q_r (σ.1 a0 0)) r1.toNatClampNeg)) τ1 := by
  obtain ⟨rfl, g⟩ := g1
  refine ⟨rfl, ?_⟩
  rintro H n K rfl hn
  have e := g rfl n hn rfl
  have hm : n % 24 < 24 := Nat.mod_lt _ (by omega)
  rw [e, o32n (by omega), K.k hk_0]
  exact K.p (hp_h hm)
noncomputable def qP_26x : zPp := fun as σ o σ' => match as with
  | [a0, a1] => ∃ r, o = .inl (some (.int r)) ∧ p_26x (q_r a0) (q_i a1) σ r σ'
  | _ => True
set_option maxRecDepth 100000 in
theorem sp_26x {sx : zX} (S312 : zEe sx 312 2 qP_312x) : zEe sx 26 2 qP_26x := by
  refine zfle zJ_26 (sps := [(312, 2, qP_312x)]) (fun q hq => by
    simp only [List.mem_cons, List.not_mem_nil, or_false] at hq
    rcases hq with rfl
    · exact S312) (fun as σ hl => ?_)
  match as, hl with
  | [a0, a1], _ =>
  refine ⟨[], 400, ?_, ?_⟩
  · exact fun q hq => absurd hq List.not_mem_nil
  · refine fun o1 τ1 g1 => ?_
    obtain ⟨r1, rfl, g1⟩ := g1
    refine fun h2 => ?_
    exact ⟨_, rfl, sp_26x_e (q_r a0) (q_i a1) σ τ1 r1 g1 (q_inp h2)⟩
theorem p26a {a n : Nat} {t r : Int32} {σ σ' : zSg} {H : Nat → Int32} (g : ∀ H n, hH σ a H → t = Int32.ofNat n - Int32.ofInt 24 → n < 72 → r = H (16 + n % 24)) (K : hH σ a H) (e : t = Int32.ofNat n) (hn : n < 48) : r = H (16 + n % 24) := by
  have := g H (n + 24) K (e.trans (of24_at hn)) (by omega)
  rw [this, Nat.add_mod_right]
theorem p26b {a n : Nat} {t r : Int32} {σ σ' : zSg} {H : Nat → Int32} (g : ∀ H n, hH σ a H → t = Int32.ofNat n - Int32.ofInt 24 → n < 72 → r = H (16 + n % 24)) (K : hH σ a H) (e : t = Int32.ofNat n - Int32.ofInt 1) (hn : n < 24) : r = H (16 + (n + 23) % 24) := g H (n + 23) K (e.trans (of23_at hn)) (by omega)
/-- the hours of one holder, half the length of its row from h on, what has to be bought -/
noncomputable def fPh (A : Nat → Int32) (c : Int32) (h : Nat) : Bool := decide (A (16 + h) = c)
noncomputable def fHf (A : Nat → Int32) (h : Nat) : Int32 := Int32.ofNat (fRw (fPh A (A (16 + h))) h 24) / Int32.ofInt 2
noncomputable def fCg (A : Nat → Int32) (f : Int32) (h : Nat) : Int32 := if A (16 + h) = Int32.ofInt (-1) ∨ A (16 + h) = f ∨ A (16 + (h + 23) % 24) = A (16 + h) then Int32.ofInt 0 else fHf A h
noncomputable def fCs (A : Nat → Int32) (f : Int32) : Nat → Int32
  | 0 => Int32.ofInt 0
  | n + 1 => fCs A f n + fCg A f n
noncomputable def fCz (A : Nat → Int32) (f : Int32) : Int32 := if fCh A 24 = Int32.ofInt 0 then (if A (16 + 0) = Int32.ofInt (-1) ∨ A (16 + 0) = f then Int32.ofInt 0 else Int32.ofInt 12) else fCs A f 24
theorem zJ_82 : zJ3 82 z_m82 z_c82 z_h82 := ⟨rfl, rfl, rfl⟩
noncomputable def p_82 (a : Nat) (t f : Int32) (σ : zSg) (r : Int32) (σ' : zSg) : Prop := σ' = σ ∧ ∀ H n, hH σ a H → t = Int32.ofNat n → n < 24 → r = if H (16 + n) = Int32.ofInt (-1) ∨ H (16 + n) = f then Int32.ofInt 0 else Int32.ofInt 1
theorem sp_82_et (a0 : Nat) (a1 : Int32) (a2 : Int32) (σ : zSg) (τ1 : zSg) (r1 : Int32) (g1 : p_26x a0 a1 σ r1 τ1) (h2 : r1.toInt = (-1 : Int)) :
    p_82 (a0) (a1) (a2) σ (Int32.ofInt (0)) τ1 := by
  obtain ⟨ea1, ga1⟩ := g1
  subst ea1
  refine ⟨rfl, fun H n K e hn => ?_⟩
  have y := p26a (σ' := τ1) ga1 K e (by omega)
  rw [Nat.mod_eq_of_lt hn] at y
  rw [y] at h2
  rw [if_pos (Or.inl (Int32.toInt_inj.mp (h2.trans (show (-1 : Int) = (Int32.ofInt (-1)).toInt from rfl))))]
theorem sp_82_eft (a0 : Nat) (a1 : Int32) (a2 : Int32) (σ : zSg) (τ1 : zSg) (r1 : Int32) (g1 : p_26x a0 a1 σ r1 τ1) (h2 : r1.toInt ≠ (-1 : Int)) (h3 : r1.toInt = a2.toInt) :
    p_82 (a0) (a1) (a2) σ (Int32.ofInt (0)) τ1 := by
  obtain ⟨ea1, ga1⟩ := g1
  subst ea1
  refine ⟨rfl, fun H n K e hn => ?_⟩
  have y := p26a (σ' := τ1) ga1 K e (by omega)
  rw [Nat.mod_eq_of_lt hn] at y
  rw [y] at h3
  rw [if_pos (Or.inr (Int32.toInt_inj.mp h3))]
theorem sp_82_eff (a0 : Nat) (a1 : Int32) (a2 : Int32) (σ : zSg) (τ1 : zSg) (r1 : Int32) (g1 : p_26x a0 a1 σ r1 τ1) (h2 : r1.toInt ≠ (-1 : Int)) (h3 : r1.toInt ≠ a2.toInt) :
    p_82 (a0) (a1) (a2) σ (Int32.ofInt (1)) τ1 := by
  obtain ⟨ea1, ga1⟩ := g1
  subst ea1
  refine ⟨rfl, fun H n K e hn => ?_⟩
  have y := p26a (σ' := τ1) ga1 K e (by omega)
  rw [Nat.mod_eq_of_lt hn] at y
  rw [y] at h2 h3
  rw [if_neg (fun q => by
    rcases q with q | q
    · exact h2 (by rw [q]; rfl)
    · exact h3 (by rw [q]))]
noncomputable def qP_82 : zPp := fun as σ o σ' => match as with
  | [a0, a1, a2] => ∃ r, o = .inl (some (.int r)) ∧ p_82 (q_r a0) (q_i a1) (q_i a2) σ r σ'
  | _ => True
set_option maxRecDepth 100000 in
theorem sp_82 {sx : zX} (S26 : zEe sx 26 2 qP_26x) : zEe sx 82 3 qP_82 := by
  refine zfle zJ_82 (sps := [(26, 2, qP_26x)]) (fun q hq => by
    simp only [List.mem_cons, List.not_mem_nil, or_false] at hq
    rcases hq with rfl
    · exact S26) (fun as σ hl => ?_)
  match as, hl with
  | [a0, a1, a2], _ =>
  refine ⟨[], 400, ?_, ?_⟩
  · exact fun q hq => absurd hq List.not_mem_nil
  · refine fun o1 τ1 g1 => ?_
    obtain ⟨r1, rfl, g1⟩ := g1
    refine And.intro (fun h2 => ?_) (fun h2 => ?_)
    · exact ⟨_, rfl, sp_82_et (q_r a0) (q_i a1) (q_i a2) σ τ1 r1 g1 (cm0t h2)⟩
    · refine And.intro (fun h3 => ?_) (fun h3 => ?_)
      · exact ⟨_, rfl, sp_82_eft (q_r a0) (q_i a1) (q_i a2) σ τ1 r1 g1 (cm0f h2) (cm0t h3)⟩
      · exact ⟨_, rfl, sp_82_eff (q_r a0) (q_i a1) (q_i a2) σ τ1 r1 g1 (cm0f h2) (cm0f h3)⟩
theorem zJ_83 : zJ3 83 z_m83 z_c83 z_h83 := ⟨rfl, rfl, rfl⟩
noncomputable def p_83 (a : Nat) (h : Int32) (σ : zSg) (r : Int32) (σ' : zSg) : Prop := σ' = σ ∧ ∀ H k, hH σ a H → h = Int32.ofNat k → k < 24 → r = Int32.ofNat (fRw (fPh H (H (16 + k))) k 24)
noncomputable def i_83 (a : Nat) (h : Int32) (σ : zSg) (l0 : Nat) (l1 l2 : Int32) (τ : zSg) : Prop := l0 = a ∧ l1 = h ∧ τ = σ ∧ ∃ n, 1 ≤ n ∧ n ≤ 24 ∧ l2 = Int32.ofNat n ∧ ∀ H k, hH σ a H → h = Int32.ofNat k → k < 24 → fRu (fPh H (H (16 + k))) k n = true
theorem sp_83_e (a0 : Nat) (a1 : Int32) (σ : zSg)  :
    i_83 a0 a1 σ a0 a1 (Int32.ofInt (1)) σ := by
  refine ⟨rfl, rfl, rfl, 1, Nat.le_refl _, by omega, rfl, fun H k K e hk => ?_⟩
  show (true && fPh H (H (16 + k)) ((k + 0) % 24)) = true
  rw [Nat.add_zero, Nat.mod_eq_of_lt hk, Bool.true_and]
  exact decide_eq_true rfl
theorem sp_83_c2_t (a0 : Nat) (a1 : Int32) (σ : zSg) (l0 : Nat) (l1 : Int32) (l2 : Int32) (τ : zSg) (hI : i_83 a0 a1 σ l0 l1 l2 τ) (h1 : l2.toInt ≥ (24 : Int)) :
    p_83 (a0) (a1) σ l2 τ := by
  obtain ⟨rfl, rfl, rfl, n, yh1, yh2, rfl, hI⟩ := hI
  rw [o32 (by omega)] at h1
  have : n = 24 := by omega
  subst this
  exact ⟨rfl, fun H k K e hk => by rw [fRw_eq yh2 (hI H k K e hk) (Or.inl rfl)]⟩
theorem sp_83_c2_ft (a0 : Nat) (a1 : Int32) (σ : zSg) (l0 : Nat) (l1 : Int32) (l2 : Int32) (τ : zSg) (τ2 : zSg) (r2 : Int32) (τ3 : zSg) (r3 : Int32) (hI : i_83 a0 a1 σ l0 l1 l2 τ) (h1 : l2.toInt < (24 : Int)) (g2 : p_26x l0 (l1 + l2) τ r2 τ2) (g3 : p_26x l0 l1 τ2 r3 τ3) (h4 : r2.toInt ≠ r3.toInt) :
    p_83 (a0) (a1) σ l2 τ3 := by
  obtain ⟨ea1, ga1⟩ := g2
  subst ea1
  obtain ⟨ea2, ga2⟩ := g3
  subst ea2
  obtain ⟨rfl, rfl, rfl, n, yh1, yh2, rfl, hI⟩ := hI
  rw [o32 (by omega)] at h1
  refine ⟨rfl, fun H k K e hk => ?_⟩
  subst e
  have u := hI H k K rfl hk
  have y1 := p26a (σ' := τ3) ga1 K (o32a (by omega)) (by omega)
  have y2 := p26a (σ' := τ3) ga2 K rfl (by omega)
  rw [Nat.mod_eq_of_lt hk] at y2
  rw [y1, y2] at h4
  rw [fRw_eq (by omega) u (Or.inr ?_)]
  show (fRu (fPh H (H (16 + k))) k n && fPh H (H (16 + k)) ((k + n) % 24)) = false
  rw [show fPh H (H (16 + k)) ((k + n) % 24) = false from decide_eq_false (fun q => h4 (by rw [q])), Bool.and_false]
theorem sp_83_c2_ff (a0 : Nat) (a1 : Int32) (σ : zSg) (l0 : Nat) (l1 : Int32) (l2 : Int32) (τ : zSg) (τ2 : zSg) (r2 : Int32) (τ3 : zSg) (r3 : Int32) (hI : i_83 a0 a1 σ l0 l1 l2 τ) (h1 : l2.toInt < (24 : Int)) (g2 : p_26x l0 (l1 + l2) τ r2 τ2) (g3 : p_26x l0 l1 τ2 r3 τ3) (h4 : r2.toInt = r3.toInt) :
    i_83 a0 a1 σ l0 l1 (l2 + Int32.ofInt (1)) τ3 := by
  obtain ⟨ea1, ga1⟩ := g2
  subst ea1
  obtain ⟨ea2, ga2⟩ := g3
  subst ea2
  obtain ⟨rfl, rfl, rfl, n, yh1, yh2, rfl, hI⟩ := hI
  rw [o32 (by omega)] at h1
  refine ⟨rfl, rfl, rfl, n + 1, by omega, by omega, o32i (by omega), fun H k K e hk => ?_⟩
  subst e
  have u := hI H k K rfl hk
  have y1 := p26a (σ' := τ3) ga1 K (o32a (by omega)) (by omega)
  have y2 := p26a (σ' := τ3) ga2 K rfl (by omega)
  rw [Nat.mod_eq_of_lt hk] at y2
  rw [y1, y2] at h4
  show (fRu (fPh H (H (16 + k))) k n && fPh H (H (16 + k)) ((k + n) % 24)) = true
  rw [u, show fPh H (H (16 + k)) ((k + n) % 24) = true from decide_eq_true (Int32.toInt_inj.mp h4)]
  rfl
noncomputable def qP_83 : zPp := fun as σ o σ' => match as with
  | [a0, a1] => ∃ r, o = .inl (some (.int r)) ∧ p_83 (q_r a0) (q_i a1) σ r σ'
  | _ => True
set_option maxRecDepth 100000 in
theorem sp_83 {sx : zX} (S26 : zEe sx 26 2 qP_26x) : zEe sx 83 2 qP_83 := by
  refine zfle zJ_83 (sps := [(26, 2, qP_26x)]) (fun q hq => by
    simp only [List.mem_cons, List.not_mem_nil, or_false] at hq
    rcases hq with rfl
    · exact S26) (fun as σ hl => ?_)
  match as, hl with
  | [a0, a1], _ =>
  refine ⟨[(2, fun lo st τ => st = [] ∧ i_83 (q_r a0) (q_i a1) σ (q_r (lo 0)) (q_i (lo 1)) (q_i (lo 2)) τ)], 400, ?_, ?_⟩
  · intro q hq
    simp only [List.mem_cons, List.not_mem_nil, or_false] at hq
    rcases hq with rfl
    · rintro lo st τ ⟨rfl, hI⟩
      refine ⟨400, ?_⟩
      refine And.intro (fun h1 => ?_) (fun h1 => ?_)
      · exact ⟨_, rfl, sp_83_c2_t (q_r a0) (q_i a1) σ (q_r (lo 0)) (q_i (lo 1)) (q_i (lo 2)) τ hI (cm3t h1)⟩
      · refine fun o2 τ2 g2 => ?_
        obtain ⟨r2, rfl, g2⟩ := g2
        refine fun o3 τ3 g3 => ?_
        obtain ⟨r3, rfl, g3⟩ := g3
        refine And.intro (fun h4 => ?_) (fun h4 => ?_)
        · exact ⟨_, rfl, sp_83_c2_ft (q_r a0) (q_i a1) σ (q_r (lo 0)) (q_i (lo 1)) (q_i (lo 2)) τ τ2 r2 τ3 r3 hI (cm3f h1) g2 g3 (cm1t h4)⟩
        · exact ⟨rfl, sp_83_c2_ff (q_r a0) (q_i a1) σ (q_r (lo 0)) (q_i (lo 1)) (q_i (lo 2)) τ τ2 r2 τ3 r3 hI (cm3f h1) g2 g3 (cm1f h4)⟩
  · exact ⟨rfl, sp_83_e (q_r a0) (q_i a1) σ ⟩
theorem zJ_81 : zJ3 81 z_m81 z_c81 z_h81 := ⟨rfl, rfl, rfl⟩
noncomputable def p_81 (b : Nat) (f : Int32) (σ : zSg) (r : Int32) (σ' : zSg) : Prop := σ' = σ ∧ ∀ A, hH σ b A → r = fCz A f
noncomputable def i_81 (b : Nat) (f : Int32) (σ : zSg) (l0 : Nat) (l1 l2 l3 : Int32) (τ : zSg) : Prop := l0 = b ∧ l1 = f ∧ τ = σ ∧ ∃ n, n ≤ 24 ∧ l3 = Int32.ofNat n ∧ (∀ A, hH σ b A → fCh A 24 ≠ Int32.ofInt 0) ∧ ∀ A, hH σ b A → l2 = fCs A f n
theorem sp_81_et (a0 : Nat) (a1 : Int32) (σ : zSg) (τ1 : zSg) (r1 : Int32) (g1 : p_69 a0 σ r1 τ1) (h2 : r1.toInt ≠ (0 : Int)) :
    i_81 a0 a1 σ a0 a1 (Int32.ofInt (0)) (Int32.ofInt (0)) τ1 := by
  obtain ⟨ea1, ga1⟩ := g1
  subst ea1
  exact ⟨rfl, rfl, rfl, 0, by omega, rfl, fun A K q => h2 (by rw [ga1 A K, q]; rfl), fun A K => rfl⟩
theorem sp_81_eft (a0 : Nat) (a1 : Int32) (σ : zSg) (τ1 : zSg) (r1 : Int32) (τ3 : zSg) (r3 : Int32) (g1 : p_69 a0 σ r1 τ1) (h2 : r1.toInt = (0 : Int)) (g3 : p_82 a0 (Int32.ofInt (0)) a1 τ1 r3 τ3) (h4 : r3.toInt = (0 : Int)) :
    p_81 (a0) (a1) σ (Int32.ofInt (0)) τ3 := by
  obtain ⟨ea1, ga1⟩ := g1
  subst ea1
  obtain ⟨ea2, ga2⟩ := g3
  subst ea2
  refine ⟨rfl, fun A K => ?_⟩
  have y1 := ga1 A K
  have y2 := ga2 A 0 K rfl (by omega)
  rw [y1] at h2
  unfold fCz
  rw [if_pos (Int32.toInt_inj.mp (h2.trans (show (0 : Int) = (Int32.ofInt 0).toInt from rfl)))]
  by_cases q : A (16 + 0) = Int32.ofInt (-1) ∨ A (16 + 0) = a1
  · rw [if_pos q]
  · rw [y2, if_neg q] at h4
    exact absurd h4 (by decide)
theorem sp_81_eff (a0 : Nat) (a1 : Int32) (σ : zSg) (τ1 : zSg) (r1 : Int32) (τ3 : zSg) (r3 : Int32) (g1 : p_69 a0 σ r1 τ1) (h2 : r1.toInt = (0 : Int)) (g3 : p_82 a0 (Int32.ofInt (0)) a1 τ1 r3 τ3) (h4 : r3.toInt ≠ (0 : Int)) :
    p_81 (a0) (a1) σ (Int32.ofInt (12)) τ3 := by
  obtain ⟨ea1, ga1⟩ := g1
  subst ea1
  obtain ⟨ea2, ga2⟩ := g3
  subst ea2
  refine ⟨rfl, fun A K => ?_⟩
  have y1 := ga1 A K
  have y2 := ga2 A 0 K rfl (by omega)
  rw [y1] at h2
  unfold fCz
  rw [if_pos (Int32.toInt_inj.mp (h2.trans (show (0 : Int) = (Int32.ofInt 0).toInt from rfl)))]
  by_cases q : A (16 + 0) = Int32.ofInt (-1) ∨ A (16 + 0) = a1
  · rw [y2, if_pos q] at h4
    exact absurd rfl h4
  · rw [if_neg q]
theorem sp_81_c16_t (a0 : Nat) (a1 : Int32) (σ : zSg) (l0 : Nat) (l1 : Int32) (l2 : Int32) (l3 : Int32) (τ : zSg) (hI : i_81 a0 a1 σ l0 l1 l2 l3 τ) (h5 : l3.toInt ≥ (24 : Int)) :
    p_81 (a0) (a1) σ l2 τ := by
  obtain ⟨rfl, rfl, rfl, n, hn, rfl, n0, hI⟩ := hI
  rw [o32 (by omega)] at h5
  have : n = 24 := by omega
  subst this
  refine ⟨rfl, fun A K => ?_⟩
  unfold fCz
  rw [if_neg (n0 A K), hI A K]
theorem sp_81_c16_ft (a0 : Nat) (a1 : Int32) (σ : zSg) (l0 : Nat) (l1 : Int32) (l2 : Int32) (l3 : Int32) (τ : zSg) (τ6 : zSg) (r6 : Int32) (hI : i_81 a0 a1 σ l0 l1 l2 l3 τ) (h5 : l3.toInt < (24 : Int)) (g6 : p_82 l0 l3 l1 τ r6 τ6) (h7 : r6.toInt = (0 : Int)) :
    i_81 a0 a1 σ l0 l1 l2 (l3 + Int32.ofInt (1)) τ6 := by
  obtain ⟨ea1, ga1⟩ := g6
  subst ea1
  obtain ⟨rfl, rfl, rfl, n, hn, rfl, n0, hI⟩ := hI
  rw [o32 (by omega)] at h5
  refine ⟨rfl, rfl, rfl, n + 1, by omega, o32i (by omega), n0, fun A K => ?_⟩
  show _ = fCs A l1 n + fCg A l1 n
  have y1 := ga1 A n K rfl (by omega)
  have q : A (16 + n) = Int32.ofInt (-1) ∨ A (16 + n) = l1 := Decidable.byContradiction (fun q => by
    rw [y1, if_neg q] at h7
    exact absurd h7 (by decide))
  unfold fCg
  rw [if_pos (q.elim Or.inl (fun q => Or.inr (Or.inl q))), hI A K]
  exact (Int32.add_zero _).symm
theorem sp_81_c16_fft (a0 : Nat) (a1 : Int32) (σ : zSg) (l0 : Nat) (l1 : Int32) (l2 : Int32) (l3 : Int32) (τ : zSg) (τ6 : zSg) (r6 : Int32) (τ8 : zSg) (r8 : Int32) (τ9 : zSg) (r9 : Int32) (hI : i_81 a0 a1 σ l0 l1 l2 l3 τ) (h5 : l3.toInt < (24 : Int)) (g6 : p_82 l0 l3 l1 τ r6 τ6) (h7 : r6.toInt ≠ (0 : Int)) (g8 : p_26x l0 (l3 - (Int32.ofInt (1))) τ6 r8 τ8) (g9 : p_26x l0 l3 τ8 r9 τ9) (h10 : r8.toInt = r9.toInt) :
    i_81 a0 a1 σ l0 l1 l2 (l3 + Int32.ofInt (1)) τ9 := by
  obtain ⟨ea1, ga1⟩ := g6
  subst ea1
  obtain ⟨ea2, ga2⟩ := g8
  subst ea2
  obtain ⟨ea3, ga3⟩ := g9
  subst ea3
  obtain ⟨rfl, rfl, rfl, n, hn, rfl, n0, hI⟩ := hI
  rw [o32 (by omega)] at h5
  refine ⟨rfl, rfl, rfl, n + 1, by omega, o32i (by omega), n0, fun A K => ?_⟩
  show _ = fCs A l1 n + fCg A l1 n
  have y1 := ga1 A n K rfl (by omega)
  have y2 := p26b (σ' := τ9) ga2 K rfl (by omega)
  have y3 := p26a (σ' := τ9) ga3 K rfl (by omega)
  rw [Nat.mod_eq_of_lt (show n < 24 by omega)] at y3
  rw [y2, y3] at h10
  unfold fCg
  rw [if_pos (Or.inr (Or.inr (Int32.toInt_inj.mp h10))), hI A K]
  exact (Int32.add_zero _).symm
theorem sp_81_c16_fff (a0 : Nat) (a1 : Int32) (σ : zSg) (l0 : Nat) (l1 : Int32) (l2 : Int32) (l3 : Int32) (τ : zSg) (τ6 : zSg) (r6 : Int32) (τ8 : zSg) (r8 : Int32) (τ9 : zSg) (r9 : Int32) (τ11 : zSg) (r11 : Int32) (hI : i_81 a0 a1 σ l0 l1 l2 l3 τ) (h5 : l3.toInt < (24 : Int)) (g6 : p_82 l0 l3 l1 τ r6 τ6) (h7 : r6.toInt ≠ (0 : Int)) (g8 : p_26x l0 (l3 - (Int32.ofInt (1))) τ6 r8 τ8) (g9 : p_26x l0 l3 τ8 r9 τ9) (h10 : r8.toInt ≠ r9.toInt) (g11 : p_83 l0 l3 τ9 r11 τ11) :
    i_81 a0 a1 σ l0 l1 (l2 + (r11 / (Int32.ofInt (2)))) (l3 + Int32.ofInt (1)) τ11 := by
  obtain ⟨ea1, ga1⟩ := g6
  subst ea1
  obtain ⟨ea2, ga2⟩ := g8
  subst ea2
  obtain ⟨ea3, ga3⟩ := g9
  subst ea3
  obtain ⟨ea4, ga4⟩ := g11
  subst ea4
  obtain ⟨rfl, rfl, rfl, n, hn, rfl, n0, hI⟩ := hI
  rw [o32 (by omega)] at h5
  refine ⟨rfl, rfl, rfl, n + 1, by omega, o32i (by omega), n0, fun A K => ?_⟩
  show _ = fCs A l1 n + fCg A l1 n
  have y1 := ga1 A n K rfl (by omega)
  have y2 := p26b (σ' := τ11) ga2 K rfl (by omega)
  have y3 := p26a (σ' := τ11) ga3 K rfl (by omega)
  rw [Nat.mod_eq_of_lt (show n < 24 by omega)] at y3
  rw [y2, y3] at h10
  have q : ¬ (A (16 + n) = Int32.ofInt (-1) ∨ A (16 + n) = l1) := fun q => by
    rw [y1, if_pos q] at h7
    exact absurd rfl h7
  unfold fCg
  rw [if_neg (fun z => by
    rcases z with z | z | z
    · exact q (Or.inl z)
    · exact q (Or.inr z)
    · exact h10 (by rw [z])), hI A K, ga4 A n K rfl (by omega)]
  rfl
noncomputable def qP_81 : zPp := fun as σ o σ' => match as with
  | [a0, a1] => ∃ r, o = .inl (some (.int r)) ∧ p_81 (q_r a0) (q_i a1) σ r σ'
  | _ => True
set_option maxRecDepth 100000 in
theorem sp_81 {sx : zX} (S69 : zEe sx 69 1 qP_69) (S82 : zEe sx 82 3 qP_82) (S26 : zEe sx 26 2 qP_26x) (S83 : zEe sx 83 2 qP_83) : zEe sx 81 2 qP_81 := by
  refine zfle zJ_81 (sps := [(69, 1, qP_69), (82, 3, qP_82), (26, 2, qP_26x), (83, 2, qP_83)]) (fun q hq => by
    simp only [List.mem_cons, List.not_mem_nil, or_false] at hq
    rcases hq with rfl | rfl | rfl | rfl
    · exact S69
    · exact S82
    · exact S26
    · exact S83) (fun as σ hl => ?_)
  match as, hl with
  | [a0, a1], _ =>
  refine ⟨[(16, fun lo st τ => st = [] ∧ i_81 (q_r a0) (q_i a1) σ (q_r (lo 0)) (q_i (lo 1)) (q_i (lo 2)) (q_i (lo 3)) τ)], 400, ?_, ?_⟩
  · intro q hq
    simp only [List.mem_cons, List.not_mem_nil, or_false] at hq
    rcases hq with rfl
    · rintro lo st τ ⟨rfl, hI⟩
      refine ⟨400, ?_⟩
      refine And.intro (fun h5 => ?_) (fun h5 => ?_)
      · exact ⟨_, rfl, sp_81_c16_t (q_r a0) (q_i a1) σ (q_r (lo 0)) (q_i (lo 1)) (q_i (lo 2)) (q_i (lo 3)) τ hI (cm3t h5)⟩
      · refine fun o6 τ6 g6 => ?_
        obtain ⟨r6, rfl, g6⟩ := g6
        refine And.intro (fun h7 => ?_) (fun h7 => ?_)
        · exact ⟨rfl, sp_81_c16_ft (q_r a0) (q_i a1) σ (q_r (lo 0)) (q_i (lo 1)) (q_i (lo 2)) (q_i (lo 3)) τ τ6 r6 hI (cm3f h5) g6 (cm0t h7)⟩
        · refine fun o8 τ8 g8 => ?_
          obtain ⟨r8, rfl, g8⟩ := g8
          refine fun o9 τ9 g9 => ?_
          obtain ⟨r9, rfl, g9⟩ := g9
          refine And.intro (fun h10 => ?_) (fun h10 => ?_)
          · exact ⟨rfl, sp_81_c16_fft (q_r a0) (q_i a1) σ (q_r (lo 0)) (q_i (lo 1)) (q_i (lo 2)) (q_i (lo 3)) τ τ6 r6 τ8 r8 τ9 r9 hI (cm3f h5) g6 (cm0f h7) g8 g9 (cm0t h10)⟩
          · refine fun o11 τ11 g11 => ?_
            obtain ⟨r11, rfl, g11⟩ := g11
            exact ⟨rfl, sp_81_c16_fff (q_r a0) (q_i a1) σ (q_r (lo 0)) (q_i (lo 1)) (q_i (lo 2)) (q_i (lo 3)) τ τ6 r6 τ8 r8 τ9 r9 τ11 r11 hI (cm3f h5) g6 (cm0f h7) g8 g9 (cm0f h10) g11⟩
  · refine fun o1 τ1 g1 => ?_
    obtain ⟨r1, rfl, g1⟩ := g1
    refine And.intro (fun h2 => ?_) (fun h2 => ?_)
    · exact ⟨rfl, sp_81_et (q_r a0) (q_i a1) σ τ1 r1 g1 (cm1t h2)⟩
    · refine fun o3 τ3 g3 => ?_
      obtain ⟨r3, rfl, g3⟩ := g3
      refine And.intro (fun h4 => ?_) (fun h4 => ?_)
      · exact ⟨_, rfl, sp_81_eft (q_r a0) (q_i a1) σ τ1 r1 τ3 r3 g1 (cm1f h2) g3 (cm0t h4)⟩
      · exact ⟨_, rfl, sp_81_eff (q_r a0) (q_i a1) σ τ1 r1 τ3 r3 g1 (cm1f h2) g3 (cm0f h4)⟩
theorem zJ_144 : zJ3 144 z_m144 z_c144 z_h144 := ⟨rfl, rfl, rfl⟩
noncomputable def p_144 (a : Nat) (f : Int32) (σ : zSg) (e : Int32 ⊕ Nat) (σ' : zSg) : Prop := a = 0 → ∀ A nf nt, xSk σ → hH σ 8 A → aI nf nt A → σ' = σ ∧ (¬ (0 ≤ f.toInt ∧ f.toInt < (nf : Int)) → e = .inr 2) ∧ ((0 ≤ f.toInt ∧ f.toInt < (nf : Int)) → e = .inl (fCz A f))
theorem sp_144_en (a0 : Nat) (a1 : Int32) (σ : zSg) (τ1 : zSg) (τ2 : zSg) (r2 : Int32) (g1 : p_167 a0 a1 σ (.inl 0) τ1) (g2 : p_81 (q_r (τ1.1 a0 2)) a1 τ1 r2 τ2) :
    p_144 (a0) (a1) σ (.inl r2) τ2 := by
  rintro rfl A nf nt K H I
  obtain ⟨rfl, u⟩ := g1
  have uu := (u rfl K A nf H I.1.1 I.1.2.1).1 rfl
  have d2 : q_r (τ1.1 0 2) = 8 := by rw [K.2.1]; rfl
  rw [d2] at g2
  obtain ⟨rfl, g2⟩ := g2
  exact ⟨rfl, fun q => absurd uu q, fun _ => congrArg Sum.inl (g2 A H)⟩
theorem sp_144_ex2_ (a0 : Nat) (a1 : Int32) (σ : zSg) (τ1 : zSg) (g1 : p_167 a0 a1 σ (.inr 2) τ1) :
    p_144 (a0) (a1) σ (.inr 2) τ1 := by
  rintro rfl A nf nt K H I
  obtain ⟨rfl, u⟩ := g1
  have u := (u rfl K A nf H I.1.1 I.1.2.1).2 rfl
  exact ⟨rfl, fun _ => rfl, fun q => absurd q u⟩
noncomputable def qP_144 : zPp := fun as σ o σ' => match as with
  | [a0, a1] => (∃ r, o = .inl (some (.int r)) ∧ p_144 (q_r a0) (q_i a1) σ (.inl r) σ') ∨ (o = .inr 2 ∧ p_144 (q_r a0) (q_i a1) σ (.inr 2) σ')
  | _ => True
set_option maxRecDepth 100000 in
theorem sp_144 {sx : zX} (S167 : zEe sx 167 2 qP_167) (S81 : zEe sx 81 2 qP_81) : zEe sx 144 2 qP_144 := by
  refine zfle zJ_144 (sps := [(167, 2, qP_167), (81, 2, qP_81)]) (fun q hq => by
    simp only [List.mem_cons, List.not_mem_nil, or_false] at hq
    rcases hq with rfl | rfl
    · exact S167
    · exact S81) (fun as σ hl => ?_)
  match as, hl with
  | [a0, a1], _ =>
  refine ⟨[], 400, ?_, ?_⟩
  · exact fun q hq => absurd hq List.not_mem_nil
  · refine fun o1 τ1 g1 => ?_
    rcases g1 with ⟨rfl, g1⟩ | ⟨rfl, g1⟩
    · refine fun o2 τ2 g2 => ?_
      obtain ⟨r2, rfl, g2⟩ := g2
      exact Or.inl ⟨_, rfl, sp_144_en (q_r a0) (q_i a1) σ τ1 τ2 r2 g1 g2⟩
    · exact Or.inr (⟨rfl, sp_144_ex2_ (q_r a0) (q_i a1) σ τ1 g1⟩)
/-- the parts of a set of hours -/
noncomputable def fPg (P : Nat → Bool) (h : Nat) : Int32 := if P h = true ∧ P ((h + 23) % 24) = false then Int32.ofNat (fRw P h 24) / Int32.ofInt 2 else Int32.ofInt 0
noncomputable def fPs (P : Nat → Bool) : Nat → Int32
  | 0 => Int32.ofInt 0
  | n + 1 => fPs P n + fPg P n
noncomputable def fPt (P : Nat → Bool) : Int32 := if fB P 24 = Int32.ofInt 16777215 then Int32.ofInt 12 else fPs P 24
noncomputable def fPo (A : Nat → Int32) (f : Int32) : Nat → Int32
  | 0 => Int32.ofInt 0
  | n + 1 => fPo A f n + (if Int32.ofNat n = f then Int32.ofInt 0 else fPt (fPh A (Int32.ofNat n)))
theorem zJ_282 : zJ3 282 z_m282 z_c282 z_h282 := ⟨rfl, rfl, rfl⟩
noncomputable def p_282 (x : Int32) (σ : zSg) (r : Int32) (σ' : zSg) : Prop := σ' = σ ∧ ∀ P, x = fB P 24 → r = fPt P
noncomputable def i_282 (x : Int32) (σ : zSg) (l0 l1 l2 : Int32) (τ : zSg) : Prop := l0 = x ∧ τ = σ ∧ ∃ n, n ≤ 24 ∧ l2 = Int32.ofNat n ∧ ∀ P, x = fB P 24 → fB P 24 ≠ Int32.ofInt 16777215 ∧ l1 = fPs P n
theorem sp_282_et (a0 : Int32) (σ : zSg) (h1 : a0.toInt ≠ (16777215 : Int)) :
    i_282 a0 σ a0 (Int32.ofInt (0)) (Int32.ofInt (0)) σ := by
  exact ⟨rfl, rfl, 0, by omega, rfl, fun P e => ⟨fun q => h1 (by rw [e, q]; rfl), rfl⟩⟩
theorem sp_282_ef (a0 : Int32) (σ : zSg) (h1 : a0.toInt = (16777215 : Int)) :
    p_282 (a0) σ (Int32.ofInt (12)) σ := by
  refine ⟨rfl, fun P e => ?_⟩
  unfold fPt
  rw [if_pos (by rw [← e]; exact Int32.toInt_inj.mp (h1.trans (show (16777215 : Int) = (Int32.ofInt 16777215).toInt from rfl)))]
theorem sp_282_c9_t (a0 : Int32) (σ : zSg) (l0 : Int32) (l1 : Int32) (l2 : Int32) (τ : zSg) (hI : i_282 a0 σ l0 l1 l2 τ) (h2 : l2.toInt ≥ (24 : Int)) :
    p_282 (a0) σ l1 τ := by
  obtain ⟨rfl, rfl, n, hn, rfl, hI⟩ := hI
  rw [o32 (by omega)] at h2
  have : n = 24 := by omega
  subst this
  refine ⟨rfl, fun P e => ?_⟩
  obtain ⟨n0, e1⟩ := hI P e
  unfold fPt
  rw [if_neg n0, e1]
theorem sp_282_c9_ft (a0 : Int32) (σ : zSg) (l0 : Int32) (l1 : Int32) (l2 : Int32) (τ : zSg) (τ3 : zSg) (r3 : Int32) (hI : i_282 a0 σ l0 l1 l2 τ) (h2 : l2.toInt < (24 : Int)) (g3 : p_178 l0 l2 τ r3 τ3) (h4 : r3.toInt = (0 : Int)) :
    i_282 a0 σ l0 (l1 + (Int32.ofInt (0))) (l2 + Int32.ofInt (1)) τ3 := by
  obtain ⟨ea1, ga1⟩ := g3
  subst ea1
  obtain ⟨rfl, rfl, n, hn, rfl, hI⟩ := hI
  rw [o32 (by omega)] at h2
  refine ⟨rfl, rfl, n + 1, by omega, o32i (by omega), fun P e => ?_⟩
  obtain ⟨n0, e1⟩ := hI P e
  refine ⟨n0, ?_⟩
  show _ = fPs P n + fPg P n
  have y1 : btb l0 (Int32.ofNat n) = P n := by rw [e, btb_at _ (by omega), fB_bit (by omega) 24 (by omega), decide_eq_true (by omega), Bool.true_and]
  rw [ga1, y1] at h4
  unfold fPg
  rw [if_neg (fun q => by rw [q.1] at h4; exact absurd h4 (by decide)), e1]
theorem sp_282_c9_fft (a0 : Int32) (σ : zSg) (l0 : Int32) (l1 : Int32) (l2 : Int32) (τ : zSg) (τ3 : zSg) (r3 : Int32) (τ5 : zSg) (r5 : Int32) (hI : i_282 a0 σ l0 l1 l2 τ) (h2 : l2.toInt < (24 : Int)) (g3 : p_178 l0 l2 τ r3 τ3) (h4 : r3.toInt ≠ (0 : Int)) (g5 : p_178 l0 (((l2 + (Int32.ofInt (24))) - (Int32.ofInt (1))) - ((l2 + (Int32.ofInt (24))) - (Int32.ofInt (1))) / (Int32.ofInt (24)) * (Int32.ofInt (24))) τ3 r5 τ5) (h6 : r5.toInt ≠ (0 : Int)) :
    i_282 a0 σ l0 (l1 + (Int32.ofInt (0))) (l2 + Int32.ofInt (1)) τ5 := by
  obtain ⟨ea1, ga1⟩ := g3
  subst ea1
  obtain ⟨ea2, ga2⟩ := g5
  subst ea2
  obtain ⟨rfl, rfl, n, hn, rfl, hI⟩ := hI
  rw [o32 (by omega)] at h2
  refine ⟨rfl, rfl, n + 1, by omega, o32i (by omega), fun P e => ?_⟩
  obtain ⟨n0, e1⟩ := hI P e
  refine ⟨n0, ?_⟩
  show _ = fPs P n + fPg P n
  have y1 : btb l0 (Int32.ofNat n) = P n := by rw [e, btb_at _ (by omega), fB_bit (by omega) 24 (by omega), decide_eq_true (by omega), Bool.true_and]
  have y2 : btb l0 (((Int32.ofNat n + Int32.ofInt 24) - Int32.ofInt 1) - ((Int32.ofNat n + Int32.ofInt 24) - Int32.ofInt 1) / Int32.ofInt 24 * Int32.ofInt 24) = P ((n + 23) % 24) := by
    have hm : (n + 23) % 24 < 24 := Nat.mod_lt _ (by omega)
    rw [hf24_at (by omega), e, btb_at _ (by omega), fB_bit (by omega) 24 (by omega), decide_eq_true hm, Bool.true_and]
  rw [ga1, y1] at h4
  rw [ga2, y2] at h6
  have b1 : P n = true := by
    cases q : P n
    · rw [q] at h4; exact absurd rfl h4
    · rfl
  unfold fPg
  rw [if_neg (fun q => by rw [q.2] at h6; exact absurd rfl h6), e1]
theorem sp_282_c9_fff (a0 : Int32) (σ : zSg) (l0 : Int32) (l1 : Int32) (l2 : Int32) (τ : zSg) (τ3 : zSg) (r3 : Int32) (τ5 : zSg) (r5 : Int32) (τ7 : zSg) (r7 : Int32) (hI : i_282 a0 σ l0 l1 l2 τ) (h2 : l2.toInt < (24 : Int)) (g3 : p_178 l0 l2 τ r3 τ3) (h4 : r3.toInt ≠ (0 : Int)) (g5 : p_178 l0 (((l2 + (Int32.ofInt (24))) - (Int32.ofInt (1))) - ((l2 + (Int32.ofInt (24))) - (Int32.ofInt (1))) / (Int32.ofInt (24)) * (Int32.ofInt (24))) τ3 r5 τ5) (h6 : r5.toInt = (0 : Int)) (g7 : p_245 l0 l2 τ5 r7 τ7) :
    i_282 a0 σ l0 (l1 + (r7 / (Int32.ofInt (2)))) (l2 + Int32.ofInt (1)) τ7 := by
  obtain ⟨ea1, ga1⟩ := g3
  subst ea1
  obtain ⟨ea2, ga2⟩ := g5
  subst ea2
  obtain ⟨ea3, ga3⟩ := g7
  subst ea3
  obtain ⟨rfl, rfl, n, hn, rfl, hI⟩ := hI
  rw [o32 (by omega)] at h2
  refine ⟨rfl, rfl, n + 1, by omega, o32i (by omega), fun P e => ?_⟩
  obtain ⟨n0, e1⟩ := hI P e
  refine ⟨n0, ?_⟩
  show _ = fPs P n + fPg P n
  have y1 : btb l0 (Int32.ofNat n) = P n := by rw [e, btb_at _ (by omega), fB_bit (by omega) 24 (by omega), decide_eq_true (by omega), Bool.true_and]
  have y2 : btb l0 (((Int32.ofNat n + Int32.ofInt 24) - Int32.ofInt 1) - ((Int32.ofNat n + Int32.ofInt 24) - Int32.ofInt 1) / Int32.ofInt 24 * Int32.ofInt 24) = P ((n + 23) % 24) := by
    have hm : (n + 23) % 24 < 24 := Nat.mod_lt _ (by omega)
    rw [hf24_at (by omega), e, btb_at _ (by omega), fB_bit (by omega) 24 (by omega), decide_eq_true hm, Bool.true_and]
  rw [ga1, y1] at h4
  rw [ga2, y2] at h6
  have b1 : P n = true := by
    cases q : P n
    · rw [q] at h4; exact absurd rfl h4
    · rfl
  have b2 : P ((n + 23) % 24) = false := by
    cases q : P ((n + 23) % 24)
    · rfl
    · rw [q] at h6; exact absurd h6 (by decide)
  unfold fPg
  rw [if_pos ⟨b1, b2⟩, e1, ga3 P n e rfl (by omega)]
noncomputable def qP_282 : zPp := fun as σ o σ' => match as with
  | [a0] => ∃ r, o = .inl (some (.int r)) ∧ p_282 (q_i a0) σ r σ'
  | _ => True
set_option maxRecDepth 100000 in
theorem sp_282 {sx : zX} (S178 : zEe sx 178 2 qP_178) (S245 : zEe sx 245 2 qP_245) : zEe sx 282 1 qP_282 := by
  refine zfle zJ_282 (sps := [(178, 2, qP_178), (245, 2, qP_245)]) (fun q hq => by
    simp only [List.mem_cons, List.not_mem_nil, or_false] at hq
    rcases hq with rfl | rfl
    · exact S178
    · exact S245) (fun as σ hl => ?_)
  match as, hl with
  | [a0], _ =>
  refine ⟨[(9, fun lo st τ => st = [] ∧ i_282 (q_i a0) σ (q_i (lo 0)) (q_i (lo 1)) (q_i (lo 2)) τ)], 400, ?_, ?_⟩
  · intro q hq
    simp only [List.mem_cons, List.not_mem_nil, or_false] at hq
    rcases hq with rfl
    · rintro lo st τ ⟨rfl, hI⟩
      refine ⟨400, ?_⟩
      refine And.intro (fun h2 => ?_) (fun h2 => ?_)
      · exact ⟨_, rfl, sp_282_c9_t (q_i a0) σ (q_i (lo 0)) (q_i (lo 1)) (q_i (lo 2)) τ hI (cm3t h2)⟩
      · refine fun o3 τ3 g3 => ?_
        obtain ⟨r3, rfl, g3⟩ := g3
        refine And.intro (fun h4 => ?_) (fun h4 => ?_)
        · exact ⟨rfl, sp_282_c9_ft (q_i a0) σ (q_i (lo 0)) (q_i (lo 1)) (q_i (lo 2)) τ τ3 r3 hI (cm3f h2) g3 (cm0t h4)⟩
        · refine fun o5 τ5 g5 => ?_
          obtain ⟨r5, rfl, g5⟩ := g5
          refine And.intro (fun h6 => ?_) (fun h6 => ?_)
          · exact ⟨rfl, sp_282_c9_fft (q_i a0) σ (q_i (lo 0)) (q_i (lo 1)) (q_i (lo 2)) τ τ3 r3 τ5 r5 hI (cm3f h2) g3 (cm0f h4) g5 (cm1t h6)⟩
          · refine fun o7 τ7 g7 => ?_
            obtain ⟨r7, rfl, g7⟩ := g7
            exact ⟨rfl, sp_282_c9_fff (q_i a0) σ (q_i (lo 0)) (q_i (lo 1)) (q_i (lo 2)) τ τ3 r3 τ5 r5 τ7 r7 hI (cm3f h2) g3 (cm0f h4) g5 (cm1f h6) g7⟩
  · refine And.intro (fun h1 => ?_) (fun h1 => ?_)
    · exact ⟨rfl, sp_282_et (q_i a0) σ (cm1t h1)⟩
    · exact ⟨_, rfl, sp_282_ef (q_i a0) σ (cm1f h1)⟩
theorem zJ_283 : zJ3 283 z_m283 z_c283 z_h283 := ⟨rfl, rfl, rfl⟩
noncomputable def p_283 (a : Nat) (f : Int32) (σ : zSg) (r : Int32) (σ' : zSg) : Prop := a = 205 → ∀ A nf nt, rW σ A → aI nf nt A → (¬ (0 ≤ f.toInt ∧ f.toInt < (nf : Int)) → r = Int32.ofInt 0 ∧ σ' = rTh σ 1) ∧ ((0 ≤ f.toInt ∧ f.toInt < (nf : Int)) → σ' = r0 σ ∧ r = fPo A f nf)
noncomputable def i_283 (a : Nat) (f : Int32) (σ : zSg) (l0 : Nat) (l1 l2 l3 : Int32) (τ : zSg) : Prop := l0 = a ∧ l1 = f ∧ (a = 205 → ∀ A nf nt, rW σ A → aI nf nt A → τ = r0 σ ∧ (0 ≤ f.toInt ∧ f.toInt < (nf : Int)) ∧ ∃ n, n ≤ nf ∧ l3 = Int32.ofNat n ∧ l2 = fPo A f n)
theorem sp_283_et (a0 : Nat) (a1 : Int32) (σ : zSg) (τ1 : zSg) (r1 : Int32) (τ2 : zSg) (r2 : Int32) (g1 : p_195 a0 a1 (q_w σ a0 0 (.int (Int32.ofInt (0)))) r1 τ1) (g2 : p_176 a0 r1 (Int32.ofInt (1)) τ1 r2 τ2) (h3 : r2.toInt = (0 : Int)) :
    i_283 a0 a1 σ a0 a1 (Int32.ofInt (0)) (Int32.ofInt (0)) τ2 := by
  refine ⟨rfl, rfl, ?_⟩
  rintro rfl A nf nt w I
  have k6 := I.1.2.1
  have w0 : rW (r0 σ) A := w.el (by omega)
  obtain ⟨e1, u1⟩ := g1
  have e1 : τ1 = r0 σ := e1
  subst e1
  have u1 := u1 rfl A w0 nf I.1.1 k6
  obtain ⟨x2, y2, n2⟩ := g2
  rw [x2] at h3
  have e2 := n2 h3
  exact ⟨e2, Decidable.byContradiction (fun q => (u1.mpr q) h3), 0, Nat.zero_le _, rfl, rfl⟩
theorem sp_283_ef (a0 : Nat) (a1 : Int32) (σ : zSg) (τ1 : zSg) (r1 : Int32) (τ2 : zSg) (r2 : Int32) (g1 : p_195 a0 a1 (q_w σ a0 0 (.int (Int32.ofInt (0)))) r1 τ1) (g2 : p_176 a0 r1 (Int32.ofInt (1)) τ1 r2 τ2) (h3 : r2.toInt ≠ (0 : Int)) :
    p_283 (a0) (a1) σ (Int32.ofInt (0)) τ2 := by
  rintro rfl A nf nt w I
  have k6 := I.1.2.1
  have w0 : rW (r0 σ) A := w.el (by omega)
  obtain ⟨e1, u1⟩ := g1
  have e1 : τ1 = r0 σ := e1
  subst e1
  have u1 := u1 rfl A w0 nf I.1.1 k6
  obtain ⟨x2, y2, n2⟩ := g2
  rw [x2] at h3
  have e2 := y2 h3
  subst e2
  exact ⟨fun _ => ⟨rfl, r0_T⟩, fun q => absurd q (u1.mp h3)⟩
theorem sp_283_c16_t (a0 : Nat) (a1 : Int32) (σ : zSg) (l0 : Nat) (l1 : Int32) (l2 : Int32) (l3 : Int32) (τ : zSg) (τ4 : zSg) (r4 : Int32) (hI : i_283 a0 a1 σ l0 l1 l2 l3 τ) (g4 : p_184 l0 τ r4 τ4) (h5 : l3.toInt ≥ r4.toInt) :
    p_283 (a0) (a1) σ l2 τ4 := by
  obtain ⟨rfl, rfl, hI⟩ := hI
  rintro rfl A nf nt w I
  obtain ⟨e0, v, n, hn, e3, e2⟩ := hI rfl A nf nt w I
  have k6 := I.1.2.1
  obtain ⟨ea1, ga1⟩ := g4
  subst ea1
  have w0 : rW τ4 A := by rw [e0]; exact w.el (by omega)
  have y1 := ga1 rfl A w0
  rw [y1, I.1.1, e3, o32 (by omega), o32 (by omega)] at h5
  have : n = nf := by omega
  subst this
  exact ⟨fun q => absurd v q, fun _ => ⟨e0, e2⟩⟩
theorem sp_283_c16_ft (a0 : Nat) (a1 : Int32) (σ : zSg) (l0 : Nat) (l1 : Int32) (l2 : Int32) (l3 : Int32) (τ : zSg) (τ4 : zSg) (r4 : Int32) (τ7 : zSg) (r7 : Int32) (τ8 : zSg) (r8 : Int32) (hI : i_283 a0 a1 σ l0 l1 l2 l3 τ) (g4 : p_184 l0 τ r4 τ4) (h5 : l3.toInt < r4.toInt) (h6 : l3.toInt ≠ l1.toInt) (g7 : p_242 l0 l3 τ4 r7 τ7) (g8 : p_282 r7 τ7 r8 τ8) :
    i_283 a0 a1 σ l0 l1 (l2 + r8) (l3 + Int32.ofInt (1)) τ8 := by
  obtain ⟨rfl, rfl, hI⟩ := hI
  refine ⟨rfl, rfl, ?_⟩
  rintro rfl A nf nt w I
  obtain ⟨e0, v, n, hn, e3, e2⟩ := hI rfl A nf nt w I
  have k6 := I.1.2.1
  obtain ⟨ea1, ga1⟩ := g4
  subst ea1
  obtain ⟨ea2, ga2⟩ := g7
  subst ea2
  obtain ⟨ea3, ga3⟩ := g8
  subst ea3
  have w0 : rW τ8 A := by rw [e0]; exact w.el (by omega)
  have y1 := ga1 rfl A w0
  rw [y1, I.1.1, e3, o32 (by omega), o32 (by omega)] at h5
  refine ⟨e0, v, n + 1, by omega, by rw [e3]; exact o32i (by omega), ?_⟩
  show _ = fPo A l1 n + _
  have y2 := ga2 rfl A w0
  have y3 := ga3 _ y2
  rw [e3] at h6 y3
  rw [if_neg (fun q => h6 (by rw [q])), e2, y3]
  rfl
theorem sp_283_c16_ff (a0 : Nat) (a1 : Int32) (σ : zSg) (l0 : Nat) (l1 : Int32) (l2 : Int32) (l3 : Int32) (τ : zSg) (τ4 : zSg) (r4 : Int32) (hI : i_283 a0 a1 σ l0 l1 l2 l3 τ) (g4 : p_184 l0 τ r4 τ4) (h5 : l3.toInt < r4.toInt) (h6 : l3.toInt = l1.toInt) :
    i_283 a0 a1 σ l0 l1 (l2 + (Int32.ofInt (0))) (l3 + Int32.ofInt (1)) τ4 := by
  obtain ⟨rfl, rfl, hI⟩ := hI
  refine ⟨rfl, rfl, ?_⟩
  rintro rfl A nf nt w I
  obtain ⟨e0, v, n, hn, e3, e2⟩ := hI rfl A nf nt w I
  have k6 := I.1.2.1
  obtain ⟨ea1, ga1⟩ := g4
  subst ea1
  have w0 : rW τ4 A := by rw [e0]; exact w.el (by omega)
  have y1 := ga1 rfl A w0
  rw [y1, I.1.1, e3, o32 (by omega), o32 (by omega)] at h5
  refine ⟨e0, v, n + 1, by omega, by rw [e3]; exact o32i (by omega), ?_⟩
  show _ = fPo A l1 n + _
  rw [e3] at h6
  rw [if_pos (Int32.toInt_inj.mp h6), e2]
noncomputable def qP_283 : zPp := fun as σ o σ' => match as with
  | [a0, a1] => ∃ r, o = .inl (some (.int r)) ∧ p_283 (q_r a0) (q_i a1) σ r σ'
  | _ => True
set_option maxRecDepth 100000 in
theorem sp_283 {sx : zX} (S195 : zEe sx 195 2 qP_195) (S176 : zEe sx 176 3 qP_176) (S184 : zEe sx 184 1 qP_184) (S242 : zEe sx 242 2 qP_242) (S282 : zEe sx 282 1 qP_282) : zEe sx 283 2 qP_283 := by
  refine zfle zJ_283 (sps := [(195, 2, qP_195), (176, 3, qP_176), (184, 1, qP_184), (242, 2, qP_242), (282, 1, qP_282)]) (fun q hq => by
    simp only [List.mem_cons, List.not_mem_nil, or_false] at hq
    rcases hq with rfl | rfl | rfl | rfl | rfl
    · exact S195
    · exact S176
    · exact S184
    · exact S242
    · exact S282) (fun as σ hl => ?_)
  match as, hl with
  | [a0, a1], _ =>
  refine ⟨[(16, fun lo st τ => st = [] ∧ i_283 (q_r a0) (q_i a1) σ (q_r (lo 0)) (q_i (lo 1)) (q_i (lo 2)) (q_i (lo 3)) τ)], 400, ?_, ?_⟩
  · intro q hq
    simp only [List.mem_cons, List.not_mem_nil, or_false] at hq
    rcases hq with rfl
    · rintro lo st τ ⟨rfl, hI⟩
      refine ⟨400, ?_⟩
      refine fun o4 τ4 g4 => ?_
      obtain ⟨r4, rfl, g4⟩ := g4
      refine And.intro (fun h5 => ?_) (fun h5 => ?_)
      · exact ⟨_, rfl, sp_283_c16_t (q_r a0) (q_i a1) σ (q_r (lo 0)) (q_i (lo 1)) (q_i (lo 2)) (q_i (lo 3)) τ τ4 r4 hI g4 (cm3t h5)⟩
      · refine And.intro (fun h6 => ?_) (fun h6 => ?_)
        · refine fun o7 τ7 g7 => ?_
          obtain ⟨r7, rfl, g7⟩ := g7
          refine fun o8 τ8 g8 => ?_
          obtain ⟨r8, rfl, g8⟩ := g8
          exact ⟨rfl, sp_283_c16_ft (q_r a0) (q_i a1) σ (q_r (lo 0)) (q_i (lo 1)) (q_i (lo 2)) (q_i (lo 3)) τ τ4 r4 τ7 r7 τ8 r8 hI g4 (cm3f h5) (cm1t h6) g7 g8⟩
        · exact ⟨rfl, sp_283_c16_ff (q_r a0) (q_i a1) σ (q_r (lo 0)) (q_i (lo 1)) (q_i (lo 2)) (q_i (lo 3)) τ τ4 r4 hI g4 (cm3f h5) (cm1f h6)⟩
  · refine fun o1 τ1 g1 => ?_
    obtain ⟨r1, rfl, g1⟩ := g1
    refine fun o2 τ2 g2 => ?_
    obtain ⟨r2, rfl, g2⟩ := g2
    refine And.intro (fun h3 => ?_) (fun h3 => ?_)
    · exact ⟨rfl, sp_283_et (q_r a0) (q_i a1) σ τ1 r1 τ2 r2 g1 g2 (cm0t h3)⟩
    · exact ⟨_, rfl, sp_283_ef (q_r a0) (q_i a1) σ τ1 r1 τ2 r2 g1 g2 (cm0f h3)⟩
theorem zJ_331 : zJ3 331 z_m331 z_c331 z_h331 := ⟨rfl, rfl, rfl⟩
noncomputable def p_331 (a : Nat) (a1 : Int32) (o : Nat) (σ : zSg) (k : Int32) (σ' : zSg) : Prop := ∃ e τ, p_144 a a1 σ e τ ∧ ((∃ v, e = .inl v ∧ k = Int32.ofInt 0 ∧ σ' = q_w τ o 0 (.long v.toInt64)) ∨ (e = .inr 2 ∧ k = Int32.ofInt 1 ∧ σ' = τ))
theorem sp_331_en (a0 : Nat) (a1 : Int32) (a2 : Nat) (σ : zSg) (τ1 : zSg) (r1 : Int32) (g1 : p_144 a0 a1 σ (.inl r1) τ1) (h2 : 0 ≤ (Int32.ofInt (0)).toInt ∧ (Int32.ofInt (0)).toInt < (τ1.2.1 a2 : Int)) :
    p_331 (a0) (a1) (a2) σ (Int32.ofInt (0)) (q_w τ1 a2 (Int32.ofInt (0)).toNatClampNeg (.long r1.toInt64)) := by
  exact ⟨_, _, g1, Or.inl ⟨_, rfl, rfl, rfl⟩⟩
theorem sp_331_ex2_ (a0 : Nat) (a1 : Int32) (a2 : Nat) (σ : zSg) (τ1 : zSg) (g1 : p_144 a0 a1 σ (.inr 2) τ1) :
    p_331 (a0) (a1) (a2) σ (Int32.ofInt (1)) τ1 := by
  exact ⟨_, _, g1, Or.inr (⟨rfl, rfl, rfl⟩)⟩
noncomputable def qP_331 : zPp := fun as σ o σ' => match as with
  | [a0, a1, a2] => ∃ r, o = .inl (some (.int r)) ∧ p_331 (q_r a0) (q_i a1) (q_r a2) σ r σ'
  | _ => True
set_option maxRecDepth 100000 in
theorem sp_331 {sx : zX} (S144 : zEe sx 144 2 qP_144) : zEe sx 331 3 qP_331 := by
  refine zfle zJ_331 (sps := [(144, 2, qP_144)]) (fun q hq => by
    simp only [List.mem_cons, List.not_mem_nil, or_false] at hq
    rcases hq with rfl
    · exact S144) (fun as σ hl => ?_)
  match as, hl with
  | [a0, a1, a2], _ =>
  refine ⟨[], 400, ?_, ?_⟩
  · exact fun q hq => absurd hq List.not_mem_nil
  · refine fun o1 τ1 g1 => ?_
    rcases g1 with ⟨r1, rfl, g1⟩ | ⟨rfl, g1⟩
    · refine fun h2 => ?_
      exact ⟨_, rfl, sp_331_en (q_r a0) (q_i a1) (q_r a2) σ τ1 r1 g1 (q_inp h2)⟩
    · exact ⟨_, rfl, sp_331_ex2_ (q_r a0) (q_i a1) (q_r a2) σ τ1 g1⟩
end
section
/-! readers of both sides, exact: part; printed with wip/gen/gen_ed.py -/
noncomputable def fOl : Nat → Int64
  | 0 => Int64.ofInt 1
  | 1 => Int64.ofInt 1
  | n + 2 => fOl (n + 1) * (Int32.ofNat (n + 2)).toInt64
noncomputable def fOi : Nat → Int32
  | 0 => Int32.ofInt 1
  | 1 => Int32.ofInt 1
  | n + 2 => fOi (n + 1) * Int32.ofNat (n + 2)
theorem fO_all : (List.range 13).all (fun n => decide ((fOi n).toInt64 = fOl n)) = true := by decide +kernel
theorem fO_at {n : Nat} (h : n < 13) : (fOi n).toInt64 = fOl n := of_decide_eq_true (List.all_eq_true.mp fO_all n (List.mem_range.mpr h))
theorem hd_all : (List.range 1000).all (fun n => decide ((Int32.ofInt 100 * Int32.ofNat n).toInt64 = Int64.ofInt 100 * (Int32.ofNat n).toInt64)) = true := by decide +kernel
theorem hd_at {n : Nat} (h : n < 1000) : (Int32.ofInt 100 * Int32.ofNat n).toInt64 = Int64.ofInt 100 * (Int32.ofNat n).toInt64 := of_decide_eq_true (List.all_eq_true.mp hd_all n (List.mem_range.mpr h))
noncomputable def fM (n : Nat) : Nat := 2 ^ n
theorem fM_all : (List.range 7).all (fun n => decide (1 ≤ fM n ∧ fM n ≤ 64 ∧ (Int32.ofInt 1 <<< (Int32.ofNat n &&& 31)) - Int32.ofInt 1 = Int32.ofNat (fM n - 1))) = true := by decide +kernel
theorem fM_at {n : Nat} (h : n ≤ 6) : 1 ≤ fM n ∧ fM n ≤ 64 ∧ (Int32.ofInt 1 <<< (Int32.ofNat n &&& 31)) - Int32.ofInt 1 = Int32.ofNat (fM n - 1) := of_decide_eq_true (List.all_eq_true.mp fM_all n (List.mem_range.mpr (by omega)))
/-- how many families a set holds -/
noncomputable def pc (s : Nat) : Nat := s % 2 + s / 2 % 2 + s / 4 % 2 + s / 8 % 2 + s / 16 % 2 + s / 32 % 2
theorem pc_all : (List.range 64).all (fun s => decide (fBc (Int32.ofNat s) = Int32.ofNat (pc s))) = true := by decide +kernel
theorem pb_all : (List.range 64).all (fun s => (List.range 6).all (fun F => decide (btb (Int32.ofNat s) (Int32.ofNat F) = decide (s / 2 ^ F % 2 = 1)) && decide ((((Int32.ofNat s) >>> ((Int32.ofNat F) &&& 31)) &&& Int32.ofInt 1).toInt = (if s / 2 ^ F % 2 = 1 then 1 else 0)))) = true := by decide +kernel
theorem pn_all : (List.range 7).all (fun n => (List.range 64).all (fun s => (List.range 6).all (fun F => decide (s < fM n → F < n → s / 2 ^ F % 2 ≠ 1 → pc s + 1 ≤ n)))) = true := by decide +kernel
theorem pc_at {s : Nat} (h : s < 64) : fBc (Int32.ofNat s) = Int32.ofNat (pc s) := of_decide_eq_true (List.all_eq_true.mp pc_all s (List.mem_range.mpr h))
theorem pb_at {s F : Nat} (h : s < 64) (hF : F < 6) : btb (Int32.ofNat s) (Int32.ofNat F) = decide (s / 2 ^ F % 2 = 1) ∧ (((Int32.ofNat s) >>> ((Int32.ofNat F) &&& 31)) &&& Int32.ofInt 1).toInt = (if s / 2 ^ F % 2 = 1 then 1 else 0) := by
  have := List.all_eq_true.mp (List.all_eq_true.mp pb_all s (List.mem_range.mpr h)) F (List.mem_range.mpr hF)
  rw [Bool.and_eq_true, decide_eq_true_eq, decide_eq_true_eq] at this
  exact this
theorem pn_at {n s F : Nat} (hn : n ≤ 6) (h : s < fM n) (hF : F < n) (b : ¬ s / 2 ^ F % 2 = 1) : pc s + 1 ≤ n := by
  have m := (fM_at hn).2.1
  exact of_decide_eq_true (List.all_eq_true.mp (List.all_eq_true.mp (List.all_eq_true.mp pn_all n (List.mem_range.mpr (by omega))) s (List.mem_range.mpr (by omega))) F (List.mem_range.mpr (by omega))) h hF b
noncomputable def fGq (A : Nat → Int32) (F nf s : Nat) : Int64 := (fOl (pc s) * fOl (nf - 1 - pc s)) * (Int32.ofNat (fWs A (Int32.ofNat s ||| (Int32.ofInt 1 <<< (Int32.ofNat F &&& 31))) nf 24) - Int32.ofNat (fWs A (Int32.ofNat s) nf 24)).toInt64
noncomputable def fGr (A : Nat → Int32) (F nf : Nat) : Nat → Int64
  | 0 => Int64.ofInt 0
  | s + 1 => if s / 2 ^ F % 2 = 1 then fGr A F nf s else fGr A F nf s + fGq A F nf s
noncomputable def fWt (A : Nat → Int32) (nf : Nat) : Nat := fWs A (Int32.ofNat (fM nf - 1)) nf 24
noncomputable def fPa (A : Nat → Int32) (F nf : Nat) (m : Int32) : Int32 := if fWt A nf = 0 then Int32.ofInt 0 else (((Int64.ofInt 100 * m.toInt64) * fGr A F nf (fM nf)) / (fOl nf * (Int32.ofNat (fWt A nf)).toInt64)).toInt32
theorem zJ_112 : zJ3 112 z_m112 z_c112 z_h112 := ⟨rfl, rfl, rfl⟩
noncomputable def p_112 (a : Int32) (σ : zSg) (r : Int64) (σ' : zSg) : Prop := σ' = σ ∧ ∀ n, a = Int32.ofNat n → n ≤ 100 → r = fOl n
noncomputable def i_112 (a : Int32) (σ : zSg) (l0 : Int32) (l1 : Int64) (l3 : Int32) (τ : zSg) : Prop := l0 = a ∧ τ = σ ∧ ∀ n, a = Int32.ofNat n → n ≤ 100 → ∃ i, (i + 1 ≤ n ∨ i = 0) ∧ l3 = Int32.ofNat (i + 2) ∧ l1 = fOl (i + 1)
theorem sp_112_e (a0 : Int32) (σ : zSg)  :
    i_112 a0 σ a0 (Int64.ofInt (1)) (Int32.ofInt (2)) σ := by
  exact ⟨rfl, rfl, fun n e hn => ⟨0, Or.inr rfl, rfl, rfl⟩⟩
theorem sp_112_c4_t (a0 : Int32) (σ : zSg) (l0 : Int32) (l1 : Int64) (l3 : Int32) (τ : zSg) (hI : i_112 a0 σ l0 l1 l3 τ) (h1 : l3.toInt > l0.toInt) :
    p_112 (a0) σ l1 τ := by
  obtain ⟨rfl, rfl, hI⟩ := hI
  refine ⟨rfl, fun n e hn => ?_⟩
  obtain ⟨i, hi, e3, e1⟩ := hI n e hn
  rw [e3, e, o32 (by omega), o32 (by omega)] at h1
  rw [e1]
  rcases hi with hi | hi
  · rw [show i + 1 = n by omega]
  · subst hi
    have : n = 0 ∨ n = 1 := by omega
    rcases this with q | q
    · rw [q]; rfl
    · rw [q]
theorem sp_112_c4_f (a0 : Int32) (σ : zSg) (l0 : Int32) (l1 : Int64) (l3 : Int32) (τ : zSg) (hI : i_112 a0 σ l0 l1 l3 τ) (h1 : l3.toInt ≤ l0.toInt) :
    i_112 a0 σ l0 (l1 * l3.toInt64) (l3 + Int32.ofInt (1)) τ := by
  obtain ⟨rfl, rfl, hI⟩ := hI
  refine ⟨rfl, rfl, fun n e hn => ?_⟩
  obtain ⟨i, hi, e3, e1⟩ := hI n e hn
  rw [e3, e, o32 (by omega), o32 (by omega)] at h1
  refine ⟨i + 1, Or.inl (by omega), by rw [e3]; exact o32i (by omega), ?_⟩
  rw [e1, e3]
  rfl
noncomputable def qP_112 : zPp := fun as σ o σ' => match as with
  | [a0] => ∃ r, o = .inl (some (.long r)) ∧ p_112 (q_i a0) σ r σ'
  | _ => True
set_option maxRecDepth 100000 in
theorem sp_112 {sx : zX}  : zEe sx 112 1 qP_112 := by
  refine zfle zJ_112 (sps := []) (fun q hq => absurd hq List.not_mem_nil) (fun as σ hl => ?_)
  match as, hl with
  | [a0], _ =>
  refine ⟨[(4, fun lo st τ => st = [] ∧ i_112 (q_i a0) σ (q_i (lo 0)) (q_l (lo 1)) (q_i (lo 3)) τ)], 400, ?_, ?_⟩
  · intro q hq
    simp only [List.mem_cons, List.not_mem_nil, or_false] at hq
    rcases hq with rfl
    · rintro lo st τ ⟨rfl, hI⟩
      refine ⟨400, ?_⟩
      refine And.intro (fun h1 => ?_) (fun h1 => ?_)
      · exact ⟨_, rfl, sp_112_c4_t (q_i a0) σ (q_i (lo 0)) (q_l (lo 1)) (q_i (lo 3)) τ hI (cm4t h1)⟩
      · exact ⟨rfl, sp_112_c4_f (q_i a0) σ (q_i (lo 0)) (q_l (lo 1)) (q_i (lo 3)) τ hI (cm4f h1)⟩
  · exact ⟨rfl, sp_112_e (q_i a0) σ ⟩
theorem zJ_294 : zJ3 294 z_m294 z_c294 z_h294 := ⟨rfl, rfl, rfl⟩
noncomputable def p_294 (a : Int32) (σ : zSg) (r : Int32) (σ' : zSg) : Prop := σ' = σ ∧ ∀ n, a = Int32.ofNat n → n ≤ 100 → r = fOi n
noncomputable def i_294 (a : Int32) (σ : zSg) (l0 l1 l2 : Int32) (τ : zSg) : Prop := l0 = a ∧ τ = σ ∧ ∀ n, a = Int32.ofNat n → n ≤ 100 → ∃ i, (i + 1 ≤ n ∨ i = 0) ∧ l2 = Int32.ofNat (i + 2) ∧ l1 = fOi (i + 1)
theorem sp_294_e (a0 : Int32) (σ : zSg)  :
    i_294 a0 σ a0 (Int32.ofInt (1)) (Int32.ofInt (2)) σ := by
  exact ⟨rfl, rfl, fun n e hn => ⟨0, Or.inr rfl, rfl, rfl⟩⟩
theorem sp_294_c4_t (a0 : Int32) (σ : zSg) (l0 : Int32) (l1 : Int32) (l2 : Int32) (τ : zSg) (hI : i_294 a0 σ l0 l1 l2 τ) (h1 : l2.toInt > l0.toInt) :
    p_294 (a0) σ l1 τ := by
  obtain ⟨rfl, rfl, hI⟩ := hI
  refine ⟨rfl, fun n e hn => ?_⟩
  obtain ⟨i, hi, e3, e1⟩ := hI n e hn
  rw [e3, e, o32 (by omega), o32 (by omega)] at h1
  rw [e1]
  rcases hi with hi | hi
  · rw [show i + 1 = n by omega]
  · subst hi
    have : n = 0 ∨ n = 1 := by omega
    rcases this with q | q
    · rw [q]; rfl
    · rw [q]
theorem sp_294_c4_f (a0 : Int32) (σ : zSg) (l0 : Int32) (l1 : Int32) (l2 : Int32) (τ : zSg) (hI : i_294 a0 σ l0 l1 l2 τ) (h1 : l2.toInt ≤ l0.toInt) :
    i_294 a0 σ l0 (l1 * l2) (l2 + Int32.ofInt (1)) τ := by
  obtain ⟨rfl, rfl, hI⟩ := hI
  refine ⟨rfl, rfl, fun n e hn => ?_⟩
  obtain ⟨i, hi, e3, e1⟩ := hI n e hn
  rw [e3, e, o32 (by omega), o32 (by omega)] at h1
  refine ⟨i + 1, Or.inl (by omega), by rw [e3]; exact o32i (by omega), ?_⟩
  rw [e1, e3]
  rfl
noncomputable def qP_294 : zPp := fun as σ o σ' => match as with
  | [a0] => ∃ r, o = .inl (some (.int r)) ∧ p_294 (q_i a0) σ r σ'
  | _ => True
set_option maxRecDepth 100000 in
theorem sp_294 {sx : zX}  : zEe sx 294 1 qP_294 := by
  refine zfle zJ_294 (sps := []) (fun q hq => absurd hq List.not_mem_nil) (fun as σ hl => ?_)
  match as, hl with
  | [a0], _ =>
  refine ⟨[(4, fun lo st τ => st = [] ∧ i_294 (q_i a0) σ (q_i (lo 0)) (q_i (lo 1)) (q_i (lo 2)) τ)], 400, ?_, ?_⟩
  · intro q hq
    simp only [List.mem_cons, List.not_mem_nil, or_false] at hq
    rcases hq with rfl
    · rintro lo st τ ⟨rfl, hI⟩
      refine ⟨400, ?_⟩
      refine And.intro (fun h1 => ?_) (fun h1 => ?_)
      · exact ⟨_, rfl, sp_294_c4_t (q_i a0) σ (q_i (lo 0)) (q_i (lo 1)) (q_i (lo 2)) τ hI (cm4t h1)⟩
      · exact ⟨rfl, sp_294_c4_f (q_i a0) σ (q_i (lo 0)) (q_i (lo 1)) (q_i (lo 2)) τ hI (cm4f h1)⟩
  · exact ⟨rfl, sp_294_e (q_i a0) σ ⟩
theorem i_sb_all : (List.range 7).all (fun n => (List.range 7).all (fun k => decide (k + 1 ≤ n → Int32.ofNat n - Int32.ofInt 1 - Int32.ofNat k = Int32.ofNat (n - 1 - k)))) = true := by decide +kernel
theorem i_sb {n k : Nat} (hn : n ≤ 6) (h : k + 1 ≤ n) : Int32.ofNat n - Int32.ofInt 1 - Int32.ofNat k = Int32.ofNat (n - 1 - k) := of_decide_eq_true (List.all_eq_true.mp (List.all_eq_true.mp i_sb_all n (List.mem_range.mpr (by omega))) k (List.mem_range.mpr (by omega))) h
theorem zJ_111 : zJ3 111 z_m111 z_c111 z_h111 := ⟨rfl, rfl, rfl⟩
noncomputable def p_111 (b : Nat) (f m : Int32) (σ : zSg) (r : Int32) (σ' : zSg) : Prop := σ' = σ ∧ ∀ A nf nt, hH σ b A → aI nf nt A → ∀ F, f = Int32.ofNat F → F < nf → r = fPa A F nf m
noncomputable def i_111 (b : Nat) (f m : Int32) (σ : zSg) (l0 : Nat) (l1 l2 l3 l4 l5 : Int32) (l6 : Int64) (l8 : Int32) (τ : zSg) : Prop := l0 = b ∧ l1 = f ∧ l2 = m ∧ τ = σ ∧ ∀ A nf nt, hH σ b A → aI nf nt A → ∀ F, f = Int32.ofNat F → F < nf → l3 = Int32.ofNat (fM nf - 1) ∧ l4 = Int32.ofNat nf ∧ fWt A nf ≠ 0 ∧ l5 = Int32.ofNat (fWt A nf) ∧ ∃ s, s ≤ fM nf ∧ l8 = Int32.ofNat s ∧ l6 = fGr A F nf s
theorem sp_111_et (a0 : Nat) (a1 : Int32) (a2 : Int32) (σ : zSg) (τ1 : zSg) (r1 : Int32) (τ2 : zSg) (r2 : Int32) (g1 : p_11 (q_r (σ.1 a0 1)) σ r1 τ1) (g2 : p_110 a0 r1 τ1 r2 τ2) (h3 : r2.toInt > (0 : Int)) :
    i_111 a0 a1 a2 σ a0 a1 a2 r1 (q_i (τ1.1 (q_r (τ1.1 a0 1)) 4)) r2 (Int64.ofInt (0)) (Int32.ofInt (0)) τ2 := by
  obtain ⟨ea1, ga1⟩ := g1
  subst ea1
  obtain ⟨ea2, ga2⟩ := g2
  subst ea2
  refine ⟨rfl, rfl, rfl, rfl, fun A nf nt K I F eF hF => ?_⟩
  have k6 := I.1.2.1
  have e6 := fM_at k6
  have y1 := ga1 a0 A (by rw [K.k hk_1]) K
  rw [I.1.1, e6.2.2] at y1
  have y2 := ga2 A nf K I.1.1 k6
  rw [y1] at y2
  have wl := fWs_le A (Int32.ofNat (fM nf - 1)) nf 24
  have n0 : q_i (τ2.1 (q_r (τ2.1 a0 1)) 4) = Int32.ofNat nf := by rw [K.k hk_1, K.p hp_0]; exact I.1.1
  exact ⟨y1, n0, fun q => by
    have q' : fWs A (Int32.ofNat (fM nf - 1)) nf 24 = 0 := q
    rw [y2, q'] at h3
    exact absurd h3 (by decide), y2, 0, Nat.zero_le _, rfl, rfl⟩
theorem sp_111_ef (a0 : Nat) (a1 : Int32) (a2 : Int32) (σ : zSg) (τ1 : zSg) (r1 : Int32) (τ2 : zSg) (r2 : Int32) (g1 : p_11 (q_r (σ.1 a0 1)) σ r1 τ1) (g2 : p_110 a0 r1 τ1 r2 τ2) (h3 : r2.toInt ≤ (0 : Int)) :
    p_111 (a0) (a1) (a2) σ (Int32.ofInt (0)) τ2 := by
  obtain ⟨ea1, ga1⟩ := g1
  subst ea1
  obtain ⟨ea2, ga2⟩ := g2
  subst ea2
  refine ⟨rfl, fun A nf nt K I F eF hF => ?_⟩
  have k6 := I.1.2.1
  have e6 := fM_at k6
  have y1 := ga1 a0 A (by rw [K.k hk_1]) K
  rw [I.1.1, e6.2.2] at y1
  have y2 := ga2 A nf K I.1.1 k6
  rw [y1] at y2
  have wl := fWs_le A (Int32.ofNat (fM nf - 1)) nf 24
  rw [y2, o32 (by omega)] at h3
  have z : fWt A nf = 0 := by
    show fWs A (Int32.ofNat (fM nf - 1)) nf 24 = 0
    omega
  unfold fPa
  rw [if_pos z]
theorem sp_111_c20_t (a0 : Nat) (a1 : Int32) (a2 : Int32) (σ : zSg) (l0 : Nat) (l1 : Int32) (l2 : Int32) (l3 : Int32) (l4 : Int32) (l5 : Int32) (l6 : Int64) (l8 : Int32) (τ : zSg) (τ5 : zSg) (r5 : Int64) (hI : i_111 a0 a1 a2 σ l0 l1 l2 l3 l4 l5 l6 l8 τ) (h4 : l8.toInt > l3.toInt) (g5 : p_112 l4 τ r5 τ5) :
    p_111 (a0) (a1) (a2) σ (((((Int64.ofInt (100)) * l2.toInt64) * l6) / (r5 * l5.toInt64)).toInt32) τ5 := by
  obtain ⟨ea1, ga1⟩ := g5
  subst ea1
  obtain ⟨rfl, rfl, rfl, rfl, hI⟩ := hI
  refine ⟨rfl, fun A nf nt K I F eF hF => ?_⟩
  obtain ⟨e3, e4, n0, e5, s, hs, e8, eG⟩ := hI A nf nt K I F eF hF
  have k6 := I.1.2.1
  have e6 := fM_at k6
  rw [e8, e3, o32 (by omega), o32 (by omega)] at h4
  have : s = fM nf := by omega
  subst this
  unfold fPa
  rw [if_neg n0, eG, e5, ga1 nf e4 (by omega)]
theorem sp_111_c20_ft (a0 : Nat) (a1 : Int32) (a2 : Int32) (σ : zSg) (l0 : Nat) (l1 : Int32) (l2 : Int32) (l3 : Int32) (l4 : Int32) (l5 : Int32) (l6 : Int64) (l8 : Int32) (τ : zSg) (hI : i_111 a0 a1 a2 σ l0 l1 l2 l3 l4 l5 l6 l8 τ) (h4 : l8.toInt ≤ l3.toInt) (h6 : ((l8 >>> (l1 &&& 31)) &&& (Int32.ofInt (1))).toInt ≠ (0 : Int)) :
    i_111 a0 a1 a2 σ l0 l1 l2 l3 l4 l5 l6 (l8 + Int32.ofInt (1)) τ := by
  obtain ⟨rfl, rfl, rfl, rfl, hI⟩ := hI
  refine ⟨rfl, rfl, rfl, rfl, fun A nf nt K I F eF hF => ?_⟩
  obtain ⟨e3, e4, n0, e5, s, hs, e8, eG⟩ := hI A nf nt K I F eF hF
  have k6 := I.1.2.1
  have e6 := fM_at k6
  rw [e8, e3, o32 (by omega), o32 (by omega)] at h4
  refine ⟨e3, e4, n0, e5, s + 1, by omega, by rw [e8]; exact o32i (by omega), ?_⟩
  have pb := (pb_at (s := s) (F := F) (by omega) (by omega)).2
  rw [e8, eF, pb] at h6
  show l6 = if s / 2 ^ F % 2 = 1 then fGr A F nf s else fGr A F nf s + fGq A F nf s
  by_cases q : s / 2 ^ F % 2 = 1
  · rw [if_pos q, eG]
  · rw [if_neg q] at h6
    exact absurd rfl h6
theorem sp_111_c20_ff (a0 : Nat) (a1 : Int32) (a2 : Int32) (σ : zSg) (l0 : Nat) (l1 : Int32) (l2 : Int32) (l3 : Int32) (l4 : Int32) (l5 : Int32) (l6 : Int64) (l8 : Int32) (τ : zSg) (τ7 : zSg) (r7 : Int32) (τ8 : zSg) (r8 : Int32) (τ9 : zSg) (r9 : Int32) (τ10 : zSg) (r10 : Int64) (τ11 : zSg) (r11 : Int64) (hI : i_111 a0 a1 a2 σ l0 l1 l2 l3 l4 l5 l6 l8 τ) (h4 : l8.toInt ≤ l3.toInt) (h6 : ((l8 >>> (l1 &&& 31)) &&& (Int32.ofInt (1))).toInt = (0 : Int)) (g7 : p_311 l8 τ r7 τ7) (g8 : p_110 l0 (l8 ||| ((Int32.ofInt (1)) <<< (l1 &&& 31))) τ7 r8 τ8) (g9 : p_110 l0 l8 τ8 r9 τ9) (g10 : p_112 r7 τ9 r10 τ10) (g11 : p_112 ((l4 - (Int32.ofInt (1))) - r7) τ10 r11 τ11) :
    i_111 a0 a1 a2 σ l0 l1 l2 l3 l4 l5 (l6 + ((r10 * r11) * ((r8 - r9).toInt64))) (l8 + Int32.ofInt (1)) τ11 := by
  obtain ⟨ea1, ga1⟩ := g7
  subst ea1
  obtain ⟨ea2, ga2⟩ := g8
  subst ea2
  obtain ⟨ea3, ga3⟩ := g9
  subst ea3
  obtain ⟨ea4, ga4⟩ := g10
  subst ea4
  obtain ⟨ea5, ga5⟩ := g11
  subst ea5
  obtain ⟨rfl, rfl, rfl, rfl, hI⟩ := hI
  refine ⟨rfl, rfl, rfl, rfl, fun A nf nt K I F eF hF => ?_⟩
  obtain ⟨e3, e4, n0, e5, s, hs, e8, eG⟩ := hI A nf nt K I F eF hF
  have k6 := I.1.2.1
  have e6 := fM_at k6
  rw [e8, e3, o32 (by omega), o32 (by omega)] at h4
  refine ⟨e3, e4, n0, e5, s + 1, by omega, by rw [e8]; exact o32i (by omega), ?_⟩
  have pb := (pb_at (s := s) (F := F) (by omega) (by omega)).2
  rw [e8, eF, pb] at h6
  have q : ¬ s / 2 ^ F % 2 = 1 := fun q => by
    rw [if_pos q] at h6
    exact absurd h6 (by decide)
  have pk := pn_at k6 (show s < fM nf by omega) hF q
  show _ = if s / 2 ^ F % 2 = 1 then fGr A F nf s else fGr A F nf s + fGq A F nf s
  have y1 : r7 = Int32.ofNat (pc s) := by rw [ga1, e8]; exact pc_at (by omega)
  have y2 := ga2 A nf K I.1.1 k6
  have y3 := ga3 A nf K I.1.1 k6
  have y4 := ga4 (pc s) y1 (by omega)
  have y5 := ga5 (nf - 1 - pc s) (by rw [e4, y1]; exact i_sb k6 pk) (by omega)
  rw [if_neg q, y2, y3, y4, y5, e8, eF, eG]
  rfl
noncomputable def qP_111 : zPp := fun as σ o σ' => match as with
  | [a0, a1, a2] => ∃ r, o = .inl (some (.int r)) ∧ p_111 (q_r a0) (q_i a1) (q_i a2) σ r σ'
  | _ => True
set_option maxRecDepth 100000 in
theorem sp_111 {sx : zX} (S11 : zEe sx 11 1 qP_11) (S110 : zEe sx 110 2 qP_110) (S112 : zEe sx 112 1 qP_112) (S311 : zEe sx 311 1 qP_311) : zEe sx 111 3 qP_111 := by
  refine zfle zJ_111 (sps := [(11, 1, qP_11), (110, 2, qP_110), (112, 1, qP_112), (311, 1, qP_311)]) (fun q hq => by
    simp only [List.mem_cons, List.not_mem_nil, or_false] at hq
    rcases hq with rfl | rfl | rfl | rfl
    · exact S11
    · exact S110
    · exact S112
    · exact S311) (fun as σ hl => ?_)
  match as, hl with
  | [a0, a1, a2], _ =>
  refine ⟨[(20, fun lo st τ => st = [] ∧ i_111 (q_r a0) (q_i a1) (q_i a2) σ (q_r (lo 0)) (q_i (lo 1)) (q_i (lo 2)) (q_i (lo 3)) (q_i (lo 4)) (q_i (lo 5)) (q_l (lo 6)) (q_i (lo 8)) τ)], 400, ?_, ?_⟩
  · intro q hq
    simp only [List.mem_cons, List.not_mem_nil, or_false] at hq
    rcases hq with rfl
    · rintro lo st τ ⟨rfl, hI⟩
      refine ⟨400, ?_⟩
      refine And.intro (fun h4 => ?_) (fun h4 => ?_)
      · refine fun o5 τ5 g5 => ?_
        obtain ⟨r5, rfl, g5⟩ := g5
        exact ⟨_, rfl, sp_111_c20_t (q_r a0) (q_i a1) (q_i a2) σ (q_r (lo 0)) (q_i (lo 1)) (q_i (lo 2)) (q_i (lo 3)) (q_i (lo 4)) (q_i (lo 5)) (q_l (lo 6)) (q_i (lo 8)) τ τ5 r5 hI (cm4t h4) g5⟩
      · refine And.intro (fun h6 => ?_) (fun h6 => ?_)
        · exact ⟨rfl, sp_111_c20_ft (q_r a0) (q_i a1) (q_i a2) σ (q_r (lo 0)) (q_i (lo 1)) (q_i (lo 2)) (q_i (lo 3)) (q_i (lo 4)) (q_i (lo 5)) (q_l (lo 6)) (q_i (lo 8)) τ hI (cm4f h4) (cm1t h6)⟩
        · refine fun o7 τ7 g7 => ?_
          obtain ⟨r7, rfl, g7⟩ := g7
          refine fun o8 τ8 g8 => ?_
          obtain ⟨r8, rfl, g8⟩ := g8
          refine fun o9 τ9 g9 => ?_
          obtain ⟨r9, rfl, g9⟩ := g9
          refine fun o10 τ10 g10 => ?_
          obtain ⟨r10, rfl, g10⟩ := g10
          refine fun o11 τ11 g11 => ?_
          obtain ⟨r11, rfl, g11⟩ := g11
          exact ⟨rfl, sp_111_c20_ff (q_r a0) (q_i a1) (q_i a2) σ (q_r (lo 0)) (q_i (lo 1)) (q_i (lo 2)) (q_i (lo 3)) (q_i (lo 4)) (q_i (lo 5)) (q_l (lo 6)) (q_i (lo 8)) τ τ7 r7 τ8 r8 τ9 r9 τ10 r10 τ11 r11 hI (cm4f h4) (cm1f h6) g7 g8 g9 g10 g11⟩
  · refine fun o1 τ1 g1 => ?_
    obtain ⟨r1, rfl, g1⟩ := g1
    refine fun o2 τ2 g2 => ?_
    obtain ⟨r2, rfl, g2⟩ := g2
    refine And.intro (fun h3 => ?_) (fun h3 => ?_)
    · exact ⟨rfl, sp_111_et (q_r a0) (q_i a1) (q_i a2) σ τ1 r1 τ2 r2 g1 g2 (cm4t h3)⟩
    · exact ⟨_, rfl, sp_111_ef (q_r a0) (q_i a1) (q_i a2) σ τ1 r1 τ2 r2 g1 g2 (cm4f h3)⟩
theorem zJ_143 : zJ3 143 z_m143 z_c143 z_h143 := ⟨rfl, rfl, rfl⟩
noncomputable def p_143 (a : Nat) (f m : Int32) (σ : zSg) (e : Int32 ⊕ Nat) (σ' : zSg) : Prop := a = 0 → ∀ A nf nt, xSk σ → hH σ 8 A → aI nf nt A → σ' = σ ∧ (¬ (0 ≤ f.toInt ∧ f.toInt < (nf : Int)) → e = .inr 2) ∧ (∀ F, f = Int32.ofNat F → F < nf → (¬ (0 ≤ m.toInt ∧ m.toInt ≤ 999) → e = .inr 0) ∧ ((0 ≤ m.toInt ∧ m.toInt ≤ 999) → e = .inl (fPa A F nf m)))
theorem sp_143_enn (a0 : Nat) (a1 : Int32) (a2 : Int32) (σ : zSg) (τ1 : zSg) (τ2 : zSg) (τ3 : zSg) (r3 : Int32) (g1 : p_167 a0 a1 σ (.inl 0) τ1) (g2 : p_170 a0 a2 (Int32.ofInt (0)) (Int32.ofInt (999)) τ1 (.inl 0) τ2) (g3 : p_111 (q_r (τ2.1 a0 2)) a1 a2 τ2 r3 τ3) :
    p_143 (a0) (a1) (a2) σ (.inl r3) τ3 := by
  rintro rfl A nf nt K H I
  obtain ⟨rfl, u⟩ := g1
  have uu := (u rfl K A nf H I.1.1 I.1.2.1).1 rfl
  obtain ⟨rfl, v, -⟩ := g2
  have v : (0 : Int) ≤ a2.toInt ∧ a2.toInt ≤ (999 : Int) := v rfl
  have d2 : q_r (τ2.1 0 2) = 8 := by rw [K.2.1]; rfl
  rw [d2] at g3
  obtain ⟨rfl, g2⟩ := g3
  exact ⟨rfl, fun q => absurd uu q, fun F e hF => ⟨fun q => absurd v q, fun _ => congrArg Sum.inl (g2 A nf nt H I F e hF)⟩⟩
theorem sp_143_enx0_ (a0 : Nat) (a1 : Int32) (a2 : Int32) (σ : zSg) (τ1 : zSg) (τ2 : zSg) (g1 : p_167 a0 a1 σ (.inl 0) τ1) (g2 : p_170 a0 a2 (Int32.ofInt (0)) (Int32.ofInt (999)) τ1 (.inr 0) τ2) :
    p_143 (a0) (a1) (a2) σ (.inr 0) τ2 := by
  rintro rfl A nf nt K H I
  obtain ⟨rfl, u⟩ := g1
  have uu := (u rfl K A nf H I.1.1 I.1.2.1).1 rfl
  obtain ⟨rfl, -, v⟩ := g2
  have v : ¬ ((0 : Int) ≤ a2.toInt ∧ a2.toInt ≤ (999 : Int)) := v rfl
  exact ⟨rfl, fun q => absurd uu q, fun F e hF => ⟨fun _ => rfl, fun q => absurd q v⟩⟩
theorem sp_143_ex2_ (a0 : Nat) (a1 : Int32) (a2 : Int32) (σ : zSg) (τ1 : zSg) (g1 : p_167 a0 a1 σ (.inr 2) τ1) :
    p_143 (a0) (a1) (a2) σ (.inr 2) τ1 := by
  rintro rfl A nf nt K H I
  obtain ⟨rfl, u⟩ := g1
  have u := (u rfl K A nf H I.1.1 I.1.2.1).2 rfl
  have k6 := I.1.2.1
  exact ⟨rfl, fun _ => rfl, fun F e hF => absurd (by rw [e, o32 (by omega)]; omega) u⟩
noncomputable def qP_143 : zPp := fun as σ o σ' => match as with
  | [a0, a1, a2] => (∃ r, o = .inl (some (.int r)) ∧ p_143 (q_r a0) (q_i a1) (q_i a2) σ (.inl r) σ') ∨ (o = .inr 2 ∧ p_143 (q_r a0) (q_i a1) (q_i a2) σ (.inr 2) σ') ∨ (o = .inr 0 ∧ p_143 (q_r a0) (q_i a1) (q_i a2) σ (.inr 0) σ')
  | _ => True
set_option maxRecDepth 100000 in
theorem sp_143 {sx : zX} (S167 : zEe sx 167 2 qP_167) (S170 : zEe sx 170 4 qP_170) (S111 : zEe sx 111 3 qP_111) : zEe sx 143 3 qP_143 := by
  refine zfle zJ_143 (sps := [(167, 2, qP_167), (170, 4, qP_170), (111, 3, qP_111)]) (fun q hq => by
    simp only [List.mem_cons, List.not_mem_nil, or_false] at hq
    rcases hq with rfl | rfl | rfl
    · exact S167
    · exact S170
    · exact S111) (fun as σ hl => ?_)
  match as, hl with
  | [a0, a1, a2], _ =>
  refine ⟨[], 400, ?_, ?_⟩
  · exact fun q hq => absurd hq List.not_mem_nil
  · refine fun o1 τ1 g1 => ?_
    rcases g1 with ⟨rfl, g1⟩ | ⟨rfl, g1⟩
    · refine fun o2 τ2 g2 => ?_
      rcases g2 with ⟨rfl, g2⟩ | ⟨rfl, g2⟩
      · refine fun o3 τ3 g3 => ?_
        obtain ⟨r3, rfl, g3⟩ := g3
        exact Or.inl ⟨_, rfl, sp_143_enn (q_r a0) (q_i a1) (q_i a2) σ τ1 τ2 τ3 r3 g1 g2 g3⟩
      · exact Or.inr (Or.inr (⟨rfl, sp_143_enx0_ (q_r a0) (q_i a1) (q_i a2) σ τ1 τ2 g1 g2⟩))
    · exact Or.inr (Or.inl (⟨rfl, sp_143_ex2_ (q_r a0) (q_i a1) (q_i a2) σ τ1 g1⟩))
theorem zJ_295 : zJ3 295 z_m295 z_c295 z_h295 := ⟨rfl, rfl, rfl⟩
noncomputable def p_295 (a : Nat) (f m : Int32) (σ : zSg) (r : Int32) (σ' : zSg) : Prop := a = 205 → ∀ A nf nt, rW σ A → aI nf nt A → (¬ (0 ≤ f.toInt ∧ f.toInt < (nf : Int)) → r = Int32.ofInt 0 ∧ σ' = rTh σ 1) ∧ (∀ F, f = Int32.ofNat F → F < nf → (¬ (0 ≤ m.toInt ∧ m.toInt ≤ 999) → r = Int32.ofInt 0 ∧ σ' = rTh σ 2) ∧ ((0 ≤ m.toInt ∧ m.toInt ≤ 999) → σ' = r0 σ ∧ r = fPa A F nf m))
noncomputable def i_295 (a : Nat) (f m : Int32) (σ : zSg) (l0 : Nat) (l1 l2 l3 : Int32) (l4 : Int64) (l6 : Int32) (τ : zSg) : Prop := l0 = a ∧ l1 = f ∧ l2 = m ∧ (a = 205 → ∀ A nf nt, rW σ A → aI nf nt A → τ = r0 σ ∧ (0 ≤ f.toInt ∧ f.toInt < (nf : Int)) ∧ (0 ≤ m.toInt ∧ m.toInt ≤ 999) ∧ fWt A nf ≠ 0 ∧ l3 = Int32.ofNat (fWt A nf) ∧ ∃ s, s ≤ fM nf ∧ l6 = Int32.ofNat s ∧ ∀ F, f = Int32.ofNat F → F < nf → l4 = fGr A F nf s)
theorem sp_295_et (a0 : Nat) (a1 : Int32) (a2 : Int32) (σ : zSg) (τ1 : zSg) (r1 : Int32) (τ2 : zSg) (r2 : Int32) (g1 : p_195 a0 a1 (q_w σ a0 0 (.int (Int32.ofInt (0)))) r1 τ1) (g2 : p_176 a0 r1 (Int32.ofInt (1)) τ1 r2 τ2) (h3 : r2.toInt ≠ (0 : Int)) :
    p_295 (a0) (a1) (a2) σ (Int32.ofInt (0)) τ2 := by
  rintro rfl A nf nt w I
  have k6 := I.1.2.1
  have w0 : rW (r0 σ) A := w.el (by omega)
  obtain ⟨e1, u1⟩ := g1
  have e1 : τ1 = r0 σ := e1
  subst e1
  have u1 := u1 rfl A w0 nf I.1.1 k6
  obtain ⟨x2, y2, n2⟩ := g2
  rw [x2] at h3
  have e2 := y2 h3
  subst e2
  exact ⟨fun _ => ⟨rfl, r0_T⟩, fun F eF hF => absurd (by rw [eF, o32 (by omega)]; omega) (u1.mp h3)⟩
theorem sp_295_eftt (a0 : Nat) (a1 : Int32) (a2 : Int32) (σ : zSg) (τ1 : zSg) (r1 : Int32) (τ2 : zSg) (r2 : Int32) (τ4 : zSg) (r4 : Int32) (τ8 : zSg) (r8 : Int32) (τ9 : zSg) (r9 : Int32) (g1 : p_195 a0 a1 (q_w σ a0 0 (.int (Int32.ofInt (0)))) r1 τ1) (g2 : p_176 a0 r1 (Int32.ofInt (1)) τ1 r2 τ2) (h3 : r2.toInt = (0 : Int)) (g4 : p_177 a2 (Int32.ofInt (0)) (Int32.ofInt (999)) τ2 r4 τ4) (h5 : r4.toInt ≠ (0 : Int)) (g8 : p_292 a0 τ4 r8 τ8) (g9 : p_291 a0 r8 τ8 r9 τ9) (h10 : r9.toInt ≠ (0 : Int)) :
    i_295 a0 a1 a2 σ a0 a1 a2 r9 (Int64.ofInt (0)) (Int32.ofInt (0)) τ9 := by
  refine ⟨rfl, rfl, rfl, ?_⟩
  rintro rfl A nf nt w I
  have k6 := I.1.2.1
  have w0 : rW (r0 σ) A := w.el (by omega)
  obtain ⟨e1, u1⟩ := g1
  have e1 : τ1 = r0 σ := e1
  subst e1
  have u1 := u1 rfl A w0 nf I.1.1 k6
  obtain ⟨x2, y2, n2⟩ := g2
  rw [x2] at h3
  have e2 := n2 h3
  subst e2
  have v1 : 0 ≤ a1.toInt ∧ a1.toInt < (nf : Int) := Decidable.byContradiction (fun q => (u1.mpr q) h3)
  obtain ⟨e3, u3⟩ := g4
  have e3 : τ4 = r0 σ := e3
  subst e3
  rw [show (Int32.ofInt 0).toInt = 0 from rfl, show (Int32.ofInt 999).toInt = 999 from rfl] at u3
  have v3 := u3.mp h5
  obtain ⟨e4, g4⟩ := g8
  have e4 : τ8 = r0 σ := e4
  subst e4
  obtain ⟨e5, g5⟩ := g9
  have e5 : τ9 = r0 σ := e5
  subst e5
  have e6 := fM_at k6
  have x4 := g4 rfl A w0
  rw [I.1.1, e6.2.2] at x4
  have x5 := g5 rfl A nf nt w0 I
  rw [x4] at x5
  have wl := fWs_le A (Int32.ofNat (fM nf - 1)) nf 24
  rw [x5, o32 (by omega)] at h10
  have z : fWt A nf ≠ 0 := by
    show fWs A (Int32.ofNat (fM nf - 1)) nf 24 ≠ 0
    omega
  exact ⟨rfl, v1, v3, z, x5, 0, Nat.zero_le _, rfl, fun _ _ _ => rfl⟩
theorem sp_295_eftf (a0 : Nat) (a1 : Int32) (a2 : Int32) (σ : zSg) (τ1 : zSg) (r1 : Int32) (τ2 : zSg) (r2 : Int32) (τ4 : zSg) (r4 : Int32) (τ8 : zSg) (r8 : Int32) (τ9 : zSg) (r9 : Int32) (g1 : p_195 a0 a1 (q_w σ a0 0 (.int (Int32.ofInt (0)))) r1 τ1) (g2 : p_176 a0 r1 (Int32.ofInt (1)) τ1 r2 τ2) (h3 : r2.toInt = (0 : Int)) (g4 : p_177 a2 (Int32.ofInt (0)) (Int32.ofInt (999)) τ2 r4 τ4) (h5 : r4.toInt ≠ (0 : Int)) (g8 : p_292 a0 τ4 r8 τ8) (g9 : p_291 a0 r8 τ8 r9 τ9) (h10 : r9.toInt = (0 : Int)) :
    p_295 (a0) (a1) (a2) σ (Int32.ofInt (0)) τ9 := by
  rintro rfl A nf nt w I
  have k6 := I.1.2.1
  have w0 : rW (r0 σ) A := w.el (by omega)
  obtain ⟨e1, u1⟩ := g1
  have e1 : τ1 = r0 σ := e1
  subst e1
  have u1 := u1 rfl A w0 nf I.1.1 k6
  obtain ⟨x2, y2, n2⟩ := g2
  rw [x2] at h3
  have e2 := n2 h3
  subst e2
  have v1 : 0 ≤ a1.toInt ∧ a1.toInt < (nf : Int) := Decidable.byContradiction (fun q => (u1.mpr q) h3)
  obtain ⟨e3, u3⟩ := g4
  have e3 : τ4 = r0 σ := e3
  subst e3
  rw [show (Int32.ofInt 0).toInt = 0 from rfl, show (Int32.ofInt 999).toInt = 999 from rfl] at u3
  have v3 := u3.mp h5
  obtain ⟨e4, g4⟩ := g8
  have e4 : τ8 = r0 σ := e4
  subst e4
  obtain ⟨e5, g5⟩ := g9
  have e5 : τ9 = r0 σ := e5
  subst e5
  have e6 := fM_at k6
  have x4 := g4 rfl A w0
  rw [I.1.1, e6.2.2] at x4
  have x5 := g5 rfl A nf nt w0 I
  rw [x4] at x5
  have wl := fWs_le A (Int32.ofNat (fM nf - 1)) nf 24
  rw [x5, o32 (by omega)] at h10
  have z : fWt A nf = 0 := by
    show fWs A (Int32.ofNat (fM nf - 1)) nf 24 = 0
    omega
  refine ⟨fun q => absurd v1 q, fun F _ _ => ⟨fun q => absurd v3 q, fun _ => ⟨rfl, ?_⟩⟩⟩
  unfold fPa
  rw [if_pos z]
theorem sp_295_eff (a0 : Nat) (a1 : Int32) (a2 : Int32) (σ : zSg) (τ1 : zSg) (r1 : Int32) (τ2 : zSg) (r2 : Int32) (τ4 : zSg) (r4 : Int32) (g1 : p_195 a0 a1 (q_w σ a0 0 (.int (Int32.ofInt (0)))) r1 τ1) (g2 : p_176 a0 r1 (Int32.ofInt (1)) τ1 r2 τ2) (h3 : r2.toInt = (0 : Int)) (g4 : p_177 a2 (Int32.ofInt (0)) (Int32.ofInt (999)) τ2 r4 τ4) (h5 : r4.toInt = (0 : Int)) :
    p_295 (a0) (a1) (a2) σ (Int32.ofInt (0)) (q_w τ4 a0 0 (.int (Int32.ofInt (2)))) := by
  rintro rfl A nf nt w I
  have k6 := I.1.2.1
  have w0 : rW (r0 σ) A := w.el (by omega)
  obtain ⟨e1, u1⟩ := g1
  have e1 : τ1 = r0 σ := e1
  subst e1
  have u1 := u1 rfl A w0 nf I.1.1 k6
  obtain ⟨x2, y2, n2⟩ := g2
  rw [x2] at h3
  have e2 := n2 h3
  subst e2
  have v1 : 0 ≤ a1.toInt ∧ a1.toInt < (nf : Int) := Decidable.byContradiction (fun q => (u1.mpr q) h3)
  obtain ⟨e3, u3⟩ := g4
  have e3 : τ4 = r0 σ := e3
  subst e3
  rw [show (Int32.ofInt 0).toInt = 0 from rfl, show (Int32.ofInt 999).toInt = 999 from rfl] at u3
  exact ⟨fun q => absurd v1 q, fun F _ _ => ⟨fun _ => ⟨rfl, r0_T⟩, fun q => absurd h5 (u3.mpr q)⟩⟩
theorem sp_295_c37_t (a0 : Nat) (a1 : Int32) (a2 : Int32) (σ : zSg) (l0 : Nat) (l1 : Int32) (l2 : Int32) (l3 : Int32) (l4 : Int64) (l6 : Int32) (τ : zSg) (τ13 : zSg) (r13 : Int32) (τ15 : zSg) (r15 : Int32) (τ16 : zSg) (r16 : Int32) (hI : i_295 a0 a1 a2 σ l0 l1 l2 l3 l4 l6 τ) (g13 : p_292 l0 τ r13 τ13) (h14 : l6.toInt > r13.toInt) (g15 : p_184 l0 τ13 r15 τ15) (g16 : p_294 r15 τ15 r16 τ16) :
    p_295 (a0) (a1) (a2) σ ((((((Int32.ofInt (100)) * l2).toInt64) * l4) / (r16.toInt64 * l3.toInt64)).toInt32) τ16 := by
  obtain ⟨ea1, ga1⟩ := g13
  subst ea1
  obtain ⟨ea2, ga2⟩ := g15
  subst ea2
  obtain ⟨ea3, ga3⟩ := g16
  subst ea3
  obtain ⟨rfl, rfl, rfl, hI⟩ := hI
  rintro rfl A nf nt w I
  obtain ⟨e0, v1, v3, n0, e5, s, hs, e8, eG⟩ := hI rfl A nf nt w I
  have k6 := I.1.2.1
  have e6 := fM_at k6
  have w0 : rW τ16 A := by rw [e0]; exact w.el (by omega)
  have y1 := ga1 rfl A w0
  rw [I.1.1, e6.2.2] at y1
  rw [y1, e8, o32 (by omega), o32 (by omega)] at h14
  have y2 := ga2 rfl A w0
  have y3 := ga3 nf (y2.trans I.1.1) (by omega)
  have : s = fM nf := by omega
  subst this
  obtain ⟨M, hM, eM⟩ := i_ex (n := 1000) (a := l2) ⟨v3.1, by omega⟩ (by omega)
  refine ⟨fun q => absurd v1 q, fun F eF hF => ⟨fun q => absurd v3 q, fun _ => ⟨e0, ?_⟩⟩⟩
  unfold fPa
  rw [if_neg n0, y3, fO_at (by omega), e5, eG F eF hF, eM, hd_at hM]
theorem sp_295_c37_ft (a0 : Nat) (a1 : Int32) (a2 : Int32) (σ : zSg) (l0 : Nat) (l1 : Int32) (l2 : Int32) (l3 : Int32) (l4 : Int64) (l6 : Int32) (τ : zSg) (τ13 : zSg) (r13 : Int32) (τ17 : zSg) (r17 : Int32) (τ19 : zSg) (r19 : Int32) (τ20 : zSg) (r20 : Int32) (τ21 : zSg) (r21 : Int32) (τ22 : zSg) (r22 : Int32) (τ23 : zSg) (r23 : Int32) (τ24 : zSg) (r24 : Int32) (hI : i_295 a0 a1 a2 σ l0 l1 l2 l3 l4 l6 τ) (g13 : p_292 l0 τ r13 τ13) (h14 : l6.toInt ≤ r13.toInt) (g17 : p_178 l6 l1 τ13 r17 τ17) (h18 : r17.toInt = (0 : Int)) (g19 : p_311 l6 τ17 r19 τ19) (g20 : p_294 r19 τ19 r20 τ20) (g21 : p_184 l0 τ20 r21 τ21) (g22 : p_294 ((r21 - (Int32.ofInt (1))) - r19) τ21 r22 τ22) (g23 : p_291 l0 (l6 ||| ((Int32.ofInt (1)) <<< (l1 &&& 31))) τ22 r23 τ23) (g24 : p_291 l0 l6 τ23 r24 τ24) :
    i_295 a0 a1 a2 σ l0 l1 l2 l3 (l4 + ((r20.toInt64 * r22.toInt64) * ((r23 - r24).toInt64))) (l6 + Int32.ofInt (1)) τ24 := by
  obtain ⟨ea1, ga1⟩ := g13
  subst ea1
  obtain ⟨ea2, ga2⟩ := g17
  subst ea2
  obtain ⟨ea3, ga3⟩ := g19
  subst ea3
  obtain ⟨ea4, ga4⟩ := g20
  subst ea4
  obtain ⟨ea5, ga5⟩ := g21
  subst ea5
  obtain ⟨ea6, ga6⟩ := g22
  subst ea6
  obtain ⟨ea7, ga7⟩ := g23
  subst ea7
  obtain ⟨ea8, ga8⟩ := g24
  subst ea8
  obtain ⟨rfl, rfl, rfl, hI⟩ := hI
  refine ⟨rfl, rfl, rfl, ?_⟩
  rintro rfl A nf nt w I
  obtain ⟨e0, v1, v3, n0, e5, s, hs, e8, eG⟩ := hI rfl A nf nt w I
  have k6 := I.1.2.1
  have e6 := fM_at k6
  have w0 : rW τ24 A := by rw [e0]; exact w.el (by omega)
  have y1 := ga1 rfl A w0
  rw [I.1.1, e6.2.2] at y1
  rw [y1, e8, o32 (by omega), o32 (by omega)] at h14
  refine ⟨e0, v1, v3, n0, e5, s + 1, by omega, by rw [e8]; exact o32i (by omega), fun F eF hF => ?_⟩
  have eG := eG F eF hF
  have pb := (pb_at (s := s) (F := F) (by omega) (by omega)).1
  rw [ga2, e8, eF, pb] at h18
  have q : ¬ s / 2 ^ F % 2 = 1 := fun q => by
    rw [decide_eq_true q] at h18
    exact absurd h18 (by decide)
  have pk := pn_at k6 (show s < fM nf by omega) hF q
  show _ = if s / 2 ^ F % 2 = 1 then fGr A F nf s else fGr A F nf s + fGq A F nf s
  have z3 : r19 = Int32.ofNat (pc s) := by rw [ga3, e8]; exact pc_at (by omega)
  have z4 := ga4 (pc s) z3 (by omega)
  have z5 := ga5 rfl A w0
  have z6 := ga6 (nf - 1 - pc s) (by rw [z5, I.1.1, z3]; exact i_sb k6 pk) (by omega)
  have z7 := ga7 rfl A nf nt w0 I
  have z8 := ga8 rfl A nf nt w0 I
  rw [if_neg q, z4, z6, z7, z8, fO_at (by omega), fO_at (by omega), e8, eF, eG]
  rfl
theorem sp_295_c37_ff (a0 : Nat) (a1 : Int32) (a2 : Int32) (σ : zSg) (l0 : Nat) (l1 : Int32) (l2 : Int32) (l3 : Int32) (l4 : Int64) (l6 : Int32) (τ : zSg) (τ13 : zSg) (r13 : Int32) (τ17 : zSg) (r17 : Int32) (hI : i_295 a0 a1 a2 σ l0 l1 l2 l3 l4 l6 τ) (g13 : p_292 l0 τ r13 τ13) (h14 : l6.toInt ≤ r13.toInt) (g17 : p_178 l6 l1 τ13 r17 τ17) (h18 : r17.toInt ≠ (0 : Int)) :
    i_295 a0 a1 a2 σ l0 l1 l2 l3 l4 (l6 + Int32.ofInt (1)) τ17 := by
  obtain ⟨ea1, ga1⟩ := g13
  subst ea1
  obtain ⟨ea2, ga2⟩ := g17
  subst ea2
  obtain ⟨rfl, rfl, rfl, hI⟩ := hI
  refine ⟨rfl, rfl, rfl, ?_⟩
  rintro rfl A nf nt w I
  obtain ⟨e0, v1, v3, n0, e5, s, hs, e8, eG⟩ := hI rfl A nf nt w I
  have k6 := I.1.2.1
  have e6 := fM_at k6
  have w0 : rW τ17 A := by rw [e0]; exact w.el (by omega)
  have y1 := ga1 rfl A w0
  rw [I.1.1, e6.2.2] at y1
  rw [y1, e8, o32 (by omega), o32 (by omega)] at h14
  refine ⟨e0, v1, v3, n0, e5, s + 1, by omega, by rw [e8]; exact o32i (by omega), fun F eF hF => ?_⟩
  have eG := eG F eF hF
  have pb := (pb_at (s := s) (F := F) (by omega) (by omega)).1
  rw [ga2, e8, eF, pb] at h18
  show l4 = if s / 2 ^ F % 2 = 1 then fGr A F nf s else fGr A F nf s + fGq A F nf s
  by_cases q : s / 2 ^ F % 2 = 1
  · rw [if_pos q, eG]
  · rw [decide_eq_false q] at h18
    exact absurd rfl h18
noncomputable def qP_295 : zPp := fun as σ o σ' => match as with
  | [a0, a1, a2] => ∃ r, o = .inl (some (.int r)) ∧ p_295 (q_r a0) (q_i a1) (q_i a2) σ r σ'
  | _ => True
set_option maxRecDepth 100000 in
theorem sp_295 {sx : zX} (S195 : zEe sx 195 2 qP_195) (S176 : zEe sx 176 3 qP_176) (S177 : zEe sx 177 3 qP_177) (S292 : zEe sx 292 1 qP_292) (S291 : zEe sx 291 2 qP_291) (S184 : zEe sx 184 1 qP_184) (S294 : zEe sx 294 1 qP_294) (S178 : zEe sx 178 2 qP_178) (S311 : zEe sx 311 1 qP_311) : zEe sx 295 3 qP_295 := by
  refine zfle zJ_295 (sps := [(195, 2, qP_195), (176, 3, qP_176), (177, 3, qP_177), (292, 1, qP_292), (291, 2, qP_291), (184, 1, qP_184), (294, 1, qP_294), (178, 2, qP_178), (311, 1, qP_311)]) (fun q hq => by
    simp only [List.mem_cons, List.not_mem_nil, or_false] at hq
    rcases hq with rfl | rfl | rfl | rfl | rfl | rfl | rfl | rfl | rfl
    · exact S195
    · exact S176
    · exact S177
    · exact S292
    · exact S291
    · exact S184
    · exact S294
    · exact S178
    · exact S311) (fun as σ hl => ?_)
  match as, hl with
  | [a0, a1, a2], _ =>
  refine ⟨[(37, fun lo st τ => st = [] ∧ i_295 (q_r a0) (q_i a1) (q_i a2) σ (q_r (lo 0)) (q_i (lo 1)) (q_i (lo 2)) (q_i (lo 3)) (q_l (lo 4)) (q_i (lo 6)) τ)], 400, ?_, ?_⟩
  · intro q hq
    simp only [List.mem_cons, List.not_mem_nil, or_false] at hq
    rcases hq with rfl
    · rintro lo st τ ⟨rfl, hI⟩
      refine ⟨400, ?_⟩
      refine fun o13 τ13 g13 => ?_
      obtain ⟨r13, rfl, g13⟩ := g13
      refine And.intro (fun h14 => ?_) (fun h14 => ?_)
      · refine fun o15 τ15 g15 => ?_
        obtain ⟨r15, rfl, g15⟩ := g15
        refine fun o16 τ16 g16 => ?_
        obtain ⟨r16, rfl, g16⟩ := g16
        exact ⟨_, rfl, sp_295_c37_t (q_r a0) (q_i a1) (q_i a2) σ (q_r (lo 0)) (q_i (lo 1)) (q_i (lo 2)) (q_i (lo 3)) (q_l (lo 4)) (q_i (lo 6)) τ τ13 r13 τ15 r15 τ16 r16 hI g13 (cm4t h14) g15 g16⟩
      · refine fun o17 τ17 g17 => ?_
        obtain ⟨r17, rfl, g17⟩ := g17
        refine And.intro (fun h18 => ?_) (fun h18 => ?_)
        · refine fun o19 τ19 g19 => ?_
          obtain ⟨r19, rfl, g19⟩ := g19
          refine fun o20 τ20 g20 => ?_
          obtain ⟨r20, rfl, g20⟩ := g20
          refine fun o21 τ21 g21 => ?_
          obtain ⟨r21, rfl, g21⟩ := g21
          refine fun o22 τ22 g22 => ?_
          obtain ⟨r22, rfl, g22⟩ := g22
          refine fun o23 τ23 g23 => ?_
          obtain ⟨r23, rfl, g23⟩ := g23
          refine fun o24 τ24 g24 => ?_
          obtain ⟨r24, rfl, g24⟩ := g24
          exact ⟨rfl, sp_295_c37_ft (q_r a0) (q_i a1) (q_i a2) σ (q_r (lo 0)) (q_i (lo 1)) (q_i (lo 2)) (q_i (lo 3)) (q_l (lo 4)) (q_i (lo 6)) τ τ13 r13 τ17 r17 τ19 r19 τ20 r20 τ21 r21 τ22 r22 τ23 r23 τ24 r24 hI g13 (cm4f h14) g17 (cm0t h18) g19 g20 g21 g22 g23 g24⟩
        · exact ⟨rfl, sp_295_c37_ff (q_r a0) (q_i a1) (q_i a2) σ (q_r (lo 0)) (q_i (lo 1)) (q_i (lo 2)) (q_i (lo 3)) (q_l (lo 4)) (q_i (lo 6)) τ τ13 r13 τ17 r17 hI g13 (cm4f h14) g17 (cm0f h18)⟩
  · refine fun o1 τ1 g1 => ?_
    obtain ⟨r1, rfl, g1⟩ := g1
    refine fun o2 τ2 g2 => ?_
    obtain ⟨r2, rfl, g2⟩ := g2
    refine And.intro (fun h3 => ?_) (fun h3 => ?_)
    · exact ⟨_, rfl, sp_295_et (q_r a0) (q_i a1) (q_i a2) σ τ1 r1 τ2 r2 g1 g2 (cm1t h3)⟩
    · refine fun o4 τ4 g4 => ?_
      obtain ⟨r4, rfl, g4⟩ := g4
      refine And.intro (fun h5 => ?_) (fun h5 => ?_)
      · refine fun o6 τ6 g6 => ?_
        obtain ⟨r6, rfl, rfl, y6, z6⟩ := g6
        have e6 := (z6 rfl).symm
        subst e6
        refine And.intro (fun _ => ?_) (fun h7 => absurd (show z_cmp 0 (Int32.ofInt (0)) 0 = false from h7) (by decide))
        refine fun o8 τ8 g8 => ?_
        obtain ⟨r8, rfl, g8⟩ := g8
        refine fun o9 τ9 g9 => ?_
        obtain ⟨r9, rfl, g9⟩ := g9
        refine And.intro (fun h10 => ?_) (fun h10 => ?_)
        · exact ⟨rfl, sp_295_eftt (q_r a0) (q_i a1) (q_i a2) σ τ1 r1 τ2 r2 τ4 r4 τ8 r8 τ9 r9 g1 g2 (cm1f h3) g4 (cm1t h5) g8 g9 (cm1t h10)⟩
        · exact ⟨_, rfl, sp_295_eftf (q_r a0) (q_i a1) (q_i a2) σ τ1 r1 τ2 r2 τ4 r4 τ8 r8 τ9 r9 g1 g2 (cm1f h3) g4 (cm1t h5) g8 g9 (cm1f h10)⟩
      · refine fun o11 τ11 g11 => ?_
        obtain ⟨r11, rfl, rfl, y11, z11⟩ := g11
        have e11 := (y11 (by decide)).symm
        subst e11
        refine And.intro (fun h12 => absurd (show z_cmp 0 (Int32.ofInt (1)) 0 = true from h12) (by decide)) (fun _ => ?_)
        exact ⟨_, rfl, sp_295_eff (q_r a0) (q_i a1) (q_i a2) σ τ1 r1 τ2 r2 τ4 r4 g1 g2 (cm1f h3) g4 (cm1f h5)⟩
theorem zJ_330 : zJ3 330 z_m330 z_c330 z_h330 := ⟨rfl, rfl, rfl⟩
noncomputable def p_330 (a : Nat) (a1 a2 : Int32) (o : Nat) (σ : zSg) (k : Int32) (σ' : zSg) : Prop := ∃ e τ, p_143 a a1 a2 σ e τ ∧ ((∃ v, e = .inl v ∧ k = Int32.ofInt 0 ∧ σ' = q_w τ o 0 (.long v.toInt64)) ∨ (e = .inr 2 ∧ k = Int32.ofInt 1 ∧ σ' = τ) ∨ (e = .inr 0 ∧ k = Int32.ofInt 2 ∧ σ' = τ))
theorem sp_330_en (a0 : Nat) (a1 : Int32) (a2 : Int32) (a3 : Nat) (σ : zSg) (τ1 : zSg) (r1 : Int32) (g1 : p_143 a0 a1 a2 σ (.inl r1) τ1) (h2 : 0 ≤ (Int32.ofInt (0)).toInt ∧ (Int32.ofInt (0)).toInt < (τ1.2.1 a3 : Int)) :
    p_330 (a0) (a1) (a2) (a3) σ (Int32.ofInt (0)) (q_w τ1 a3 (Int32.ofInt (0)).toNatClampNeg (.long r1.toInt64)) := by
  exact ⟨_, _, g1, Or.inl ⟨_, rfl, rfl, rfl⟩⟩
theorem sp_330_ex2_ (a0 : Nat) (a1 : Int32) (a2 : Int32) (a3 : Nat) (σ : zSg) (τ1 : zSg) (g1 : p_143 a0 a1 a2 σ (.inr 2) τ1) :
    p_330 (a0) (a1) (a2) (a3) σ (Int32.ofInt (1)) τ1 := by
  exact ⟨_, _, g1, Or.inr (Or.inl (⟨rfl, rfl, rfl⟩))⟩
theorem sp_330_ex0_ (a0 : Nat) (a1 : Int32) (a2 : Int32) (a3 : Nat) (σ : zSg) (τ1 : zSg) (g1 : p_143 a0 a1 a2 σ (.inr 0) τ1) :
    p_330 (a0) (a1) (a2) (a3) σ (Int32.ofInt (2)) τ1 := by
  exact ⟨_, _, g1, Or.inr (Or.inr (⟨rfl, rfl, rfl⟩))⟩
noncomputable def qP_330 : zPp := fun as σ o σ' => match as with
  | [a0, a1, a2, a3] => ∃ r, o = .inl (some (.int r)) ∧ p_330 (q_r a0) (q_i a1) (q_i a2) (q_r a3) σ r σ'
  | _ => True
set_option maxRecDepth 100000 in
theorem sp_330 {sx : zX} (S143 : zEe sx 143 3 qP_143) : zEe sx 330 4 qP_330 := by
  refine zfle zJ_330 (sps := [(143, 3, qP_143)]) (fun q hq => by
    simp only [List.mem_cons, List.not_mem_nil, or_false] at hq
    rcases hq with rfl
    · exact S143) (fun as σ hl => ?_)
  match as, hl with
  | [a0, a1, a2, a3], _ =>
  refine ⟨[], 400, ?_, ?_⟩
  · exact fun q hq => absurd hq List.not_mem_nil
  · refine fun o1 τ1 g1 => ?_
    rcases g1 with ⟨r1, rfl, g1⟩ | ⟨rfl, g1⟩ | ⟨rfl, g1⟩
    · refine fun h2 => ?_
      exact ⟨_, rfl, sp_330_en (q_r a0) (q_i a1) (q_i a2) (q_r a3) σ τ1 r1 g1 (q_inp h2)⟩
    · exact ⟨_, rfl, sp_330_ex2_ (q_r a0) (q_i a1) (q_i a2) (q_r a3) σ τ1 g1⟩
    · exact ⟨_, rfl, sp_330_ex0_ (q_r a0) (q_i a1) (q_i a2) (q_r a3) σ τ1 g1⟩
end
section
/-! who of both sides, exact; printed with wip/gen/gen_eg.py -/
noncomputable def fWho (A : Nat → Int32) (nf : Nat) (T : Nat → Int32) : Nat → Int32
  | 0 => (Int32.ofInt 1 <<< (A 0 &&& 31)) - Int32.ofInt 1
  | n + 1 => fWho A nf T n &&& fDu A nf (T n)
noncomputable def fCn (A : Nat → Int32) (nf : Nat) (x : Int32) : Int := (fBc (fDu A nf x)).toInt
noncomputable def fPr (A : Nat → Int32) (nf : Nat) (T : Nat → Int32) : Nat → Int
  | 0 => 1
  | n + 1 => fPr A nf T n * fCn A nf (T n)
noncomputable def fMn (A : Nat → Int32) (nf : Nat) (T : Nat → Int32) : Nat → Int
  | 0 => 1
  | n + 1 => min 10000 (fMn A nf T n) * fCn A nf (T n)
theorem fCn_b {A : Nat → Int32} {nf : Nat} {x : Int32} (h : nf ≤ 6) : 0 ≤ fCn A nf x ∧ fCn A nf x ≤ 6 := by
  have cut : ∀ (P : Nat → Bool) n, n ≤ 6 → fB P n = fB (fun i => decide (i < n) && P i) 24 := fun P n hn => by
    apply i_bits
    intro i hi
    rw [fB_bit hi n (by omega), fB_bit hi 24 (by omega)]
    by_cases yh1 : i < n
    · rw [decide_eq_true yh1, decide_eq_true (show i < 24 by omega)]
      rfl
    · rw [decide_eq_false yh1]
      cases decide (i < 24) <;> rfl
  have le : ∀ (Q : Nat → Bool) m, (∀ i, 6 ≤ i → Q i = false) → cNb Q (6 + m) ≤ 6 := fun Q m hQ => by
    rw [cNb_add]
    have yh1 := cNb_le Q 6
    have yh2 : ∀ m, cNb (fun i => Q (6 + i)) m = 0 := fun m => by
      induction m with
      | zero => rfl
      | succ m ih =>
        show cNb (fun i => Q (6 + i)) m + (Q (6 + m)).toNat = 0
        rw [ih, hQ _ (by omega)]
        rfl
    rw [yh2]
    omega
  have yh3 : cNb (fun i => decide (i < nf) && decide (A (41 + 4 * i) = x)) 24 ≤ 6 := le (fun i => decide (i < nf) && decide (A (41 + 4 * i) = x)) 18 (fun i hi => by
    rw [decide_eq_false (show ¬ i < nf by omega)]
    rfl)
  unfold fCn fDu
  rw [cut _ nf h, fBc_c, zofNat (by omega)]
  omega
theorem fPr_b {A : Nat → Int32} {nf : Nat} {T : Nat → Int32} (h : nf ≤ 6) : ∀ n, 0 ≤ fPr A nf T n ∧ fPr A nf T n ≤ 6 ^ n
  | 0 => ⟨by show (0 : Int) ≤ 1; decide, by show (1 : Int) ≤ 6 ^ 0; decide⟩
  | n + 1 => by
    obtain ⟨yh1, yh2⟩ := fPr_b (A := A) (T := T) h n
    obtain ⟨yh3, yh4⟩ := fCn_b (A := A) (x := T n) h
    refine ⟨Int.mul_nonneg yh1 yh3, ?_⟩
    rw [Int.pow_succ]
    exact Int.mul_le_mul yh2 yh4 yh3 (Int.le_trans yh1 yh2)
theorem fMn_b {A : Nat → Int32} {nf : Nat} {T : Nat → Int32} (h : nf ≤ 6) : ∀ n, 0 ≤ fMn A nf T n ∧ fMn A nf T n ≤ 60000
  | 0 => ⟨by show (0 : Int) ≤ 1; decide, by show (1 : Int) ≤ 60000; decide⟩
  | n + 1 => by
    obtain ⟨yh1, yh2⟩ := fMn_b (A := A) (T := T) h n
    obtain ⟨yh3, yh4⟩ := fCn_b (A := A) (x := T n) h
    have yh5 : min 10000 (fMn A nf T n) * fCn A nf (T n) ≤ 10000 * 6 := Int.mul_le_mul (by omega) yh4 yh3 (by omega)
    exact ⟨Int.mul_nonneg (by omega) yh3, yh5⟩
theorem fMP {A : Nat → Int32} {nf : Nat} {T : Nat → Int32} (h : nf ≤ 6) : ∀ n, min 10000 (fMn A nf T n) = min 10000 (fPr A nf T n)
  | 0 => rfl
  | n + 1 => by
    have ih := fMP (A := A) (T := T) h n
    obtain ⟨yh1, yh2⟩ := fPr_b (A := A) (T := T) h n
    obtain ⟨yh3, yh4⟩ := fCn_b (A := A) (x := T n) h
    show min 10000 (min 10000 (fMn A nf T n) * fCn A nf (T n)) = min 10000 (fPr A nf T n * fCn A nf (T n))
    rw [ih]
    by_cases hp : fPr A nf T n ≤ 10000
    · rw [Int.min_eq_right hp]
    · rw [Int.min_eq_left (show (10000 : Int) ≤ fPr A nf T n by omega)]
      by_cases h0 : fCn A nf (T n) = 0
      · rw [h0, Int.mul_zero, Int.mul_zero]
      · have k1 : (10000 : Int) * 1 ≤ 10000 * fCn A nf (T n) := Int.mul_le_mul_of_nonneg_left (by omega) (by omega)
        have k2 : (10000 : Int) * 1 ≤ fPr A nf T n * fCn A nf (T n) := Int.mul_le_mul (by omega) (by omega) (by omega) (by omega)
        omega
theorem fWh_cg {A : Nat → Int32} {nf : Nat} {T T' : Nat → Int32} : ∀ n, (∀ k, k < n → T k = T' k) → fWho A nf T n = fWho A nf T' n
  | 0, _ => rfl
  | n + 1, h => by
    show fWho A nf T n &&& fDu A nf (T n) = fWho A nf T' n &&& fDu A nf (T' n)
    rw [fWh_cg n (fun k hk => h k (by omega)), h n (by omega)]
theorem fMn_cg {A : Nat → Int32} {nf : Nat} {T T' : Nat → Int32} : ∀ n, (∀ k, k < n → T k = T' k) → fMn A nf T n = fMn A nf T' n
  | 0, _ => rfl
  | n + 1, h => by
    show min 10000 (fMn A nf T n) * fCn A nf (T n) = min 10000 (fMn A nf T' n) * fCn A nf (T' n)
    rw [fMn_cg n (fun k hk => h k (by omega)), h n (by omega)]
/-- what is told, of the class's tape and of the reference's -/
noncomputable def tT (σ : zSg) (k : Nat) : Int32 := q_i (σ.1 2 k)
noncomputable def tR (σ : zSg) (k : Nat) : Int32 := q_i (σ.1 211 k)
noncomputable def zTw (σ : zSg) (E : Nat) : Prop := σ.1 1 0 = .ref 2 ∧ cS0 σ 1 E
noncomputable def rtC (σ : zSg) (E : Nat) : Prop := E ≤ 20 ∧ ∀ k, k < E → (tT σ k).toInt ≤ 9
noncomputable def rtR (σ : zSg) (E : Nat) : Prop := E ≤ 20 ∧ ∀ k, k < E → 0 ≤ (tR σ k).toInt ∧ (tR σ k).toInt ≤ 9
theorem w_d0 {σ : zSg} (X : xSk σ) : q_r (σ.1 0 0) = 1 := by rw [X.1]; rfl
theorem w_d2 {σ : zSg} (X : xSk σ) : q_r (σ.1 0 2) = 8 := by rw [X.2.1]; rfl
theorem w_len {σ : zSg} {E : Nat} (Z : zTw σ E) : q_i (σ.1 1 1) = Int32.ofNat E := by rw [Z.2.2.1]; rfl
theorem w_t {σ : zSg} {E : Nat} (Z : zTw σ E) : q_r (σ.1 1 0) = 2 := by rw [Z.1]; rfl
theorem w_E {σ : zSg} {E : Nat} (Z : zTw σ E) : E ≤ 400 := Z.2.2.2.1
theorem w_cmp {x y : Int64} : (lg_cmp x y).toInt ≤ 0 ↔ x.toInt ≤ y.toInt := by
  unfold lg_cmp
  simp only [gt_iff_lt, Int64.lt_iff_toInt_lt, ← Int64.toInt_inj]
  split
  · constructor <;> intro h <;> first | omega | exact absurd h (by decide)
  · split
    · constructor <;> intro h <;> first | omega | decide
    · constructor <;> intro h <;> first | omega | decide
noncomputable def p_86w (t : Nat) (x : Int32) (σ : zSg) (r : Int32) (σ' : zSg) : Prop := σ' = σ ∧ ∀ E, cS0 σ t E → ∀ k : Nat, x = Int32.ofNat k → k < E → r = q_i (σ.1 (q_r (σ.1 t 0)) k)
theorem sp_86w_et (a0 : Nat) (a1 : Int32) (σ : zSg) (h1 : a1.toInt < (0 : Int)) :
    p_86w (a0) (a1) σ (Int32.ofInt (-1)) σ := by
  refine ⟨rfl, fun E S k hx hk => ?_⟩
  subst hx
  have hE := S.2.2.1
  exfalso
  rw [o32 (by omega)] at h1
  omega
theorem sp_86w_eft (a0 : Nat) (a1 : Int32) (σ : zSg) (h1 : a1.toInt ≥ (0 : Int)) (h2 : a1.toInt ≥ (q_i (σ.1 a0 1)).toInt) :
    p_86w (a0) (a1) σ (Int32.ofInt (-1)) σ := by
  refine ⟨rfl, fun E S k hx hk => ?_⟩
  subst hx
  have hE := S.2.2.1
  exfalso
  rw [S.2.1] at h2
  have B9 : (Int32.ofNat k).toInt ≥ (Int32.ofNat E).toInt := h2
  rw [o32 (by omega), o32 (by omega)] at B9
  omega
theorem sp_86w_efft (a0 : Nat) (a1 : Int32) (σ : zSg) (h1 : a1.toInt ≥ (0 : Int)) (h2 : a1.toInt < (q_i (σ.1 a0 1)).toInt) (h3 : a1.toInt ≥ (400 : Int)) :
    p_86w (a0) (a1) σ (Int32.ofInt (-1)) σ := by
  refine ⟨rfl, fun E S k hx hk => ?_⟩
  subst hx
  have hE := S.2.2.1
  exfalso
  rw [o32 (by omega)] at h3
  omega
theorem sp_86w_efff (a0 : Nat) (a1 : Int32) (σ : zSg) (h1 : a1.toInt ≥ (0 : Int)) (h2 : a1.toInt < (q_i (σ.1 a0 1)).toInt) (h3 : a1.toInt < (400 : Int)) (h4 : 0 ≤ a1.toInt ∧ a1.toInt < (σ.2.1 (q_r (σ.1 a0 0)) : Int)) :
    p_86w (a0) (a1) σ (q_i (σ.1 (q_r (σ.1 a0 0)) a1.toNatClampNeg)) σ := by
  refine ⟨rfl, fun E S k hx hk => ?_⟩
  subst hx
  have hE := S.2.2.1
  rw [o32n (by omega)]
noncomputable def qP_86w : zPp := fun as σ o σ' => match as with
  | [a0, a1] => ∃ r, o = .inl (some (.int r)) ∧ p_86w (q_r a0) (q_i a1) σ r σ'
  | _ => True
set_option maxRecDepth 100000 in
theorem sp_86w {sx : zX}  : zEe sx 86 2 qP_86w := by
  refine zfle zJ_86 (sps := []) (fun q hq => absurd hq List.not_mem_nil) (fun as σ hl => ?_)
  match as, hl with
  | [a0, a1], _ =>
  refine ⟨[], 400, ?_, ?_⟩
  · exact fun q hq => absurd hq List.not_mem_nil
  · refine And.intro (fun h1 => ?_) (fun h1 => ?_)
    · exact ⟨_, rfl, sp_86w_et (q_r a0) (q_i a1) σ (cm2t h1)⟩
    · refine And.intro (fun h2 => ?_) (fun h2 => ?_)
      · exact ⟨_, rfl, sp_86w_eft (q_r a0) (q_i a1) σ (cm2f h1) (cm3t h2)⟩
      · refine And.intro (fun h3 => ?_) (fun h3 => ?_)
        · exact ⟨_, rfl, sp_86w_efft (q_r a0) (q_i a1) σ (cm2f h1) (cm3f h2) (cm3t h3)⟩
        · refine fun h4 => ?_
          exact ⟨_, rfl, sp_86w_efff (q_r a0) (q_i a1) σ (cm2f h1) (cm3f h2) (cm3f h3) (q_inp h4)⟩
theorem zJ_173 : zJ3 173 z_m173 z_c173 z_h173 := ⟨rfl, rfl, rfl⟩
noncomputable def p_173 (a : Nat) (σ : zSg) (r : Int32) (σ' : zSg) : Prop := a = 0 → xSk σ → σ' = σ ∧ ∀ E, zTw σ E → (r.toInt ≠ 0 ↔ rtC σ E)
noncomputable def i_173 (a : Nat) (σ : zSg) (l0 : Nat) (l1 : Int32) (τ : zSg) : Prop := l0 = a ∧ τ = σ ∧ (a = 0 → xSk σ → ∀ E, zTw σ E → ∃ n, n ≤ E ∧ l1 = Int32.ofNat n ∧ ∀ k, k < n → (tT σ k).toInt ≤ 9)
theorem sp_173_e (a0 : Nat) (σ : zSg)  :
    i_173 a0 σ a0 (Int32.ofInt (0)) σ := by
  exact ⟨rfl, rfl, fun _ X E Z => ⟨0, Nat.zero_le _, rfl, fun k hk => absurd hk (Nat.not_lt_zero _)⟩⟩
theorem sp_173_c2_tt (a0 : Nat) (σ : zSg) (l0 : Nat) (l1 : Int32) (τ : zSg) (hI : i_173 a0 σ l0 l1 τ) (h1 : l1.toInt ≥ (q_i (τ.1 (q_r (τ.1 l0 0)) 1)).toInt) (h2 : (q_i (τ.1 (q_r (τ.1 l0 0)) 1)).toInt > (20 : Int)) :
    p_173 (a0) σ (Int32.ofInt (0)) τ := by
  obtain ⟨rfl, rfl, hI⟩ := hI
  rintro rfl X
  refine ⟨rfl, fun E Z => ?_⟩
  obtain ⟨n, hn, en, yh9⟩ := hI rfl X E Z
  have hE := w_E Z
  rw [w_d0 X, w_len Z, en, o32 (by omega), o32 (by omega)] at h1
  rw [w_d0 X, w_len Z, o32 (by omega)] at h2
  exact ⟨fun q => absurd rfl q, fun q => absurd q.1 (by omega)⟩
theorem sp_173_c2_tf (a0 : Nat) (σ : zSg) (l0 : Nat) (l1 : Int32) (τ : zSg) (hI : i_173 a0 σ l0 l1 τ) (h1 : l1.toInt ≥ (q_i (τ.1 (q_r (τ.1 l0 0)) 1)).toInt) (h2 : (q_i (τ.1 (q_r (τ.1 l0 0)) 1)).toInt ≤ (20 : Int)) :
    p_173 (a0) σ (Int32.ofInt (1)) τ := by
  obtain ⟨rfl, rfl, hI⟩ := hI
  rintro rfl X
  refine ⟨rfl, fun E Z => ?_⟩
  obtain ⟨n, hn, en, yh9⟩ := hI rfl X E Z
  have hE := w_E Z
  rw [w_d0 X, w_len Z, en, o32 (by omega), o32 (by omega)] at h1
  rw [w_d0 X, w_len Z, o32 (by omega)] at h2
  exact ⟨fun _ => ⟨by omega, fun k hk => yh9 k (by omega)⟩, fun _ => by decide⟩
theorem sp_173_c2_ft (a0 : Nat) (σ : zSg) (l0 : Nat) (l1 : Int32) (τ : zSg) (τ3 : zSg) (r3 : Int32) (hI : i_173 a0 σ l0 l1 τ) (h1 : l1.toInt < (q_i (τ.1 (q_r (τ.1 l0 0)) 1)).toInt) (g3 : p_86w (q_r (τ.1 l0 0)) l1 τ r3 τ3) (h4 : r3.toInt ≤ (9 : Int)) :
    i_173 a0 σ l0 (l1 + Int32.ofInt (1)) τ3 := by
  obtain ⟨ea, ga⟩ := g3
  subst ea
  obtain ⟨rfl, rfl, hI⟩ := hI
  refine ⟨rfl, rfl, ?_⟩
  rintro rfl X E Z
  obtain ⟨n, hn, en, yh9⟩ := hI rfl X E Z
  have hE := w_E Z
  rw [w_d0 X, w_len Z, en, o32 (by omega), o32 (by omega)] at h1
  have x1 := ga E (by rw [w_d0 X]; exact Z.2) n en (by omega)
  rw [w_d0 X, w_t Z] at x1
  refine ⟨n + 1, by omega, by rw [en]; exact o32i (by omega), fun k hk => ?_⟩
  by_cases e : k = n
  · subst e
    rw [x1] at h4
    exact h4
  · exact yh9 k (by omega)
theorem sp_173_c2_ff (a0 : Nat) (σ : zSg) (l0 : Nat) (l1 : Int32) (τ : zSg) (τ3 : zSg) (r3 : Int32) (hI : i_173 a0 σ l0 l1 τ) (h1 : l1.toInt < (q_i (τ.1 (q_r (τ.1 l0 0)) 1)).toInt) (g3 : p_86w (q_r (τ.1 l0 0)) l1 τ r3 τ3) (h4 : r3.toInt > (9 : Int)) :
    p_173 (a0) σ (Int32.ofInt (0)) τ3 := by
  obtain ⟨ea, ga⟩ := g3
  subst ea
  obtain ⟨rfl, rfl, hI⟩ := hI
  rintro rfl X
  refine ⟨rfl, fun E Z => ?_⟩
  obtain ⟨n, hn, en, yh9⟩ := hI rfl X E Z
  have hE := w_E Z
  rw [w_d0 X, w_len Z, en, o32 (by omega), o32 (by omega)] at h1
  have x1 := ga E (by rw [w_d0 X]; exact Z.2) n en (by omega)
  rw [w_d0 X, w_t Z] at x1
  rw [x1] at h4
  refine ⟨fun q => absurd rfl q, fun q => ?_⟩
  have := q.2 n (by omega)
  have B9 : (tT _ n).toInt > 9 := h4
  omega
noncomputable def qP_173 : zPp := fun as σ o σ' => match as with
  | [a0] => ∃ r, o = .inl (some (.int r)) ∧ p_173 (q_r a0) σ r σ'
  | _ => True
set_option maxRecDepth 100000 in
theorem sp_173 {sx : zX} (S86 : zEe sx 86 2 qP_86w) : zEe sx 173 1 qP_173 := by
  refine zfle zJ_173 (sps := [(86, 2, qP_86w)]) (fun q hq => by
    simp only [List.mem_cons, List.not_mem_nil, or_false] at hq
    rcases hq with rfl
    · exact S86) (fun as σ hl => ?_)
  match as, hl with
  | [a0], _ =>
  refine ⟨[(2, fun lo st τ => st = [] ∧ i_173 (q_r a0) σ (q_r (lo 0)) (q_i (lo 1)) τ)], 400, ?_, ?_⟩
  · intro q hq
    simp only [List.mem_cons, List.not_mem_nil, or_false] at hq
    rcases hq with rfl
    · rintro lo st τ ⟨rfl, hI⟩
      refine ⟨400, ?_⟩
      refine And.intro (fun h1 => ?_) (fun h1 => ?_)
      · refine And.intro (fun h2 => ?_) (fun h2 => ?_)
        · exact ⟨_, rfl, sp_173_c2_tt (q_r a0) σ (q_r (lo 0)) (q_i (lo 1)) τ hI (cm3t h1) (cm4t h2)⟩
        · exact ⟨_, rfl, sp_173_c2_tf (q_r a0) σ (q_r (lo 0)) (q_i (lo 1)) τ hI (cm3t h1) (cm4f h2)⟩
      · refine fun o3 τ3 g3 => ?_
        obtain ⟨r3, rfl, g3⟩ := g3
        refine And.intro (fun h4 => ?_) (fun h4 => ?_)
        · exact ⟨rfl, sp_173_c2_ft (q_r a0) σ (q_r (lo 0)) (q_i (lo 1)) τ τ3 r3 hI (cm3f h1) g3 (cm5t h4)⟩
        · exact ⟨_, rfl, sp_173_c2_ff (q_r a0) σ (q_r (lo 0)) (q_i (lo 1)) τ τ3 r3 hI (cm3f h1) g3 (cm5f h4)⟩
  · exact ⟨rfl, sp_173_e (q_r a0) σ ⟩
theorem zJ_174 : zJ3 174 z_m174 z_c174 z_h174 := ⟨rfl, rfl, rfl⟩
noncomputable def p_174 (a : Nat) (σ : zSg) (r : Int32) (σ' : zSg) : Prop := a = 0 → xSk σ → σ' = σ ∧ ∀ A nf E, hH σ 8 A → A 0 = Int32.ofNat nf → nf ≤ 6 → zTw σ E → r = fWho A nf (tT σ) E
noncomputable def i_174 (a : Nat) (σ : zSg) (l0 : Nat) (l1 l2 : Int32) (τ : zSg) : Prop := l0 = a ∧ τ = σ ∧ (a = 0 → xSk σ → ∀ A nf E, hH σ 8 A → A 0 = Int32.ofNat nf → nf ≤ 6 → zTw σ E → ∃ n, n ≤ E ∧ l2 = Int32.ofNat n ∧ l1 = fWho A nf (tT σ) n)
theorem sp_174_e (a0 : Nat) (σ : zSg) (τ1 : zSg) (r1 : Int32) (g1 : p_11 (q_r (σ.1 (q_r (σ.1 a0 2)) 1)) σ r1 τ1) :
    i_174 a0 σ a0 r1 (Int32.ofInt (0)) τ1 := by
  obtain ⟨ea, g1⟩ := g1
  subst ea
  refine ⟨rfl, rfl, ?_⟩
  rintro rfl X A nf E K e0 yh6 Z
  refine ⟨0, Nat.zero_le _, rfl, ?_⟩
  exact g1 8 A (by rw [w_d2 X, K.k hk_1]) K
theorem sp_174_c7_t (a0 : Nat) (σ : zSg) (l0 : Nat) (l1 : Int32) (l2 : Int32) (τ : zSg) (hI : i_174 a0 σ l0 l1 l2 τ) (h2 : l2.toInt ≥ (q_i (τ.1 (q_r (τ.1 l0 0)) 1)).toInt) :
    p_174 (a0) σ l1 τ := by
  obtain ⟨rfl, rfl, hI⟩ := hI
  rintro rfl X
  refine ⟨rfl, fun A nf E K e0 yh6 Z => ?_⟩
  obtain ⟨n, hn, en, e1⟩ := hI rfl X A nf E K e0 yh6 Z
  have hE := w_E Z
  rw [w_d0 X, w_len Z, en, o32 (by omega), o32 (by omega)] at h2
  rw [e1, show n = E by omega]
theorem sp_174_c7_f (a0 : Nat) (σ : zSg) (l0 : Nat) (l1 : Int32) (l2 : Int32) (τ : zSg) (τ3 : zSg) (r3 : Int32) (τ4 : zSg) (r4 : Int32) (hI : i_174 a0 σ l0 l1 l2 τ) (h2 : l2.toInt < (q_i (τ.1 (q_r (τ.1 l0 0)) 1)).toInt) (g3 : p_86w (q_r (τ.1 l0 0)) l2 τ r3 τ3) (g4 : p_20 (q_r (τ.1 (q_r (τ.1 l0 2)) 1)) r3 τ3 r4 τ4) :
    i_174 a0 σ l0 (l1 &&& r4) (l2 + Int32.ofInt (1)) τ4 := by
  obtain ⟨ea, ga⟩ := g3
  subst ea
  obtain ⟨eb, gb⟩ := g4
  subst eb
  obtain ⟨rfl, rfl, hI⟩ := hI
  refine ⟨rfl, rfl, ?_⟩
  rintro rfl X A nf E K e0 yh6 Z
  obtain ⟨n, hn, en, e1⟩ := hI rfl X A nf E K e0 yh6 Z
  have hE := w_E Z
  rw [w_d0 X, w_len Z, en, o32 (by omega), o32 (by omega)] at h2
  have x1 := ga E (by rw [w_d0 X]; exact Z.2) n en (by omega)
  rw [w_d0 X, w_t Z] at x1
  have x2 := gb 8 A nf (by rw [w_d2 X, K.k hk_1]) K e0 yh6
  refine ⟨n + 1, by omega, by rw [en]; exact o32i (by omega), ?_⟩
  rw [e1, x2, x1]
  rfl
noncomputable def qP_174 : zPp := fun as σ o σ' => match as with
  | [a0] => ∃ r, o = .inl (some (.int r)) ∧ p_174 (q_r a0) σ r σ'
  | _ => True
set_option maxRecDepth 100000 in
theorem sp_174 {sx : zX} (S11 : zEe sx 11 1 qP_11) (S86 : zEe sx 86 2 qP_86w) (S20 : zEe sx 20 2 qP_20) : zEe sx 174 1 qP_174 := by
  refine zfle zJ_174 (sps := [(11, 1, qP_11), (86, 2, qP_86w), (20, 2, qP_20)]) (fun q hq => by
    simp only [List.mem_cons, List.not_mem_nil, or_false] at hq
    rcases hq with rfl | rfl | rfl
    · exact S11
    · exact S86
    · exact S20) (fun as σ hl => ?_)
  match as, hl with
  | [a0], _ =>
  refine ⟨[(7, fun lo st τ => st = [] ∧ i_174 (q_r a0) σ (q_r (lo 0)) (q_i (lo 1)) (q_i (lo 2)) τ)], 400, ?_, ?_⟩
  · intro q hq
    simp only [List.mem_cons, List.not_mem_nil, or_false] at hq
    rcases hq with rfl
    · rintro lo st τ ⟨rfl, hI⟩
      refine ⟨400, ?_⟩
      refine And.intro (fun h2 => ?_) (fun h2 => ?_)
      · exact ⟨_, rfl, sp_174_c7_t (q_r a0) σ (q_r (lo 0)) (q_i (lo 1)) (q_i (lo 2)) τ hI (cm3t h2)⟩
      · refine fun o3 τ3 g3 => ?_
        obtain ⟨r3, rfl, g3⟩ := g3
        refine fun o4 τ4 g4 => ?_
        obtain ⟨r4, rfl, g4⟩ := g4
        exact ⟨rfl, sp_174_c7_f (q_r a0) σ (q_r (lo 0)) (q_i (lo 1)) (q_i (lo 2)) τ τ3 r3 τ4 r4 hI (cm3f h2) g3 g4⟩
  · refine fun o1 τ1 g1 => ?_
    obtain ⟨r1, rfl, g1⟩ := g1
    exact ⟨rfl, sp_174_e (q_r a0) σ τ1 r1 g1⟩
theorem zJ_175 : zJ3 175 z_m175 z_c175 z_h175 := ⟨rfl, rfl, rfl⟩
noncomputable def p_175 (a : Nat) (σ : zSg) (r : Int32) (σ' : zSg) : Prop := a = 0 → xSk σ → σ' = σ ∧ ∀ A nf E, hH σ 8 A → A 0 = Int32.ofNat nf → nf ≤ 6 → zTw σ E → E ≤ 20 → r.toInt = min 9999 (fPr A nf (tT σ) E)
noncomputable def i_175 (a : Nat) (σ : zSg) (l0 : Nat) (l1 : Int64) (l3 : Int32) (τ : zSg) : Prop := l0 = a ∧ τ = σ ∧ (a = 0 → xSk σ → ∀ A nf E, hH σ 8 A → A 0 = Int32.ofNat nf → nf ≤ 6 → zTw σ E → E ≤ 20 → ∃ n, n ≤ E ∧ l3 = Int32.ofNat n ∧ l1.toInt = fPr A nf (tT σ) n)
theorem sp_175_e (a0 : Nat) (σ : zSg)  :
    i_175 a0 σ a0 (Int64.ofInt (1)) (Int32.ofInt (0)) σ := by
  exact ⟨rfl, rfl, fun _ X A nf E K e0 yh6 Z yh20 => ⟨0, Nat.zero_le _, rfl, by show (Int64.ofInt 1).toInt = 1; decide⟩⟩
theorem sp_175_c4_tt (a0 : Nat) (σ : zSg) (l0 : Nat) (l1 : Int64) (l3 : Int32) (τ : zSg) (hI : i_175 a0 σ l0 l1 l3 τ) (h1 : l3.toInt ≥ (q_i (τ.1 (q_r (τ.1 l0 0)) 1)).toInt) (h2 : (lg_cmp l1 (Int64.ofInt (9999))).toInt ≤ (0 : Int)) :
    p_175 (a0) σ l1.toInt32 τ := by
  obtain ⟨rfl, rfl, hI⟩ := hI
  rintro rfl X
  refine ⟨rfl, fun A nf E K e0 yh6 Z yh20 => ?_⟩
  obtain ⟨n, hn, en, e1⟩ := hI rfl X A nf E K e0 yh6 Z yh20
  rw [w_d0 X, w_len Z, en, o32 (by omega), o32 (by omega)] at h1
  have en2 : n = E := by omega
  subst en2
  have B9 := w_cmp.mp h2
  have c9 : (Int64.ofInt 9999).toInt = 9999 := by decide
  rw [c9, e1] at B9
  have b := (fPr_b (A := A) (T := tT τ) yh6 n).1
  rw [Int64.toInt_toInt32, e1, z_bm (by omega) (by omega)]
  omega
theorem sp_175_c4_tf (a0 : Nat) (σ : zSg) (l0 : Nat) (l1 : Int64) (l3 : Int32) (τ : zSg) (hI : i_175 a0 σ l0 l1 l3 τ) (h1 : l3.toInt ≥ (q_i (τ.1 (q_r (τ.1 l0 0)) 1)).toInt) (h2 : (lg_cmp l1 (Int64.ofInt (9999))).toInt > (0 : Int)) :
    p_175 (a0) σ (Int32.ofInt (9999)) τ := by
  obtain ⟨rfl, rfl, hI⟩ := hI
  rintro rfl X
  refine ⟨rfl, fun A nf E K e0 yh6 Z yh20 => ?_⟩
  obtain ⟨n, hn, en, e1⟩ := hI rfl X A nf E K e0 yh6 Z yh20
  rw [w_d0 X, w_len Z, en, o32 (by omega), o32 (by omega)] at h1
  have en2 : n = E := by omega
  subst en2
  have c9 : (Int64.ofInt 9999).toInt = 9999 := by decide
  have B9 : ¬ l1.toInt ≤ (Int64.ofInt 9999).toInt := fun q => absurd (w_cmp.mpr q) (by omega)
  rw [c9, e1] at B9
  show (9999 : Int) = _
  omega
theorem sp_175_c4_f (a0 : Nat) (σ : zSg) (l0 : Nat) (l1 : Int64) (l3 : Int32) (τ : zSg) (τ3 : zSg) (r3 : Int32) (τ4 : zSg) (r4 : Int32) (τ5 : zSg) (r5 : Int32) (hI : i_175 a0 σ l0 l1 l3 τ) (h1 : l3.toInt < (q_i (τ.1 (q_r (τ.1 l0 0)) 1)).toInt) (g3 : p_86w (q_r (τ.1 l0 0)) l3 τ r3 τ3) (g4 : p_20 (q_r (τ.1 (q_r (τ.1 l0 2)) 1)) r3 τ3 r4 τ4) (g5 : p_311 r4 τ4 r5 τ5) :
    i_175 a0 σ l0 (l1 * r5.toInt64) (l3 + Int32.ofInt (1)) τ5 := by
  obtain ⟨ea, ga⟩ := g3
  subst ea
  obtain ⟨eb, gb⟩ := g4
  subst eb
  obtain ⟨ec, gc⟩ := g5
  subst ec
  obtain ⟨rfl, rfl, hI⟩ := hI
  refine ⟨rfl, rfl, ?_⟩
  rintro rfl X A nf E K e0 yh6 Z yh20
  obtain ⟨n, hn, en, e1⟩ := hI rfl X A nf E K e0 yh6 Z yh20
  rw [w_d0 X, w_len Z, en, o32 (by omega), o32 (by omega)] at h1
  have x1 := ga E (by rw [w_d0 X]; exact Z.2) n en (by omega)
  rw [w_d0 X, w_t Z] at x1
  have x2 := gb 8 A nf (by rw [w_d2 X, K.k hk_1]) K e0 yh6
  refine ⟨n + 1, by omega, by rw [en]; exact o32i (by omega), ?_⟩
  have b := fPr_b (A := A) (T := tT τ5) yh6 n
  have c := fCn_b (A := A) (x := tT τ5 n) yh6
  have p19 : (6 : Int) ^ n ≤ 6 ^ 19 := by
    have := Nat.pow_le_pow_right (n := 6) (by omega) (show n ≤ 19 by omega)
    exact_mod_cast this
  have q19 : (6 : Int) ^ 19 = 609359740010496 := by decide
  have yh1 : fPr A nf (tT τ5) n * fCn A nf (tT τ5 n) ≤ 609359740010496 * 6 := Int.mul_le_mul (by omega) c.2 c.1 (by omega)
  have yh2 : 0 ≤ fPr A nf (tT τ5) n * fCn A nf (tT τ5 n) := Int.mul_nonneg b.1 c.1
  rw [Int64.toInt_mul, Int32.toInt_toInt64, e1, gc, x2, x1]
  exact z_bm64 (by show _ ≤ fPr A nf (tT τ5) n * fCn A nf (tT τ5 n); omega) (by show fPr A nf (tT τ5) n * fCn A nf (tT τ5 n) ≤ _; omega)
noncomputable def qP_175 : zPp := fun as σ o σ' => match as with
  | [a0] => ∃ r, o = .inl (some (.int r)) ∧ p_175 (q_r a0) σ r σ'
  | _ => True
set_option maxRecDepth 100000 in
theorem sp_175 {sx : zX} (S86 : zEe sx 86 2 qP_86w) (S20 : zEe sx 20 2 qP_20) (S311 : zEe sx 311 1 qP_311) : zEe sx 175 1 qP_175 := by
  refine zfle zJ_175 (sps := [(86, 2, qP_86w), (20, 2, qP_20), (311, 1, qP_311)]) (fun q hq => by
    simp only [List.mem_cons, List.not_mem_nil, or_false] at hq
    rcases hq with rfl | rfl | rfl
    · exact S86
    · exact S20
    · exact S311) (fun as σ hl => ?_)
  match as, hl with
  | [a0], _ =>
  refine ⟨[(4, fun lo st τ => st = [] ∧ i_175 (q_r a0) σ (q_r (lo 0)) (q_l (lo 1)) (q_i (lo 3)) τ)], 400, ?_, ?_⟩
  · intro q hq
    simp only [List.mem_cons, List.not_mem_nil, or_false] at hq
    rcases hq with rfl
    · rintro lo st τ ⟨rfl, hI⟩
      refine ⟨400, ?_⟩
      refine And.intro (fun h1 => ?_) (fun h1 => ?_)
      · refine And.intro (fun h2 => ?_) (fun h2 => ?_)
        · exact ⟨_, rfl, sp_175_c4_tt (q_r a0) σ (q_r (lo 0)) (q_l (lo 1)) (q_i (lo 3)) τ hI (cm3t h1) (cm5t h2)⟩
        · exact ⟨_, rfl, sp_175_c4_tf (q_r a0) σ (q_r (lo 0)) (q_l (lo 1)) (q_i (lo 3)) τ hI (cm3t h1) (cm5f h2)⟩
      · refine fun o3 τ3 g3 => ?_
        obtain ⟨r3, rfl, g3⟩ := g3
        refine fun o4 τ4 g4 => ?_
        obtain ⟨r4, rfl, g4⟩ := g4
        refine fun o5 τ5 g5 => ?_
        obtain ⟨r5, rfl, g5⟩ := g5
        exact ⟨rfl, sp_175_c4_f (q_r a0) σ (q_r (lo 0)) (q_l (lo 1)) (q_i (lo 3)) τ τ3 r3 τ4 r4 τ5 r5 hI (cm3f h1) g3 g4 g5⟩
  · exact ⟨rfl, sp_175_e (q_r a0) σ ⟩
noncomputable def p_146 (a : Nat) (b : Int32) (σ : zSg) (e : Int32 ⊕ Nat) (σ' : zSg) : Prop := a = 0 → xSk σ → ∀ A nf E, hH σ 8 A → A 0 = Int32.ofNat nf → nf ≤ 6 → zTw σ E → σ' = q_w σ 1 1 (.int (Int32.ofInt 0)) ∧ (rtC σ E → ∃ v, e = .inl v ∧ (b.toInt = 0 → v = fWho A nf (tT σ) E) ∧ (b.toInt ≠ 0 → v.toInt = min 9999 (fPr A nf (tT σ) E))) ∧ (¬ rtC σ E → e = .inr 0)
theorem sp_146_ett (a0 : Nat) (a1 : Int32) (σ : zSg) (τ1 : zSg) (r1 : Int32) (g1 : p_173 a0 σ r1 τ1) (h2 : r1.toInt = (0 : Int)) (h3 : r1.toInt ≠ (0 : Int)) :
    p_146 (a0) (a1) σ (.inl (Int32.ofInt (-1))) (q_w τ1 (q_r (τ1.1 a0 0)) 1 (.int (Int32.ofInt (0)))) := by
  rintro rfl X A nf E K e0 yh6 Z
  obtain ⟨ea, ga⟩ := g1 rfl X
  subst ea
  have g0 := ga E Z
  exact absurd h2 h3
theorem sp_146_etf (a0 : Nat) (a1 : Int32) (σ : zSg) (τ1 : zSg) (r1 : Int32) (g1 : p_173 a0 σ r1 τ1) (h2 : r1.toInt = (0 : Int)) (h3 : r1.toInt = (0 : Int)) :
    p_146 (a0) (a1) σ (.inr 0) (q_w τ1 (q_r (τ1.1 a0 0)) 1 (.int (Int32.ofInt (0)))) := by
  rintro rfl X A nf E K e0 yh6 Z
  obtain ⟨ea, ga⟩ := g1 rfl X
  subst ea
  have g0 := ga E Z
  refine ⟨by rw [w_d0 X], fun q => absurd h2 (g0.mpr q), fun _ => rfl⟩
theorem sp_146_eftt (a0 : Nat) (a1 : Int32) (σ : zSg) (τ1 : zSg) (r1 : Int32) (τ5 : zSg) (r5 : Int32) (g1 : p_173 a0 σ r1 τ1) (h2 : r1.toInt ≠ (0 : Int)) (h4 : a1.toInt = (0 : Int)) (g5 : p_174 a0 τ1 r5 τ5) (h6 : r1.toInt ≠ (0 : Int)) :
    p_146 (a0) (a1) σ (.inl r5) (q_w τ5 (q_r (τ5.1 a0 0)) 1 (.int (Int32.ofInt (0)))) := by
  rintro rfl X A nf E K e0 yh6 Z
  obtain ⟨ea, ga⟩ := g1 rfl X
  subst ea
  have g0 := ga E Z
  obtain ⟨eb, gb⟩ := g5 rfl X
  subst eb
  refine ⟨by rw [w_d0 X], fun q => ⟨_, rfl, fun _ => gb A nf E K e0 yh6 Z, fun h => absurd h4 h⟩, fun q => absurd (g0.mp h2) q⟩
theorem sp_146_eftf (a0 : Nat) (a1 : Int32) (σ : zSg) (τ1 : zSg) (r1 : Int32) (τ5 : zSg) (r5 : Int32) (g1 : p_173 a0 σ r1 τ1) (h2 : r1.toInt ≠ (0 : Int)) (h4 : a1.toInt = (0 : Int)) (g5 : p_174 a0 τ1 r5 τ5) (h6 : r1.toInt = (0 : Int)) :
    p_146 (a0) (a1) σ (.inr 0) (q_w τ5 (q_r (τ5.1 a0 0)) 1 (.int (Int32.ofInt (0)))) := by
  rintro rfl X A nf E K e0 yh6 Z
  obtain ⟨ea, ga⟩ := g1 rfl X
  subst ea
  have g0 := ga E Z
  obtain ⟨eb, gb⟩ := g5 rfl X
  subst eb
  exact absurd h6 h2
theorem sp_146_efft (a0 : Nat) (a1 : Int32) (σ : zSg) (τ1 : zSg) (r1 : Int32) (τ7 : zSg) (r7 : Int32) (g1 : p_173 a0 σ r1 τ1) (h2 : r1.toInt ≠ (0 : Int)) (h4 : a1.toInt ≠ (0 : Int)) (g7 : p_175 a0 τ1 r7 τ7) (h8 : r1.toInt ≠ (0 : Int)) :
    p_146 (a0) (a1) σ (.inl r7) (q_w τ7 (q_r (τ7.1 a0 0)) 1 (.int (Int32.ofInt (0)))) := by
  rintro rfl X A nf E K e0 yh6 Z
  obtain ⟨ea, ga⟩ := g1 rfl X
  subst ea
  have g0 := ga E Z
  obtain ⟨eb, gb⟩ := g7 rfl X
  subst eb
  refine ⟨by rw [w_d0 X], fun q => ⟨_, rfl, fun h => absurd h h4, fun _ => gb A nf E K e0 yh6 Z q.1⟩, fun q => absurd (g0.mp h2) q⟩
theorem sp_146_efff (a0 : Nat) (a1 : Int32) (σ : zSg) (τ1 : zSg) (r1 : Int32) (τ7 : zSg) (r7 : Int32) (g1 : p_173 a0 σ r1 τ1) (h2 : r1.toInt ≠ (0 : Int)) (h4 : a1.toInt ≠ (0 : Int)) (g7 : p_175 a0 τ1 r7 τ7) (h8 : r1.toInt = (0 : Int)) :
    p_146 (a0) (a1) σ (.inr 0) (q_w τ7 (q_r (τ7.1 a0 0)) 1 (.int (Int32.ofInt (0)))) := by
  rintro rfl X A nf E K e0 yh6 Z
  obtain ⟨ea, ga⟩ := g1 rfl X
  subst ea
  have g0 := ga E Z
  obtain ⟨eb, gb⟩ := g7 rfl X
  subst eb
  exact absurd h8 h2
noncomputable def qP_146 : zPp := fun as σ o σ' => match as with
  | [a0, a1] => (∃ r, o = .inl (some (.int r)) ∧ p_146 (q_r a0) (q_i a1) σ (.inl r) σ') ∨ (o = .inr 0 ∧ p_146 (q_r a0) (q_i a1) σ (.inr 0) σ')
  | _ => True
set_option maxRecDepth 100000 in
theorem sp_146 {sx : zX} (S173 : zEe sx 173 1 qP_173) (S174 : zEe sx 174 1 qP_174) (S175 : zEe sx 175 1 qP_175) : zEe sx 146 2 qP_146 := by
  refine zfle zJ_146 (sps := [(173, 1, qP_173), (174, 1, qP_174), (175, 1, qP_175)]) (fun q hq => by
    simp only [List.mem_cons, List.not_mem_nil, or_false] at hq
    rcases hq with rfl | rfl | rfl
    · exact S173
    · exact S174
    · exact S175) (fun as σ hl => ?_)
  match as, hl with
  | [a0, a1], _ =>
  refine ⟨[], 400, ?_, ?_⟩
  · exact fun q hq => absurd hq List.not_mem_nil
  · refine fun o1 τ1 g1 => ?_
    obtain ⟨r1, rfl, g1⟩ := g1
    refine And.intro (fun h2 => ?_) (fun h2 => ?_)
    · refine And.intro (fun h3 => ?_) (fun h3 => ?_)
      · exact Or.inl ⟨_, rfl, sp_146_ett (q_r a0) (q_i a1) σ τ1 r1 g1 (cm0t h2) (cm1t h3)⟩
      · exact Or.inr (⟨rfl, sp_146_etf (q_r a0) (q_i a1) σ τ1 r1 g1 (cm0t h2) (cm1f h3)⟩)
    · refine And.intro (fun h4 => ?_) (fun h4 => ?_)
      · refine fun o5 τ5 g5 => ?_
        obtain ⟨r5, rfl, g5⟩ := g5
        refine And.intro (fun h6 => ?_) (fun h6 => ?_)
        · exact Or.inl ⟨_, rfl, sp_146_eftt (q_r a0) (q_i a1) σ τ1 r1 τ5 r5 g1 (cm0f h2) (cm0t h4) g5 (cm1t h6)⟩
        · exact Or.inr (⟨rfl, sp_146_eftf (q_r a0) (q_i a1) σ τ1 r1 τ5 r5 g1 (cm0f h2) (cm0t h4) g5 (cm1f h6)⟩)
      · refine fun o7 τ7 g7 => ?_
        obtain ⟨r7, rfl, g7⟩ := g7
        refine And.intro (fun h8 => ?_) (fun h8 => ?_)
        · exact Or.inl ⟨_, rfl, sp_146_efft (q_r a0) (q_i a1) σ τ1 r1 τ7 r7 g1 (cm0f h2) (cm0f h4) g7 (cm1t h8)⟩
        · exact Or.inr (⟨rfl, sp_146_efff (q_r a0) (q_i a1) σ τ1 r1 τ7 r7 g1 (cm0f h2) (cm0f h4) g7 (cm1f h8)⟩)
theorem us_8 {σ : zSg} {k : Nat} (h : k ≠ 0 ∧ k ≠ 9 ∧ k ≠ 10 ∧ k ≠ 11) : (q_us σ 205).1 205 k = σ.1 205 k := by
  unfold q_us
  rw [q_w_ne (fun _ e => h.2.2.1 e), q_w_ne (fun _ e => h.2.1 e), q_w_ne (fun _ e => h.2.2.2 e), q_w_ne (fun _ e => h.1 e)]
theorem us_c {σ : zSg} {c k : Nat} (h : c ≠ 205) : (q_us σ 205).1 c k = σ.1 c k := by
  unfold q_us
  rw [q_w_ne (fun e _ => h e), q_w_ne (fun e _ => h e), q_w_ne (fun e _ => h e), q_w_ne (fun e _ => h e)]
theorem us_11 {σ : zSg} : (q_us σ 205).1 205 11 = .int (q_i (σ.1 205 9)) := by
  unfold q_us
  rw [q_w_ne (fun _ e => absurd e (by decide)), q_w_ne (fun _ e => absurd e (by decide)), q_w_at]
theorem us_0 {σ : zSg} : (q_us σ 205).1 205 0 = .int (Int32.ofInt 0) := by
  unfold q_us
  rw [q_w_ne (fun _ e => absurd e (by decide)), q_w_ne (fun _ e => absurd e (by decide)), q_w_ne (fun _ e => absurd e (by decide)), q_w_at]
theorem us_W {σ : zSg} {A : Nat → Int32} (w : rW σ A) : rW (q_us σ 205) A := ⟨(us_8 (by decide)).trans w.1, fun k hk => (us_c (by decide)).trans (w.2 k hk)⟩
noncomputable def p_299 (a : Nat) (b : Int32) (σ : zSg) (r : Int32) (σ' : zSg) : Prop := a = 205 → ∀ A nf E, rW σ A → A 0 = Int32.ofNat nf → nf ≤ 6 → σ.1 205 8 = .ref 211 → σ.1 205 9 = .int (Int32.ofNat E) → E ≤ 400 → (¬ rtR σ E → σ' = q_w (q_us σ 205) 205 0 (.int (Int32.ofInt 1))) ∧ (rtR σ E → σ' = q_us σ 205 ∧ (b.toInt = 0 → r = fWho A nf (tR σ) E) ∧ (b.toInt ≠ 0 → r.toInt = min 9999 (fMn A nf (tR σ) E)))
noncomputable def i_299 (a : Nat) (b : Int32) (σ : zSg) (l0 : Nat) (l1 l2 l3 : Int32) (τ : zSg) : Prop := l0 = a ∧ l1 = b ∧ τ = q_us σ a ∧ (a = 205 → ∀ A nf E, rW σ A → A 0 = Int32.ofNat nf → nf ≤ 6 → σ.1 205 8 = .ref 211 → σ.1 205 9 = .int (Int32.ofNat E) → E ≤ 400 → ∃ n, n ≤ E ∧ l3 = Int32.ofNat n ∧ (l2.toInt ≠ 0 ↔ E ≤ 20 ∧ ∀ k, k < n → 0 ≤ (tR σ k).toInt ∧ (tR σ k).toInt ≤ 9))
noncomputable def i_299b (a : Nat) (b : Int32) (σ : zSg) (l0 : Nat) (l1 l3 l4 l5 : Int32) (τ : zSg) : Prop := l0 = a ∧ l1 = b ∧ τ = q_us σ a ∧ (a = 205 → ∀ A nf E, rW σ A → A 0 = Int32.ofNat nf → nf ≤ 6 → σ.1 205 8 = .ref 211 → σ.1 205 9 = .int (Int32.ofNat E) → E ≤ 400 → rtR σ E ∧ ∃ n, n ≤ E ∧ l5 = Int32.ofNat n ∧ l3 = fWho A nf (tR σ) n ∧ l4.toInt = fMn A nf (tR σ) n)
theorem sp_299_et (a0 : Nat) (a1 : Int32) (σ : zSg) (τ1 : zSg) (g1 : p_210 a0 σ τ1) (h2 : (q_i (τ1.1 a0 11)).toInt > (20 : Int)) :
    i_299 a0 a1 σ a0 a1 (Int32.ofInt (0)) (Int32.ofInt (0)) τ1 := by
  have ea : τ1 = q_us σ a0 := g1
  subst ea
  refine ⟨rfl, rfl, rfl, ?_⟩
  rintro rfl A nf E w e0 yh6 yh8 yh9 hE
  have u8 : q_r ((q_us σ 205).1 205 8) = 211 := by rw [us_8 (by decide), yh8]; rfl
  have u11 : q_i ((q_us σ 205).1 205 11) = Int32.ofNat E := by rw [us_11, yh9]; rfl
  have ut : ∀ k, q_i ((q_us σ 205).1 211 k) = tR σ k := fun k => by rw [us_c (by decide)]; rfl
  rw [u11, o32 (by omega)] at h2
  exact ⟨0, Nat.zero_le _, rfl, fun q => absurd rfl q, fun q => absurd q.1 (by omega)⟩
theorem sp_299_ef (a0 : Nat) (a1 : Int32) (σ : zSg) (τ1 : zSg) (g1 : p_210 a0 σ τ1) (h2 : (q_i (τ1.1 a0 11)).toInt ≤ (20 : Int)) :
    i_299 a0 a1 σ a0 a1 (Int32.ofInt (1)) (Int32.ofInt (0)) τ1 := by
  have ea : τ1 = q_us σ a0 := g1
  subst ea
  refine ⟨rfl, rfl, rfl, ?_⟩
  rintro rfl A nf E w e0 yh6 yh8 yh9 hE
  have u8 : q_r ((q_us σ 205).1 205 8) = 211 := by rw [us_8 (by decide), yh8]; rfl
  have u11 : q_i ((q_us σ 205).1 205 11) = Int32.ofNat E := by rw [us_11, yh9]; rfl
  have ut : ∀ k, q_i ((q_us σ 205).1 211 k) = tR σ k := fun k => by rw [us_c (by decide)]; rfl
  rw [u11, o32 (by omega)] at h2
  exact ⟨0, Nat.zero_le _, rfl, fun _ => ⟨by omega, fun k hk => absurd hk (Nat.not_lt_zero _)⟩, fun _ => by decide⟩
theorem sp_299_c12_tt (a0 : Nat) (a1 : Int32) (σ : zSg) (l0 : Nat) (l1 : Int32) (l2 : Int32) (l3 : Int32) (τ : zSg) (τ7 : zSg) (r7 : Int32) (hI : i_299 a0 a1 σ l0 l1 l2 l3 τ) (h3 : l3.toInt ≥ (q_i (τ.1 l0 11)).toInt) (h4 : l2.toInt ≠ (0 : Int)) (g7 : p_292 l0 τ r7 τ7) :
    i_299b a0 a1 σ l0 l1 r7 (Int32.ofInt (1)) (Int32.ofInt (0)) τ7 := by
  obtain ⟨ea, ga⟩ := g7
  subst ea
  obtain ⟨rfl, rfl, rfl, hI⟩ := hI
  refine ⟨rfl, rfl, rfl, ?_⟩
  rintro rfl A nf E w e0 yh6 yh8 yh9 hE
  obtain ⟨n, hn, en, e2⟩ := hI rfl A nf E w e0 yh6 yh8 yh9 hE
  have u8 : q_r ((q_us σ 205).1 205 8) = 211 := by rw [us_8 (by decide), yh8]; rfl
  have u11 : q_i ((q_us σ 205).1 205 11) = Int32.ofNat E := by rw [us_11, yh9]; rfl
  have ut : ∀ k, q_i ((q_us σ 205).1 211 k) = tR σ k := fun k => by rw [us_c (by decide)]; rfl
  rw [u11, en, o32 (by omega), o32 (by omega)] at h3
  have r9 : rtR σ E := ⟨(e2.mp h4).1, fun k hk => (e2.mp h4).2 k (by omega)⟩
  exact ⟨r9, 0, Nat.zero_le _, rfl, ga rfl A (us_W w), rfl⟩
theorem sp_299_c12_tf (a0 : Nat) (a1 : Int32) (σ : zSg) (l0 : Nat) (l1 : Int32) (l2 : Int32) (l3 : Int32) (τ : zSg) (hI : i_299 a0 a1 σ l0 l1 l2 l3 τ) (h3 : l3.toInt ≥ (q_i (τ.1 l0 11)).toInt) (h4 : l2.toInt = (0 : Int)) :
    p_299 (a0) (a1) σ (Int32.ofInt (0)) (q_w τ l0 0 (.int (Int32.ofInt (1)))) := by
  obtain ⟨rfl, rfl, rfl, hI⟩ := hI
  rintro rfl A nf E w e0 yh6 yh8 yh9 hE
  obtain ⟨n, hn, en, e2⟩ := hI rfl A nf E w e0 yh6 yh8 yh9 hE
  have u8 : q_r ((q_us σ 205).1 205 8) = 211 := by rw [us_8 (by decide), yh8]; rfl
  have u11 : q_i ((q_us σ 205).1 205 11) = Int32.ofNat E := by rw [us_11, yh9]; rfl
  have ut : ∀ k, q_i ((q_us σ 205).1 211 k) = tR σ k := fun k => by rw [us_c (by decide)]; rfl
  rw [u11, en, o32 (by omega), o32 (by omega)] at h3
  have r9 : ¬ rtR σ E := fun q => absurd h4 (e2.mpr ⟨q.1, fun k hk => q.2 k (by omega)⟩)
  exact ⟨fun _ => rfl, fun q => absurd q r9⟩
theorem sp_299_c12_ftt (a0 : Nat) (a1 : Int32) (σ : zSg) (l0 : Nat) (l1 : Int32) (l2 : Int32) (l3 : Int32) (τ : zSg) (τ14 : zSg) (r14 : Int32) (hI : i_299 a0 a1 σ l0 l1 l2 l3 τ) (h3 : l3.toInt < (q_i (τ.1 l0 11)).toInt) (h10 : l2.toInt = (0 : Int)) (h11 : l2.toInt ≠ (0 : Int)) (g14 : p_292 l0 τ r14 τ14) :
    i_299b a0 a1 σ l0 l1 r14 (Int32.ofInt (1)) (Int32.ofInt (0)) τ14 := by
  exact absurd h10 h11
theorem sp_299_c12_ftf (a0 : Nat) (a1 : Int32) (σ : zSg) (l0 : Nat) (l1 : Int32) (l2 : Int32) (l3 : Int32) (τ : zSg) (hI : i_299 a0 a1 σ l0 l1 l2 l3 τ) (h3 : l3.toInt < (q_i (τ.1 l0 11)).toInt) (h10 : l2.toInt = (0 : Int)) (h11 : l2.toInt = (0 : Int)) :
    p_299 (a0) (a1) σ (Int32.ofInt (0)) (q_w τ l0 0 (.int (Int32.ofInt (1)))) := by
  obtain ⟨rfl, rfl, rfl, hI⟩ := hI
  rintro rfl A nf E w e0 yh6 yh8 yh9 hE
  obtain ⟨n, hn, en, e2⟩ := hI rfl A nf E w e0 yh6 yh8 yh9 hE
  have u8 : q_r ((q_us σ 205).1 205 8) = 211 := by rw [us_8 (by decide), yh8]; rfl
  have u11 : q_i ((q_us σ 205).1 205 11) = Int32.ofNat E := by rw [us_11, yh9]; rfl
  have ut : ∀ k, q_i ((q_us σ 205).1 211 k) = tR σ k := fun k => by rw [us_c (by decide)]; rfl
  rw [u11, en, o32 (by omega), o32 (by omega)] at h3
  have r9 : ¬ rtR σ E := fun q => absurd h10 (e2.mpr ⟨q.1, fun k hk => q.2 k (by omega)⟩)
  exact ⟨fun _ => rfl, fun q => absurd q r9⟩
theorem sp_299_c12_ff (a0 : Nat) (a1 : Int32) (σ : zSg) (l0 : Nat) (l1 : Int32) (l2 : Int32) (l3 : Int32) (τ : zSg) (τ18 : zSg) (r18 : Int32) (hI : i_299 a0 a1 σ l0 l1 l2 l3 τ) (h3 : l3.toInt < (q_i (τ.1 l0 11)).toInt) (h10 : l2.toInt ≠ (0 : Int)) (h17 : 0 ≤ l3.toInt ∧ l3.toInt < (τ.2.1 (q_r (τ.1 l0 8)) : Int)) (g18 : p_177 (q_i (τ.1 (q_r (τ.1 l0 8)) l3.toNatClampNeg)) (Int32.ofInt (0)) (Int32.ofInt (9)) τ r18 τ18) :
    i_299 a0 a1 σ l0 l1 r18 (l3 + Int32.ofInt (1)) τ18 := by
  obtain ⟨ea, g1⟩ := g18
  subst ea
  obtain ⟨rfl, rfl, rfl, hI⟩ := hI
  refine ⟨rfl, rfl, rfl, ?_⟩
  rintro rfl A nf E w e0 yh6 yh8 yh9 hE
  obtain ⟨n, hn, en, e2⟩ := hI rfl A nf E w e0 yh6 yh8 yh9 hE
  have u8 : q_r ((q_us σ 205).1 205 8) = 211 := by rw [us_8 (by decide), yh8]; rfl
  have u11 : q_i ((q_us σ 205).1 205 11) = Int32.ofNat E := by rw [us_11, yh9]; rfl
  have ut : ∀ k, q_i ((q_us σ 205).1 211 k) = tR σ k := fun k => by rw [us_c (by decide)]; rfl
  rw [u11, en, o32 (by omega), o32 (by omega)] at h3
  rw [show (Int32.ofInt 0).toInt = 0 from rfl, show (Int32.ofInt 9).toInt = 9 from rfl, u8, en, o32n (by omega), ut] at g1
  refine ⟨n + 1, by omega, by rw [en]; exact o32i (by omega), ?_⟩
  rw [g1]
  have y := e2.mp h10
  refine ⟨fun q => ⟨y.1, fun k hk => ?_⟩, fun q => q.2 n (by omega)⟩
  by_cases e : k = n
  · subst e; exact q
  · exact y.2 k (by omega)
theorem sp_299_c46_tt (a0 : Nat) (a1 : Int32) (σ : zSg) (l0 : Nat) (l1 : Int32) (l3 : Int32) (l4 : Int32) (l5 : Int32) (τ : zSg) (hI : i_299b a0 a1 σ l0 l1 l3 l4 l5 τ) (h19 : l5.toInt ≥ (q_i (τ.1 l0 11)).toInt) (h20 : l1.toInt = (0 : Int)) :
    p_299 (a0) (a1) σ l3 τ := by
  obtain ⟨rfl, rfl, rfl, hI⟩ := hI
  rintro rfl A nf E w e0 yh6 yh8 yh9 hE
  obtain ⟨r9, n, hn, en, e3, e4⟩ := hI rfl A nf E w e0 yh6 yh8 yh9 hE
  have u8 : q_r ((q_us σ 205).1 205 8) = 211 := by rw [us_8 (by decide), yh8]; rfl
  have u11 : q_i ((q_us σ 205).1 205 11) = Int32.ofNat E := by rw [us_11, yh9]; rfl
  have ut : ∀ k, q_i ((q_us σ 205).1 211 k) = tR σ k := fun k => by rw [us_c (by decide)]; rfl
  rw [u11, en, o32 (by omega), o32 (by omega)] at h19
  have e5 : n = E := by omega
  subst e5
  exact ⟨fun q => absurd r9 q, fun _ => ⟨rfl, fun _ => e3, fun h => absurd h20 h⟩⟩
theorem sp_299_c46_tf (a0 : Nat) (a1 : Int32) (σ : zSg) (l0 : Nat) (l1 : Int32) (l3 : Int32) (l4 : Int32) (l5 : Int32) (τ : zSg) (hI : i_299b a0 a1 σ l0 l1 l3 l4 l5 τ) (h19 : l5.toInt ≥ (q_i (τ.1 l0 11)).toInt) (h20 : l1.toInt ≠ (0 : Int)) :
    p_299 (a0) (a1) σ (if l4 < (Int32.ofInt (9999)) then l4 else (Int32.ofInt (9999))) τ := by
  obtain ⟨rfl, rfl, rfl, hI⟩ := hI
  rintro rfl A nf E w e0 yh6 yh8 yh9 hE
  obtain ⟨r9, n, hn, en, e3, e4⟩ := hI rfl A nf E w e0 yh6 yh8 yh9 hE
  have u8 : q_r ((q_us σ 205).1 205 8) = 211 := by rw [us_8 (by decide), yh8]; rfl
  have u11 : q_i ((q_us σ 205).1 205 11) = Int32.ofNat E := by rw [us_11, yh9]; rfl
  have ut : ∀ k, q_i ((q_us σ 205).1 211 k) = tR σ k := fun k => by rw [us_c (by decide)]; rfl
  rw [u11, en, o32 (by omega), o32 (by omega)] at h19
  have e5 : n = E := by omega
  subst e5
  refine ⟨fun q => absurd r9 q, fun _ => ⟨rfl, fun h => absurd h h20, fun _ => ?_⟩⟩
  have c9 : (Int32.ofInt 9999).toInt = 9999 := by decide
  split
  · next h => rw [Int32.lt_iff_toInt_lt, c9] at h; omega
  · next h => rw [Int32.lt_iff_toInt_lt, c9] at h; rw [c9]; omega
theorem sp_299_c46_f (a0 : Nat) (a1 : Int32) (σ : zSg) (l0 : Nat) (l1 : Int32) (l3 : Int32) (l4 : Int32) (l5 : Int32) (τ : zSg) (τ22 : zSg) (r22 : Int32) (τ24 : zSg) (r24 : Int32) (τ25 : zSg) (r25 : Int32) (hI : i_299b a0 a1 σ l0 l1 l3 l4 l5 τ) (h19 : l5.toInt < (q_i (τ.1 l0 11)).toInt) (h21 : 0 ≤ l5.toInt ∧ l5.toInt < (τ.2.1 (q_r (τ.1 l0 8)) : Int)) (g22 : p_298 l0 (q_i (τ.1 (q_r (τ.1 l0 8)) l5.toNatClampNeg)) τ r22 τ22) (h23 : 0 ≤ l5.toInt ∧ l5.toInt < (τ22.2.1 (q_r (τ22.1 l0 8)) : Int)) (g24 : p_298 l0 (q_i (τ22.1 (q_r (τ22.1 l0 8)) l5.toNatClampNeg)) τ22 r24 τ24) (g25 : p_311 r24 τ24 r25 τ25) :
    i_299b a0 a1 σ l0 l1 (l3 &&& r22) ((if l4 < (Int32.ofInt (10000)) then l4 else (Int32.ofInt (10000))) * r25) (l5 + Int32.ofInt (1)) τ25 := by
  obtain ⟨ea, g1⟩ := g22
  subst ea
  obtain ⟨eb, g2⟩ := g24
  subst eb
  obtain ⟨ec, g3⟩ := g25
  subst ec
  obtain ⟨rfl, rfl, rfl, hI⟩ := hI
  refine ⟨rfl, rfl, rfl, ?_⟩
  rintro rfl A nf E w e0 yh6 yh8 yh9 hE
  obtain ⟨r9, n, hn, en, e3, e4⟩ := hI rfl A nf E w e0 yh6 yh8 yh9 hE
  have u8 : q_r ((q_us σ 205).1 205 8) = 211 := by rw [us_8 (by decide), yh8]; rfl
  have u11 : q_i ((q_us σ 205).1 205 11) = Int32.ofNat E := by rw [us_11, yh9]; rfl
  have ut : ∀ k, q_i ((q_us σ 205).1 211 k) = tR σ k := fun k => by rw [us_c (by decide)]; rfl
  rw [u11, en, o32 (by omega), o32 (by omega)] at h19
  have y1 := g1 rfl A nf (us_W w) e0 yh6
  have y2 := g2 rfl A nf (us_W w) e0 yh6
  rw [u8, en, o32n (by omega), ut] at y1 y2
  refine ⟨r9, n + 1, by omega, by rw [en]; exact o32i (by omega), by rw [e3, y1]; rfl, ?_⟩
  have b := fMn_b (A := A) (T := tR σ) yh6 n
  have c := fCn_b (A := A) (x := tR σ n) yh6
  have yh1 : min 10000 (fMn A nf (tR σ) n) * fCn A nf (tR σ n) ≤ 10000 * 6 := Int.mul_le_mul (by omega) c.2 c.1 (by omega)
  have yh2 : 0 ≤ min 10000 (fMn A nf (tR σ) n) * fCn A nf (tR σ n) := Int.mul_nonneg (by omega) c.1
  have c9 : (Int32.ofInt 10000).toInt = 10000 := by decide
  have em : (if l4 < Int32.ofInt 10000 then l4 else Int32.ofInt 10000).toInt = min 10000 (fMn A nf (tR σ) n) := by
    split
    · next h => rw [Int32.lt_iff_toInt_lt, c9] at h; omega
    · next h => rw [Int32.lt_iff_toInt_lt, c9] at h; rw [c9]; omega
  rw [Int32.toInt_mul, em, g3, y2]
  exact z_bm (by show _ ≤ min 10000 (fMn A nf (tR σ) n) * fCn A nf (tR σ n); omega) (by show min 10000 (fMn A nf (tR σ) n) * fCn A nf (tR σ n) ≤ _; omega)
noncomputable def qP_299 : zPp := fun as σ o σ' => match as with
  | [a0, a1] => ∃ r, o = .inl (some (.int r)) ∧ p_299 (q_r a0) (q_i a1) σ r σ'
  | _ => True
set_option maxRecDepth 100000 in
theorem sp_299 {sx : zX} (S210 : zEe sx 210 1 qP_210) (S176 : zEe sx 176 3 qP_176) (S292 : zEe sx 292 1 qP_292) (S177 : zEe sx 177 3 qP_177) (S298 : zEe sx 298 2 qP_298) (S311 : zEe sx 311 1 qP_311) : zEe sx 299 2 qP_299 := by
  refine zfle zJ_299 (sps := [(210, 1, qP_210), (176, 3, qP_176), (292, 1, qP_292), (177, 3, qP_177), (298, 2, qP_298), (311, 1, qP_311)]) (fun q hq => by
    simp only [List.mem_cons, List.not_mem_nil, or_false] at hq
    rcases hq with rfl | rfl | rfl | rfl | rfl | rfl
    · exact S210
    · exact S176
    · exact S292
    · exact S177
    · exact S298
    · exact S311) (fun as σ hl => ?_)
  match as, hl with
  | [a0, a1], _ =>
  refine ⟨[(12, fun lo st τ => st = [] ∧ i_299 (q_r a0) (q_i a1) σ (q_r (lo 0)) (q_i (lo 1)) (q_i (lo 2)) (q_i (lo 3)) τ), (46, fun lo st τ => st = [] ∧ i_299b (q_r a0) (q_i a1) σ (q_r (lo 0)) (q_i (lo 1)) (q_i (lo 3)) (q_i (lo 4)) (q_i (lo 5)) τ)], 400, ?_, ?_⟩
  · intro q hq
    simp only [List.mem_cons, List.not_mem_nil, or_false] at hq
    rcases hq with rfl | rfl
    · rintro lo st τ ⟨rfl, hI⟩
      refine ⟨400, ?_⟩
      refine And.intro (fun h3 => ?_) (fun h3 => ?_)
      · refine And.intro (fun h4 => ?_) (fun h4 => ?_)
        · refine fun o5 τ5 g5 => ?_
          obtain ⟨r5, rfl, rfl, y5, z5⟩ := g5
          have e5 := (z5 rfl).symm
          subst e5
          refine And.intro (fun _ => ?_) (fun h6 => absurd (show z_cmp 0 (Int32.ofInt (0)) 0 = false from h6) (by decide))
          refine fun o7 τ7 g7 => ?_
          obtain ⟨r7, rfl, g7⟩ := g7
          exact ⟨rfl, sp_299_c12_tt (q_r a0) (q_i a1) σ (q_r (lo 0)) (q_i (lo 1)) (q_i (lo 2)) (q_i (lo 3)) τ τ7 r7 hI (cm3t h3) (cm1t h4) g7⟩
        · refine fun o8 τ8 g8 => ?_
          obtain ⟨r8, rfl, rfl, y8, z8⟩ := g8
          have e8 := (y8 (by decide)).symm
          subst e8
          refine And.intro (fun h9 => absurd (show z_cmp 0 (Int32.ofInt (1)) 0 = true from h9) (by decide)) (fun _ => ?_)
          exact ⟨_, rfl, sp_299_c12_tf (q_r a0) (q_i a1) σ (q_r (lo 0)) (q_i (lo 1)) (q_i (lo 2)) (q_i (lo 3)) τ hI (cm3t h3) (cm1f h4)⟩
      · refine And.intro (fun h10 => ?_) (fun h10 => ?_)
        · refine And.intro (fun h11 => ?_) (fun h11 => ?_)
          · refine fun o12 τ12 g12 => ?_
            obtain ⟨r12, rfl, rfl, y12, z12⟩ := g12
            have e12 := (z12 rfl).symm
            subst e12
            refine And.intro (fun _ => ?_) (fun h13 => absurd (show z_cmp 0 (Int32.ofInt (0)) 0 = false from h13) (by decide))
            refine fun o14 τ14 g14 => ?_
            obtain ⟨r14, rfl, g14⟩ := g14
            exact ⟨rfl, sp_299_c12_ftt (q_r a0) (q_i a1) σ (q_r (lo 0)) (q_i (lo 1)) (q_i (lo 2)) (q_i (lo 3)) τ τ14 r14 hI (cm3f h3) (cm0t h10) (cm1t h11) g14⟩
          · refine fun o15 τ15 g15 => ?_
            obtain ⟨r15, rfl, rfl, y15, z15⟩ := g15
            have e15 := (y15 (by decide)).symm
            subst e15
            refine And.intro (fun h16 => absurd (show z_cmp 0 (Int32.ofInt (1)) 0 = true from h16) (by decide)) (fun _ => ?_)
            exact ⟨_, rfl, sp_299_c12_ftf (q_r a0) (q_i a1) σ (q_r (lo 0)) (q_i (lo 1)) (q_i (lo 2)) (q_i (lo 3)) τ hI (cm3f h3) (cm0t h10) (cm1f h11)⟩
        · refine fun h17 => ?_
          refine fun o18 τ18 g18 => ?_
          obtain ⟨r18, rfl, g18⟩ := g18
          exact ⟨rfl, sp_299_c12_ff (q_r a0) (q_i a1) σ (q_r (lo 0)) (q_i (lo 1)) (q_i (lo 2)) (q_i (lo 3)) τ τ18 r18 hI (cm3f h3) (cm0f h10) (q_inp h17) g18⟩
    · rintro lo st τ ⟨rfl, hI⟩
      refine ⟨400, ?_⟩
      refine And.intro (fun h19 => ?_) (fun h19 => ?_)
      · refine And.intro (fun h20 => ?_) (fun h20 => ?_)
        · exact ⟨_, rfl, sp_299_c46_tt (q_r a0) (q_i a1) σ (q_r (lo 0)) (q_i (lo 1)) (q_i (lo 3)) (q_i (lo 4)) (q_i (lo 5)) τ hI (cm3t h19) (cm0t h20)⟩
        · exact ⟨_, rfl, sp_299_c46_tf (q_r a0) (q_i a1) σ (q_r (lo 0)) (q_i (lo 1)) (q_i (lo 3)) (q_i (lo 4)) (q_i (lo 5)) τ hI (cm3t h19) (cm0f h20)⟩
      · refine fun h21 => ?_
        refine fun o22 τ22 g22 => ?_
        obtain ⟨r22, rfl, g22⟩ := g22
        refine fun h23 => ?_
        refine fun o24 τ24 g24 => ?_
        obtain ⟨r24, rfl, g24⟩ := g24
        refine fun o25 τ25 g25 => ?_
        obtain ⟨r25, rfl, g25⟩ := g25
        exact ⟨rfl, sp_299_c46_f (q_r a0) (q_i a1) σ (q_r (lo 0)) (q_i (lo 1)) (q_i (lo 3)) (q_i (lo 4)) (q_i (lo 5)) τ τ22 r22 τ24 r24 τ25 r25 hI (cm3f h19) (q_inp h21) g22 (q_inp h23) g24 g25⟩
  · refine fun o1 τ1 g1 => ?_
    obtain ⟨rfl, g1⟩ := g1
    refine And.intro (fun h2 => ?_) (fun h2 => ?_)
    · exact ⟨rfl, sp_299_et (q_r a0) (q_i a1) σ τ1 g1 (cm4t h2)⟩
    · exact ⟨rfl, sp_299_ef (q_r a0) (q_i a1) σ τ1 g1 (cm4f h2)⟩
noncomputable def p_333 (a : Nat) (a1 : Int32) (o : Nat) (σ : zSg) (k : Int32) (σ' : zSg) : Prop := ∃ e τ, p_146 a a1 σ e τ ∧ ((∃ v, e = .inl v ∧ k = Int32.ofInt 0 ∧ σ' = q_w τ o 0 (.long v.toInt64)) ∨ (e = .inr 0 ∧ k = Int32.ofInt 1 ∧ σ' = τ))
theorem sp_333_en (a0 : Nat) (a1 : Int32) (a2 : Nat) (σ : zSg) (τ1 : zSg) (r1 : Int32) (g1 : p_146 a0 a1 σ (.inl r1) τ1) (h2 : 0 ≤ (Int32.ofInt (0)).toInt ∧ (Int32.ofInt (0)).toInt < (τ1.2.1 a2 : Int)) :
    p_333 (a0) (a1) (a2) σ (Int32.ofInt (0)) (q_w τ1 a2 (Int32.ofInt (0)).toNatClampNeg (.long r1.toInt64)) := by
  exact ⟨_, _, g1, Or.inl ⟨_, rfl, rfl, rfl⟩⟩
theorem sp_333_ex0_ (a0 : Nat) (a1 : Int32) (a2 : Nat) (σ : zSg) (τ1 : zSg) (g1 : p_146 a0 a1 σ (.inr 0) τ1) :
    p_333 (a0) (a1) (a2) σ (Int32.ofInt (1)) τ1 := by
  exact ⟨_, _, g1, Or.inr ⟨rfl, rfl, rfl⟩⟩
noncomputable def qP_333 : zPp := fun as σ o σ' => match as with
  | [a0, a1, a2] => ∃ r, o = .inl (some (.int r)) ∧ p_333 (q_r a0) (q_i a1) (q_r a2) σ r σ'
  | _ => True
set_option maxRecDepth 100000 in
theorem sp_333 {sx : zX} (S146 : zEe sx 146 2 qP_146) : zEe sx 333 3 qP_333 := by
  refine zfle zJ_333 (sps := [(146, 2, qP_146)]) (fun q hq => by
    simp only [List.mem_cons, List.not_mem_nil, or_false] at hq
    rcases hq with rfl
    · exact S146) (fun as σ hl => ?_)
  match as, hl with
  | [a0, a1, a2], _ =>
  refine ⟨[], 400, ?_, ?_⟩
  · exact fun q hq => absurd hq List.not_mem_nil
  · refine fun o1 τ1 g1 => ?_
    rcases g1 with ⟨r1, rfl, g1⟩ | ⟨rfl, g1⟩
    · refine fun h2 => ?_
      exact ⟨_, rfl, sp_333_en (q_r a0) (q_i a1) (q_r a2) σ τ1 r1 g1 (q_inp h2)⟩
    · exact ⟨_, rfl, sp_333_ex0_ (q_r a0) (q_i a1) (q_r a2) σ τ1 g1⟩
end
section
/-! THE WHOLE RELATION, of both objects to one row of ints: what both hold (zP), how the class (zC), how the reference holds it (zRv) -/
abbrev zLaw : Type := Option (Nat × List gLn4 × zSs)
/-- the house that is now, how many families and things, how many acts remembered, which (the oldest first), the law, the image, the fault -/
abbrev zPt : Type := (Nat → Int32) × (Nat × Nat) × (Nat × (Nat → Nat → Int32)) × zLaw × Option ((Nat → Int32) × zLaw) × Int32
noncomputable def zPw (p : zPt) : Prop := aI p.2.1.1 p.2.1.2 p.1 ∧ 0 ≤ (p.1 6).toInt ∧ p.2.2.1.1 ≤ 12 ∧ (∀ i, i < p.2.2.1.1 → aI p.2.1.1 p.2.1.2 (p.2.2.1.2 i) ∧ 0 ≤ (p.2.2.1.2 i 6).toInt ∧ p.2.2.1.2 i 3 = p.1 3) ∧ (match p.2.2.2.2.1 with
  | none => True
  | some (I, _) => (∃ nf nt, aI nf nt I) ∧ 0 ≤ (I 6).toInt)
noncomputable def wB (σ : zSg) (Lo : zLaw) : Prop := match Lo with
  | none => True
  | some (L, _) => L + 6 ≤ σ.2.2
noncomputable def rTx (σ : zSg) (W : Nat) (A : Nat → Int32) (Lo : zLaw) : Prop := match Lo with
  | none => A 3 = Int32.ofInt 0
  | some (_, ls, l) => A 3 = Int32.ofInt 1 ∧ rLT σ W ls l ∧ gW ls l
/-- the ring of remembered houses: the i-th of n, the next one to be written being nx -/
noncomputable def mJ (nx n i : Nat) : Nat := (nx + 12 - n + i) % 12
noncomputable def zCm (σ : zSg) (n : Nat) (Rs : Nat → Nat → Int32) (Lw : Value) : Prop := ∃ nx Ms, mM σ nx n Ms ∧ ∀ i, i < n → Ms (mJ nx n i) = Rs i ∧ σ.1 (49 + 13 * mJ nx n i) 5 = Lw
noncomputable def zCi (σ : zSg) (im : Option ((Nat → Int32) × zLaw)) : Prop := match im with
  | none => σ.1 0 6 = .int (Int32.ofInt 0) ∧ ∃ B, hH σ 34 B
  | some (I, Li) => σ.1 0 6 = .int (Int32.ofInt 1) ∧ hH σ 34 I ∧ hW σ 34 Li ∧ wB σ Li
noncomputable def zC (σ : zSg) (p : zPt) : Prop := xSk σ ∧ hH σ 8 p.1 ∧ (∃ D, hH σ 21 D) ∧ zCm σ p.2.2.1.1 p.2.2.1.2 (σ.1 8 5) ∧ hW σ 8 p.2.2.2.1 ∧ wB σ p.2.2.2.1 ∧ zCi σ p.2.2.2.2.1 ∧ σ.1 0 7 = .int p.2.2.2.2.2 ∧ 219 ≤ σ.2.2 ∧ σ.2.2 % 6 = 3
noncomputable def zRim (σ : zSg) (im : Option ((Nat → Int32) × zLaw)) : Prop := match im with
  | none => σ.1 205 6 = .int (Int32.ofInt 0)
  | some (I, Li) => σ.1 205 6 = .int (Int32.ofInt 1) ∧ (∀ k, k < 388 → σ.1 207 k = .int (I k)) ∧ rTx σ 207 I Li
noncomputable def zRv (σ : zSg) (p : zPt) : Prop := rSk σ ∧ σ.1 205 17 = .ref 213 ∧ rW σ p.1 ∧ rTx σ 206 p.1 p.2.2.2.1 ∧ σ.1 205 7 = .int (Int32.ofNat p.2.2.1.1) ∧ (∀ i, i < p.2.2.1.1 → ∀ k, k < 388 → σ.1 210 (388 * i + k) = .int (p.2.2.1.2 i k)) ∧ zRim σ p.2.2.2.2.1 ∧ σ.1 205 14 = .int p.2.2.2.2.2
/-- cells that the class's side hangs on -/
noncomputable def zCc (c : Nat) : Prop := c = 0 ∨ (8 ≤ c ∧ c < 205) ∨ (219 ≤ c ∧ c % 6 ≠ 5)
noncomputable def zRc (c k : Nat) : Prop := (c = 205 ∧ ((1 ≤ k ∧ k ≤ 7) ∨ k = 14 ∨ k = 17)) ∨ (c = 206 ∧ k < 1237) ∨ (c = 207 ∧ k < 1237) ∨ c = 210
section ZRL
variable {σ τ υ : zSg} {p : zPt} {A B : Nat → Int32} {Lo : zLaw} {b n W : Nat}
theorem hW.of (K : hW σ b Lo) (h2 : τ.2 = σ.2) (h5 : τ.1 b 5 = σ.1 b 5) (h : ∀ c k, 219 ≤ c → c % 6 ≠ 5 → τ.1 c k = σ.1 c k) : hW τ b Lo := by
  unfold hW at K ⊢
  match Lo, K with
  | none, K => exact h5.trans K
  | some (L, ls, l), ⟨k1, k2, k3, k4, k5, k6⟩ => exact ⟨h5.trans k1, k2, k3, k4.fr h2 (fun c k q1 q2 q3 => h c k (by omega) (by omega)), by rw [h2]; exact k5, k6⟩
theorem wB.of (K : wB σ Lo) (h2 : σ.2.2 ≤ τ.2.2) : wB τ Lo := by
  unfold wB at K ⊢
  match Lo, K with
  | none, _ => trivial
  | some (L, _), K => exact Nat.le_trans K h2
theorem rLT.ofW {ls : List gLn4} {l : zSs} (K : rLT σ W ls l) (g : gW ls l) (f : ∀ k, 388 ≤ k → k < 1237 → τ.1 W k = σ.1 W k) : rLT τ W ls l := by
  obtain ⟨a, b, c⟩ := K
  refine ⟨(f _ (by omega) (by omega)).trans a, fun i x hx => ?_, fun i x hx => ?_⟩
  · have hi := (List.getElem?_eq_some_iff.mp hx).1
    have g1 := g.1
    obtain ⟨b1, b2, b3, b4⟩ := b i x hx
    exact ⟨(f _ (by omega) (by omega)).trans b1, (f _ (by omega) (by omega)).trans b2, (f _ (by omega) (by omega)).trans b3, (f _ (by omega) (by omega)).trans b4⟩
  · have hi := (List.getElem?_eq_some_iff.mp hx).1
    have g1 := g.2.1
    obtain ⟨c1, c2⟩ := c i x hx
    exact ⟨(f _ (by omega) (by omega)).trans c1, (f _ (by omega) (by omega)).trans c2⟩
theorem rTx.of (K : rTx σ W A Lo) (f : ∀ k, 388 ≤ k → k < 1237 → τ.1 W k = σ.1 W k) (h3 : B 3 = A 3) : rTx τ W B Lo := by
  unfold rTx at K ⊢
  match Lo, K with
  | none, K => exact h3.trans K
  | some (L, ls, l), ⟨k1, k2, k3⟩ => exact ⟨h3.trans k1, k2.ofW k3 f, k3⟩
theorem hH.c (K : hH σ b A) (h2 : τ.2 = σ.2) (hb : 8 ≤ b) (hb2 : b ≤ 192) (h : ∀ c k, zCc c → τ.1 c k = σ.1 c k) : hH τ b A := K.fr h2 (fun c j q1 q2 => h c j (Or.inr (Or.inl ⟨by omega, by omega⟩)))
theorem zC.fr (K : zC σ p) (h2 : τ.2 = σ.2) (h : ∀ c k, zCc c → τ.1 c k = σ.1 c k) : zC τ p := by
  obtain ⟨k1, k2, ⟨D, k3⟩, ⟨nx, Ms, ⟨m1, m2, m3, m4, m5, m6, m7⟩, k4⟩, k5, k6, k7, k8, k9, k10⟩ := K
  have hl : ∀ c k, 219 ≤ c → c % 6 ≠ 5 → τ.1 c k = σ.1 c k := fun c k q1 q2 => h c k (Or.inr (Or.inr ⟨q1, q2⟩))
  have hi : ∀ c k, 8 ≤ c → c < 205 → τ.1 c k = σ.1 c k := fun c k q1 q2 => h c k (Or.inr (Or.inl ⟨q1, q2⟩))
  have h0 : ∀ k, τ.1 0 k = σ.1 0 k := fun k => h 0 k (Or.inl rfl)
  have hB : ∀ {Lo : zLaw}, wB σ Lo → wB τ Lo := fun w => w.of (by rw [h2]; exact Nat.le_refl _)
  refine ⟨k1.of (fun k _ => h0 k), k2.c h2 (by omega) (by omega) h, ⟨D, k3.c h2 (by omega) (by omega) h⟩, ⟨nx, Ms, ⟨(hi _ _ (by omega) (by omega)).trans m1, fun i hi9 => (hi _ _ (by omega) (by omega)).trans (m2 i hi9), (hi _ _ (by omega) (by omega)).trans m3, m4, (hi _ _ (by omega) (by omega)).trans m5, m6, fun i hi9 => (m7 i hi9).c h2 (by omega) (by omega) h⟩, fun i hi9 => ⟨(k4 i hi9).1, ?_⟩⟩, k5.of h2 (hi _ _ (by omega) (by omega)) hl, hB k6, ?_, (h0 7).trans k8, by rw [h2]; exact k9, by rw [h2]; exact k10⟩
  · have : mJ nx p.2.2.1.1 i < 12 := Nat.mod_lt _ (by omega)
    rw [hi _ _ (by omega) (by omega), hi 8 5 (by omega) (by omega)]
    exact (k4 i hi9).2
  · unfold zCi at k7 ⊢
    split at k7
    · obtain ⟨q1, B, q2⟩ := k7
      exact ⟨(h0 6).trans q1, B, q2.c h2 (by omega) (by omega) h⟩
    · obtain ⟨q1, q2, q3, q4⟩ := k7
      exact ⟨(h0 6).trans q1, q2.c h2 (by omega) (by omega) h, q3.of h2 (hi _ _ (by omega) (by omega)) hl, hB q4⟩
theorem zRv.fr (K : zRv σ p) (h : ∀ c k, zRc c k → τ.1 c k = σ.1 c k) : zRv τ p := by
  obtain ⟨⟨s1, s2, s3, s4, s5⟩, k2, ⟨k3, k3'⟩, k4, k5, k6, k7, k8⟩ := K
  have h5 : ∀ k, ((1 ≤ k ∧ k ≤ 7) ∨ k = 14 ∨ k = 17) → τ.1 205 k = σ.1 205 k := fun k q => h 205 k (Or.inl ⟨rfl, q⟩)
  have h6 : ∀ k, k < 1237 → τ.1 206 k = σ.1 206 k := fun k q => h 206 k (Or.inr (Or.inl ⟨rfl, q⟩))
  have h7 : ∀ k, k < 1237 → τ.1 207 k = σ.1 207 k := fun k q => h 207 k (Or.inr (Or.inr (Or.inl ⟨rfl, q⟩)))
  refine ⟨⟨(h5 _ (by omega)).trans s1, (h5 _ (by omega)).trans s2, (h5 _ (by omega)).trans s3, (h5 _ (by omega)).trans s4, (h5 _ (by omega)).trans s5⟩, (h5 _ (by omega)).trans k2, ⟨(h5 _ (by omega)).trans k3, fun k hk => (h6 k (by omega)).trans (k3' k hk)⟩, k4.of (fun k _ q => h6 k q) rfl, (h5 _ (by omega)).trans k5, fun i hi k hk => (h 210 _ (Or.inr (Or.inr (Or.inr rfl)))).trans (k6 i hi k hk), ?_, (h5 _ (by omega)).trans k8⟩
  unfold zRim at k7 ⊢
  split at k7
  · exact (h5 6 (by omega)).trans k7
  · obtain ⟨q1, q2, q3⟩ := k7
    exact ⟨(h5 6 (by omega)).trans q1, fun k hk => (h7 k (by omega)).trans (q2 k hk), q3.of (fun k _ q => h7 k q) rfl⟩
/-! what each method's words want -/
theorem zRv.J (K : zRv σ p) (w : zPw p) : rJ σ p.1 p.2.2.1.1 := ⟨K.1, K.2.2.1, K.2.2.2.2.1, w.2.2.1⟩
theorem rTx.toL (K : rTx σ 206 A Lo) : rLo σ A Lo := by
  unfold rTx at K
  unfold rLo
  exact K
theorem aI.own {nf nt : Nat} (I : aI nf nt A) : ∀ t, t < nt → A (64 + 3 * t) ≠ Int32.ofInt (-1) := fun t ht q => by
  have k6 := I.1.2.1
  obtain ⟨F, hF, e⟩ := I.2.2.1 t ht
  rw [e] at q
  have := congrArg Int32.toInt q
  rw [o32 (by omega), show (Int32.ofInt (-1)).toInt = -1 from rfl] at this
  omega
theorem zRv.Ev (K : zRv σ p) (w : zPw p) : rEv σ p.1 p.2.1.2 p.2.2.2.1 := ⟨K.2.2.1, K.2.1, w.1.1.2.2.1, w.1.1.2.2.2.1, w.1.own, K.2.2.2.1.toL⟩
theorem zRv.Dp (K : zRv σ p) (w : zPw p) : rDp σ p.1 p.2.1.1 p.2.1.2 p.2.2.2.1 := ⟨K.1, K.Ev w, w.1⟩
theorem zC.Dp (K : zC σ p) (w : zPw p) : xDp σ p.1 p.2.1.1 p.2.1.2 p.2.2.2.1 := ⟨K.1, K.2.1, K.2.2.1, w.1, K.2.2.2.2.1⟩
/-- behind an act -/
noncomputable def zAct (p : zPt) (B : Nat → Int32) : zPt := (B, p.2.1, (min (p.2.2.1.1 + 1) 12, fun i => if p.2.2.1.1 = 12 then (if i = 11 then p.1 else p.2.2.1.2 (i + 1)) else (if i = p.2.2.1.1 then p.1 else p.2.2.1.2 i)), p.2.2.2)
theorem zPw.act (w : zPw p) (I : aI p.2.1.1 p.2.1.2 B) (h6 : 0 ≤ (B 6).toInt) (h3 : B 3 = p.1 3) : zPw (zAct p B) := by
  obtain ⟨w1, w2, w3, w4, w5⟩ := w
  refine ⟨I, h6, Nat.min_le_right _ _, fun i hi => ?_, w5⟩
  have hi : i < min (p.2.2.1.1 + 1) 12 := hi
  show aI p.2.1.1 p.2.1.2 (if p.2.2.1.1 = 12 then (if i = 11 then p.1 else p.2.2.1.2 (i + 1)) else (if i = p.2.2.1.1 then p.1 else p.2.2.1.2 i)) ∧ 0 ≤ ((if p.2.2.1.1 = 12 then (if i = 11 then p.1 else p.2.2.1.2 (i + 1)) else (if i = p.2.2.1.1 then p.1 else p.2.2.1.2 i)) 6).toInt ∧ (if p.2.2.1.1 = 12 then (if i = 11 then p.1 else p.2.2.1.2 (i + 1)) else (if i = p.2.2.1.1 then p.1 else p.2.2.1.2 i)) 3 = B 3
  by_cases q : p.2.2.1.1 = 12
  · rw [if_pos q]
    by_cases q2 : i = 11
    · rw [if_pos q2]; exact ⟨w1, w2, h3.symm⟩
    · rw [if_neg q2, h3]; exact w4 _ (by omega)
  · rw [if_neg q]
    by_cases q2 : i = p.2.2.1.1
    · rw [if_pos q2]; exact ⟨w1, w2, h3.symm⟩
    · rw [if_neg q2, h3]; exact w4 _ (by omega)
theorem zC.act (K : zC σ p) (h6 : p.2.2.1.1 ≤ 12) (H : ∀ nx Ms, mM σ nx p.2.2.1.1 Ms → xE σ τ p.1 B nx p.2.2.1.1 Ms ∧ hW τ 8 p.2.2.2.1) : zC τ (zAct p B) := by
  obtain ⟨k1, k2, ⟨D, k3⟩, ⟨nx, Ms, m, k4⟩, k5, k6, k7, k8, k9, k10⟩ := K
  obtain ⟨R, W⟩ := H nx Ms m
  have hx := m.2.2.2.1
  obtain ⟨f, r2, r3, r4⟩ := R
  have h2 := f.1
  have fr : ∀ c k, ¬ (8 ≤ c ∧ c ≤ 20 ∧ ¬ (c = 8 ∧ k = 5)) → ¬ (c = 47 ∧ (k = 1 ∨ k = 2)) → ¬ (49 + 13 * nx ≤ c ∧ c ≤ 61 + 13 * nx) → ¬ (219 ≤ c ∧ c % 6 = 5) → τ.1 c k = σ.1 c k := f.2
  have hl : ∀ c k, 219 ≤ c → c % 6 ≠ 5 → τ.1 c k = σ.1 c k := fun c k q1 q2 => fr c k (by omega) (by omega) (by omega) (by omega)
  have h0 : ∀ k, τ.1 0 k = σ.1 0 k := fun k => fr 0 k (by omega) (by omega) (by omega) (by omega)
  have e85 : τ.1 8 5 = σ.1 8 5 := fr 8 5 (by omega) (by omega) (by omega) (by omega)
  have hB : ∀ {Lo : zLaw}, wB σ Lo → wB τ Lo := fun w => w.of (by rw [h2]; exact Nat.le_refl _)
  refine ⟨k1.of (fun k _ => h0 k), r2, ⟨D, k3.fr h2 (fun c j q1 q2 => fr c j (by omega) (by omega) (by omega) (by omega))⟩, ⟨(nx + 1) % 12, _, r3, fun i hi => ?_⟩, W, hB k6, ?_, (h0 7).trans k8, by rw [h2]; exact k9, by rw [h2]; exact k10⟩
  · have hi : i < min (p.2.2.1.1 + 1) 12 := hi
    have hj : mJ ((nx + 1) % 12) (min (p.2.2.1.1 + 1) 12) i = if p.2.2.1.1 = 12 then (if i = 11 then nx else mJ nx p.2.2.1.1 (i + 1)) else (if i = p.2.2.1.1 then nx else mJ nx p.2.2.1.1 i) := by
      unfold mJ
      by_cases q : p.2.2.1.1 = 12
      · rw [if_pos q]
        by_cases q2 : i = 11
        · rw [if_pos q2]; omega
        · rw [if_neg q2]; omega
      · rw [if_neg q]
        by_cases q2 : i = p.2.2.1.1
        · rw [if_pos q2]; omega
        · rw [if_neg q2]; omega
    have ne : ∀ j, j < p.2.2.1.1 → ¬ (p.2.2.1.1 = 12 ∧ j = 0) → mJ nx p.2.2.1.1 j ≠ nx := fun j hj hz q => by unfold mJ at q; omega
    have old : ∀ j, j < p.2.2.1.1 → ¬ (p.2.2.1.1 = 12 ∧ j = 0) → (if mJ nx p.2.2.1.1 j = nx then p.1 else Ms (mJ nx p.2.2.1.1 j)) = p.2.2.1.2 j ∧ τ.1 (49 + 13 * mJ nx p.2.2.1.1 j) 5 = τ.1 8 5 := fun j hj hz => by
      have n1 := ne j hj hz
      have l1 : mJ nx p.2.2.1.1 j < 12 := Nat.mod_lt _ (by omega)
      refine ⟨by rw [if_neg n1]; exact (k4 j hj).1, ?_⟩
      rw [fr _ _ (by omega) (by omega) (by omega) (by omega), e85]
      exact (k4 j hj).2
    show (if mJ ((nx + 1) % 12) (min (p.2.2.1.1 + 1) 12) i = nx then p.1 else Ms (mJ ((nx + 1) % 12) (min (p.2.2.1.1 + 1) 12) i)) = (if p.2.2.1.1 = 12 then (if i = 11 then p.1 else p.2.2.1.2 (i + 1)) else (if i = p.2.2.1.1 then p.1 else p.2.2.1.2 i)) ∧ τ.1 (49 + 13 * mJ ((nx + 1) % 12) (min (p.2.2.1.1 + 1) 12) i) 5 = τ.1 8 5
    rw [hj]
    by_cases q : p.2.2.1.1 = 12
    · rw [if_pos q, if_pos q]
      by_cases q2 : i = 11
      · rw [if_pos q2, if_pos q2, if_pos rfl]
        exact ⟨rfl, by rw [r4, e85]⟩
      · rw [if_neg q2, if_neg q2]
        exact old (i + 1) (by omega) (by omega)
    · rw [if_neg q, if_neg q]
      by_cases q2 : i = p.2.2.1.1
      · rw [if_pos q2, if_pos q2, if_pos rfl]
        exact ⟨rfl, by rw [r4, e85]⟩
      · rw [if_neg q2, if_neg q2]
        exact old i (by omega) (by omega)
  · show zCi τ p.2.2.2.2.1
    unfold zCi at k7 ⊢
    split at k7
    · obtain ⟨q1, B9, q2⟩ := k7
      exact ⟨(h0 6).trans q1, B9, q2.fr h2 (fun c j q1 q2 => fr c j (by omega) (by omega) (by omega) (by omega))⟩
    · obtain ⟨q1, q2, q3, q4⟩ := k7
      exact ⟨(h0 6).trans q1, q2.fr h2 (fun c j q1 q2 => fr c j (by omega) (by omega) (by omega) (by omega)), q3.of h2 (fr _ _ (by omega) (by omega) (by omega) (by omega)) hl, hB q4⟩
/-- what an act of the reference leaves: world, value, acts -/
theorem rY_act {N i k : Nat} (hN : N ≤ 12) (Rs : Nat → Nat → Int32) (w0 : rW σ A) (h : ∀ i, i < N → ∀ k, k < 388 → σ.1 210 (388 * i + k) = .int (Rs i k)) (hi : i < min (N + 1) 12) (hk : k < 388) : (rY σ N).1 210 (388 * i + k) = .int ((if N = 12 then (if i = 11 then A else Rs (i + 1)) else (if i = N then A else Rs i)) k) := by
  have wr : rW (r0 σ) A := w0.el (by omega)
  have rm : ∀ c q, c ≠ 205 → c ≠ 210 → (rRm (r0 σ) N).1 c q = σ.1 c q := fun c q h1 h2 => by
    unfold rRm
    by_cases q9 : N = 12
    · rw [if_pos q9, rCy_ne (fun e => h2 e.1)]; exact q_w_ne (fun e _ => h1 e)
    · rw [if_neg q9, q_w_ne (fun e _ => h1 e)]; exact q_w_ne (fun e _ => h1 e)
  unfold rY
  show (if 210 = 210 ∧ 388 * rRn N ≤ 388 * i + k ∧ 388 * i + k < 388 * rRn N + 388 then Value.int (q_i ((rRm (r0 σ) N).1 206 (0 + (388 * i + k - 388 * rRn N)))) else (rRm (r0 σ) N).1 210 (388 * i + k)) = _
  by_cases q : N = 12
  · rw [if_pos q]
    have en : rRn N = 11 := if_pos q
    rw [en]
    by_cases q2 : i = 11
    · rw [if_pos q2, if_pos ⟨rfl, by omega, by omega⟩, rm 206 _ (by omega) (by omega), show 0 + (388 * i + k - 388 * 11) = k by omega, w0.2 k hk]
      rfl
    · rw [if_neg q2, if_neg (by omega)]
      unfold rRm
      rw [if_pos q]
      show (if 210 = 210 ∧ 0 ≤ 388 * i + k ∧ 388 * i + k < 0 + 4268 then Value.int (q_i ((r0 σ).1 210 (388 + (388 * i + k - 0)))) else (r0 σ).1 210 (388 * i + k)) = _
      rw [if_pos ⟨rfl, by omega, by omega⟩]
      have e : (r0 σ).1 210 (388 + (388 * i + k - 0)) = σ.1 210 (388 * (i + 1) + k) := by
        rw [show 388 + (388 * i + k - 0) = 388 * (i + 1) + k by omega]
        exact q_w_ne (fun e _ => by omega)
      rw [e, h (i + 1) (by omega) k hk]
      rfl
  · rw [if_neg q]
    have en : rRn N = N := if_neg q
    rw [en]
    by_cases q2 : i = N
    · rw [if_pos q2, if_pos ⟨rfl, by omega, by omega⟩, rm 206 _ (by omega) (by omega), show 0 + (388 * i + k - 388 * N) = k by omega, w0.2 k hk]
      rfl
    · rw [if_neg q2, if_neg (by omega)]
      unfold rRm
      rw [if_neg q, q_w_ne (fun e _ => by omega)]
      have e : (r0 σ).1 210 (388 * i + k) = σ.1 210 (388 * i + k) := q_w_ne (fun e _ => by omega)
      rw [e]
      exact h i (by omega) k hk
theorem rY_7 {N : Nat} (hN : N ≤ 12) (h7 : σ.1 205 7 = .int (Int32.ofNat N)) : (rY σ N).1 205 7 = .int (Int32.ofNat (min (N + 1) 12)) := by
  unfold rY
  rw [rCy_ne (fun q => by omega)]
  unfold rRm
  by_cases q : N = 12
  · rw [if_pos q, rCy_ne (fun e => by omega)]
    have e : (r0 σ).1 205 7 = σ.1 205 7 := q_w_ne (fun _ e => by omega)
    rw [e, h7, q]
    rfl
  · rw [if_neg q, q_w_at, show min (N + 1) 12 = N + 1 by omega]
theorem zRv.act (K : zRv σ p) (w : zPw p) (R : rX σ τ B p.2.2.1.1) (h3 : B 3 = p.1 3) : zRv τ (zAct p B) := by
  obtain ⟨⟨s1, s2, s3, s4, s5⟩, k2, k3, k4, k5, k6, k7, k8⟩ := K
  obtain ⟨r1, r2, r3⟩ := R
  have w3 := w.2.2.1
  have fr : ∀ c k, ¬ (c = 206 ∧ k < 388) → c ≠ 213 → c ≠ 210 → ¬ (c = 205 ∧ (k = 0 ∨ k = 7)) → τ.1 c k = σ.1 c k := fun c k q1 q2 q3 q4 => (r2 c k q1 q2).trans (rY_ne q4 q3)
  refine ⟨⟨(fr _ _ (by omega) (by omega) (by omega) (by omega)).trans s1, (fr _ _ (by omega) (by omega) (by omega) (by omega)).trans s2, (fr _ _ (by omega) (by omega) (by omega) (by omega)).trans s3, (fr _ _ (by omega) (by omega) (by omega) (by omega)).trans s4, (fr _ _ (by omega) (by omega) (by omega) (by omega)).trans s5⟩, (fr _ _ (by omega) (by omega) (by omega) (by omega)).trans k2, r3, k4.of (fun k _ _ => fr _ _ (by omega) (by omega) (by omega) (by omega)) h3, (r2 _ _ (by omega) (by omega)).trans (rY_7 w3 k5), fun i hi k hk => (r2 _ _ (by omega) (by omega)).trans (rY_act w3 _ k3 k6 hi hk), ?_, (fr _ _ (by omega) (by omega) (by omega) (by omega)).trans k8⟩
  show zRim τ p.2.2.2.2.1
  unfold zRim at k7 ⊢
  split at k7
  · exact (fr _ _ (by omega) (by omega) (by omega) (by omega)).trans k7
  · obtain ⟨q1, q2, q3⟩ := k7
    exact ⟨(fr _ _ (by omega) (by omega) (by omega) (by omega)).trans q1, fun k hk => (fr _ _ (by omega) (by omega) (by omega) (by omega)).trans (q2 k hk), q3.of (fun k _ _ => fr _ _ (by omega) (by omega) (by omega) (by omega)) rfl⟩
theorem rAc.X {N : Nat} (R : rAc σ τ B N) : rX σ τ B N := ⟨R.1, fun c k q _ => R.2.1 c k q, R.2.2⟩
/-- the class's steps leave the reference alone, and the other way -/
theorem zRv.cls (K : zRv σ p) (h : ∀ c k, 205 ≤ c → c ≤ 217 → τ.1 c k = σ.1 c k) : zRv τ p := K.fr (fun c k q => h c k (by unfold zRc at q; omega) (by unfold zRc at q; omega))
theorem zC.ref (K : zC σ p) (h2 : τ.2 = σ.2) (h : ∀ c k, ¬ (205 ≤ c ∧ c ≤ 217) → τ.1 c k = σ.1 c k) : zC τ p := K.fr h2 (fun c k q => h c k (by unfold zCc at q; omega))
theorem zC.out (K : zC σ p) {v : Value} : zC (q_w σ 218 0 v) p := K.fr rfl (fun c k q => q_w_ne (fun e _ => by unfold zCc at q; omega))
theorem zRv.thr (K : zRv σ p) {c : Int} : zRv (rTh σ c) p := K.fr (fun c k q => q_w_ne (fun e1 e2 => by unfold zRc at q; omega))
end ZRL
end
section
/-! a call of the class and of the reference: the whole relation holds behind both, and they answer alike; printed with wip/gen/gen_dn.py -/
noncomputable def zLik (σ : zSg) (k b : Int32) : Prop := ∃ t : Int32, σ.1 205 0 = .int t ∧ t.toInt = k.toInt ∧ (k.toInt = 0 → σ.1 218 0 = .long b.toInt64)
noncomputable def zHld (σ : zSg) : Prop := ∃ p, zPw p ∧ zC σ p ∧ zRv σ p
theorem aPy_s {p s : Int32} (h0 : 0 ≤ s.toInt) (h : s.toInt ≤ p.toInt) : aPy p s = p - s := by
  have b := zb32 p
  have e : (p - s).toInt = p.toInt - s.toInt := zI_sub rfl rfl (by omega) (by omega)
  unfold aPy
  by_cases q : Int32.ofInt 0 < p - s
  · rw [if_pos q]
  · rw [if_neg q]
    rw [Int32.lt_iff_toInt_lt, e, show (Int32.ofInt 0).toInt = 0 from rfl] at q
    exact Int32.toInt_inj.mp (by rw [e, show (Int32.ofInt 0).toInt = 0 from rfl]; omega)
theorem i_of {a : Int32} {n : Nat} (h : 0 ≤ a.toInt ∧ a.toInt < (n : Int)) (hn : n ≤ 1000) : a = Int32.ofNat a.toInt.toNat ∧ a.toInt.toNat < n := ⟨Int32.toInt_inj.mp (by rw [o32 (by omega)]; omega), by omega⟩
section ZPA
variable {σ σ1 σ2 τ υ : zSg} {p : zPt} {A B : Nat → Int32} {nf nt : Nat} {k b v : Int32}
theorem aI.ho {x : Nat} {v : Int32} (K : aI nf nt A) (hx : x < 24) (hv : v = Int32.ofInt (-1) ∨ ∃ F, F < nf ∧ v = Int32.ofNat F) : aI nf nt (aU A (16 + x) v) := by
  obtain ⟨⟨a0, a1, a2, a3, a4⟩, a5, a6, a7, a8, a9, a10, a11⟩ := K
  have g : ∀ i, i ≠ 16 + x → aU A (16 + x) v i = A i := fun i hi => aU_ne hi
  refine ⟨⟨(g _ (by omega)).trans a0, a1, (g _ (by omega)).trans a2, a3, fun t h1 h2 => (g _ (by omega)).trans (a4 t h1 h2)⟩, fun h hh => ?_, fun t ht => ?_, by rw [g _ (by omega)]; exact a7, by rw [g _ (by omega)]; exact a8, by rw [g _ (by omega)]; exact a9, by rw [g _ (by omega)]; exact a10, by rw [g _ (by omega)]; exact a11⟩
  · by_cases q : h = x
    · rw [q, aU_at]; exact hv
    · rw [g _ (by omega)]; exact a5 h hh
  · rw [g _ (by omega)]; exact a6 t ht
theorem aI.pl {i : Nat} {v : Int32} (K : aI nf nt A) (h1 : ¬ (i < 3 ∨ i = 12 ∨ (16 ≤ i ∧ i < 40) ∨ (64 ≤ i ∧ i < 88))) (h2 : i ≠ 8) (h3 : i ≠ 4) (h4 : i ≠ 14) : aI nf nt (aU A i v) := K.of (fun k hk => aU_ne (by omega)) (fun t g1 g2 => (aU_ne (by omega)).trans (K.1.2.2.2.2 t g1 g2)) (by rw [aU_ne (by omega)]; exact K.2.2.2.2.1) (by rw [aU_ne (by omega)]; exact K.2.2.2.2.2.1) (by rw [aU_ne (by omega)]; exact K.2.2.2.2.2.2.1)
theorem aI.lf {x : Nat} {v : Int32} (K : aI nf nt A) (hx : x < nt) : aI nf nt (aU A (66 + 3 * x) v) := K.of (fun k hk => aU_ne (by omega)) (fun t g1 g2 => (aU_ne (by omega)).trans (K.1.2.2.2.2 t g1 g2)) (by rw [aU_ne (by omega)]; exact K.2.2.2.2.1) (by rw [aU_ne (by omega)]; exact K.2.2.2.2.2.1) (by rw [aU_ne (by omega)]; exact K.2.2.2.2.2.2.1)
theorem aI.q0 (K : aI nf nt A) : aI nf nt (aU A 8 (Int32.ofInt 0)) := K.of (fun k hk => aU_ne (by omega)) (fun t g1 g2 => (aU_ne (by omega)).trans (K.1.2.2.2.2 t g1 g2)) (by rw [aU_at]; decide) (by rw [aU_ne (by omega)]; exact K.2.2.2.2.2.1) (by rw [aU_ne (by omega)]; exact K.2.2.2.2.2.2.1)
theorem hHr_6 {Lo : zLaw} {calm : Bool} (K : aI nf nt A) : 0 ≤ ((hHr Lo nt calm A).1 6).toInt := by
  have hm : ∀ x : Int32, 0 ≤ (aMa (Int32.ofInt 0) x).toInt := fun x => by
    unfold aMa
    by_cases q : Int32.ofInt 0 < x
    · rw [if_pos q]; rw [Int32.lt_iff_toInt_lt, show (Int32.ofInt 0).toInt = 0 from rfl] at q; omega
    · rw [if_neg q]; decide
  have e1 : 0 ≤ (hMd Lo nt calm A 6).toInt := by
    unfold hMd
    cases calm
    · show 0 ≤ (hVi (hCd _) _ 6).toInt
      rw [hVi_k (by omega) (by omega) (by omega) (by omega) (by omega)]
      unfold hCd
      rw [aU_at]
      exact hm _
    · show 0 ≤ (hCd _ 6).toInt
      unfold hCd
      rw [aU_at]
      exact hm _
  obtain ⟨h1, h2, h3⟩ := K.in
  have k1 := K.1.2.1
  have e : hCk (hMd Lo nt calm A) (hN A) 6 = hMd Lo nt calm A 6 := hCk_k (by omega) (by omega)
  unfold hHr hEd
  by_cases q : A (16 + hN A) = Int32.ofInt (-1) ∨ hCk (hMd Lo nt calm A) (hN A) (16 + hN (hCk (hMd Lo nt calm A) (hN A))) = A (16 + hN A)
  · rw [if_pos q]
    show 0 ≤ (hCk (hMd Lo nt calm A) (hN A) 6).toInt
    rw [e]; exact e1
  · rw [if_neg q, hFi_k (by omega) (by omega) (by omega) nt (fun u hu => by omega), e]
    exact e1
theorem hHs_6 {Lo : zLaw} {calm : Bool} (K : aI nf nt A) (h6 : 0 ≤ (A 6).toInt) : ∀ i, 0 ≤ ((hHs Lo nt calm A i).1 6).toInt
  | 0 => h6
  | i + 1 => hHr_6 (K.hs i)
theorem zC.xa {nx : Nat} {Ms : Nat → Nat → Int32} (K : zC σ p) (w : zPw p) (m : mM σ nx p.2.2.1.1 Ms) : xA σ p.1 p.2.1.1 p.2.1.2 nx p.2.2.1.1 Ms := ⟨K.1, K.2.1, m, w.1⟩
theorem xR.W {nx n : Nat} {Ms : Nat → Nat → Int32} {Lo : zLaw} (R : xR σ τ A B nx n Ms) (hx : nx < 12) (K : hW σ 8 Lo) : hW τ 8 Lo := K.of R.1.1 (R.1.2 _ _ (by omega) (by omega) (by omega)) (fun c k q1 q2 => R.1.2 c k (by omega) (by omega) (by omega))
theorem rY_00 {N : Nat} : (rY σ N).1 205 0 = .int (Int32.ofInt 0) := by
  unfold rY
  rw [rCy_ne (fun q => by omega)]
  unfold rRm
  by_cases q : N = 12
  · rw [if_pos q, rCy_ne (fun e => by omega)]; exact q_w_at _ _ _ _
  · rw [if_neg q, q_w_ne (fun _ e => by omega)]; exact q_w_at _ _ _ _
theorem zq_err {c : Int} (w : zPw p) (K : zC σ p) (R : zRv σ p) (e1 : σ1 = σ) (e2 : σ2 = rTh σ1 c) (ek : k = Int32.ofInt c) (hc : c = 1 ∨ c = 2 ∨ c = 3) : zHld σ2 ∧ zLik σ2 k b := by
  subst e1 e2 ek
  refine ⟨⟨p, w, K.ref rfl (fun c k q => q_w_ne (fun e _ => by omega)), R.thr⟩, _, q_w_at _ _ _ _, rfl, fun h => ?_⟩
  rcases hc with rfl | rfl | rfl <;> exact absurd h (by decide)
theorem rX.fr {N : Nat} (X : rX σ1 σ2 B N) {c q : Nat} (h : ¬ (205 ≤ c ∧ c ≤ 217)) : σ2.1 c q = σ1.1 c q := (X.2.1 c q (by omega) (by omega)).trans (rY_ne (by omega) (by omega))
theorem rX.z0 {N : Nat} (X : rX σ1 σ2 B N) : σ2.1 205 0 = .int (Int32.ofInt 0) := (X.2.1 205 0 (by omega) (by omega)).trans rY_00
theorem rX.s {N : Nat} (X : rX σ1 σ2 B N) : σ2.2 = σ1.2 := X.1
theorem zq_core (w : zPw p) (K : zC σ1 (zAct p B)) (R : zRv σ1 p) (IB : aI p.2.1.1 p.2.1.2 B) (h6 : 0 ≤ (B 6).toInt) (h3 : B 3 = p.1 3) (X : rX σ1 σ2 B p.2.2.1.1) : zHld σ2 := ⟨_, w.act IB h6 h3, K.ref X.s (fun _ _ q => X.fr q), R.act w X h3⟩
theorem xE.lo {nx n : Nat} {Ms : Nat → Nat → Int32} (R : xE σ τ A B nx n Ms) (hx : nx < 12) {c q : Nat} (h1 : 205 ≤ c) (h2 : c ≤ 218) : τ.1 c q = σ.1 c q := R.1.2 c q (by omega) (by omega) (by omega) (by omega)
theorem zq_ok (w : zPw p) (K : zC σ p) (R : zRv σ p) (H : ∀ nx Ms, mM σ nx p.2.2.1.1 Ms → xE σ τ p.1 B nx p.2.2.1.1 Ms ∧ hW τ 8 p.2.2.2.1) (IB : aI p.2.1.1 p.2.1.2 B) (h6 : 0 ≤ (B 6).toInt) (h3 : B 3 = p.1 3) (e1 : σ1 = q_w τ 218 0 (.long v.toInt64)) (ek : k = Int32.ofInt 0) (X : zRv σ1 p → rX σ1 σ2 B p.2.2.1.1 ∧ b = v) : zHld σ2 ∧ zLik σ2 k b := by
  have K1 : zC σ1 (zAct p B) := by rw [e1]; exact (K.act w.2.2.1 H).out
  obtain ⟨nx, Ms, m, -⟩ := K.2.2.2.1
  have hx := m.2.2.2.1
  have R1 : zRv σ1 p := R.cls (fun c q h1 h2 => by
    rw [e1, q_w_ne (fun e _ => by omega)]
    exact (H nx Ms m).1.lo hx h1 (by omega))
  obtain ⟨RX, eb⟩ := X R1
  refine ⟨zq_core w K1 R1 IB h6 h3 RX, _, RX.z0, by rw [ek], fun _ => ?_⟩
  rw [RX.fr (by omega), e1, eb]
  exact q_w_at _ _ _ _
theorem zq_ok0 (w : zPw p) (K : zC σ p) (R : zRv σ p) (H : ∀ nx Ms, mM σ nx p.2.2.1.1 Ms → xE σ σ1 p.1 B nx p.2.2.1.1 Ms ∧ hW σ1 8 p.2.2.2.1) (IB : aI p.2.1.1 p.2.1.2 B) (h6 : 0 ≤ (B 6).toInt) (h3 : B 3 = p.1 3) (X : zRv σ1 p → rX σ1 σ2 B p.2.2.1.1) : zHld σ2 := by
  obtain ⟨nx, Ms, m, -⟩ := K.2.2.2.1
  have hx := m.2.2.2.1
  have R1 : zRv σ1 p := R.cls (fun c q h1 h2 => (H nx Ms m).1.lo hx h1 (by omega))
  exact zq_core w (K.act w.2.2.1 H) R1 IB h6 h3 (X R1)
end ZPA
theorem zq_12 {σ σ1 σ2 : zSg} {p : zPt} {a1 k b : Int32} (w : zPw p) (K : zC σ p) (R : zRv σ p) (G1 : p_324 0 a1 218 σ k σ1) (G2 : p_256 205 a1 σ1 b σ2) : zHld σ2 ∧ zLik σ2 k b := by
  obtain ⟨e, τ, g, alts⟩ := G1
  obtain ⟨nx, Ms, m, -⟩ := K.2.2.2.1
  have g0 := g rfl p.1 p.2.1.1 p.2.1.2 nx p.2.2.1.1 Ms (K.xa w m)
  have k6 := w.1.1.2.1
  have k8 := w.1.1.2.2.2.1
  by_cases hv : 0 ≤ a1.toInt ∧ a1.toInt < 24
  · obtain ⟨ex, lx⟩ := i_of (n := 24) hv (by omega)
    generalize a1.toInt.toNat = x at ex lx
    subst ex
    by_cases hh : p.1 (16 + x) = Int32.ofInt (-1)
    · obtain ⟨rfl, rfl⟩ := (g0.2 x rfl lx).1 hh
      rcases alts with ⟨v, q, r1, r2⟩ | ⟨q, r1, r2⟩ | ⟨q, r1, r2⟩
      · cases q
      · cases q
      · subst r2
        exact zq_err w K R rfl (((G2 rfl p.1 p.2.2.1.1 (R.J w)).2 x rfl lx).1 hh).2 r1 (by decide)
    · have z := (g0.2 x rfl lx).2 hh
      obtain ⟨rfl, -⟩ := z
      rcases alts with ⟨v, q, r1, r2⟩ | ⟨q, r1, r2⟩ | ⟨q, r1, r2⟩
      · subst r1
        cases q
        refine zq_ok (B := aU p.1 (16 + x) (Int32.ofInt (-1))) w K R (fun nx' Ms' m' => ?_) (w.1.ho lx (Or.inl rfl)) (by rw [aU_ne (by omega)]; exact w.2.1) (aU_ne (by omega)) r2 rfl (fun R1 => ?_)
        · have g1 := g rfl p.1 p.2.1.1 p.2.1.2 nx' p.2.2.1.1 Ms' (K.xa w m')
          have x := ((g1.2 x rfl lx).2 hh).2
          exact ⟨x.e, x.W m'.2.2.2.1 K.2.2.2.2.1⟩
        · have y := ((G2 rfl p.1 p.2.2.1.1 (R1.J w)).2 x rfl lx).2 hh
          exact ⟨y.2.X, y.1⟩
      · cases q
      · cases q
  · obtain ⟨rfl, rfl⟩ := g0.1 hv
    rcases alts with ⟨v, q, r1, r2⟩ | ⟨q, r1, r2⟩ | ⟨q, r1, r2⟩
    · cases q
    · subst r2
      exact zq_err w K R rfl ((G2 rfl p.1 p.2.2.1.1 (R.J w)).1 hv).2 r1 (by decide)
    · cases q
theorem zq_16 {σ σ1 σ2 : zSg} {p : zPt} {k b : Int32} (w : zPw p) (K : zC σ p) (R : zRv σ p) (G1 : p_134 0 σ k σ1) (G2 : p_261 205 σ1 b σ2) : zHld σ2 ∧ k = b := by
  obtain ⟨nx, Ms, m, -⟩ := K.2.2.2.1
  have hx := m.2.2.2.1
  have g0 := G1 rfl p.1 p.2.1.1 p.2.1.2 nx p.2.2.1.1 Ms (K.xa w m)
  have R1 : zRv σ1 p := R.cls (fun c q h1 h2 => g0.2.e.lo hx h1 (by omega))
  have y := G2 rfl p.1 p.2.2.1.1 (R1.J w)
  refine ⟨zq_ok0 (B := aU p.1 7 (Int32.ofInt 0)) w K R (fun nx' Ms' m' => ?_) (w.1.pl (by omega) (by omega) (by omega) (by omega)) (by rw [aU_ne (by omega)]; exact w.2.1) (aU_ne (by omega)) (fun _ => y.2.X), g0.1.trans y.1.symm⟩
  have x := (G1 rfl p.1 p.2.1.1 p.2.1.2 nx' p.2.2.1.1 Ms' (K.xa w m')).2
  exact ⟨x.e, x.W m'.2.2.2.1 K.2.2.2.2.1⟩
theorem zq_10 {σ σ1 σ2 : zSg} {p : zPt} {a1 a2 k b : Int32} (w : zPw p) (K : zC σ p) (R : zRv σ p) (G1 : p_322 0 a1 a2 218 σ k σ1) (G2 : p_253 205 a1 a2 σ1 b σ2) : zHld σ2 ∧ zLik σ2 k b := by
  obtain ⟨e, τ, g, alts⟩ := G1
  obtain ⟨nx, Ms, m, -⟩ := K.2.2.2.1
  have g0 := g rfl p.1 p.2.1.1 p.2.1.2 nx p.2.2.1.1 Ms (K.xa w m)
  have k6 := w.1.1.2.1
  have k8 := w.1.1.2.2.2.1
  by_cases hv : (0 ≤ a1.toInt ∧ a1.toInt < 24) ∧ (0 ≤ a2.toInt ∧ a2.toInt < (p.2.1.1 : Int))
  · obtain ⟨ex, lx⟩ := i_of (n := 24) hv.1 (by omega)
    obtain ⟨eF, lF⟩ := i_of hv.2 (by omega)
    generalize a1.toInt.toNat = x at ex lx
    generalize a2.toInt.toNat = F at eF lF
    subst ex eF
    by_cases hh : p.1 (16 + x) = Int32.ofInt (-1) ∧ (p.1 12).toInt ≤ (p.1 (40 + 4 * F)).toInt
    · have es := aPy_s w.1.2.2.2.1.1 hh.2
      have z := (g0.2 x F rfl lx rfl lF).2 hh
      obtain ⟨rfl, -⟩ := z
      rcases alts with ⟨v, q, r1, r2⟩ | ⟨q, r1, r2⟩ | ⟨q, r1, r2⟩
      · subst r1
        cases q
        refine zq_ok (B := aU (aU p.1 (40 + 4 * F) (aPy (p.1 (40 + 4 * F)) (p.1 12))) (16 + x) (Int32.ofNat F)) w K R (fun nx' Ms' m' => ?_) ((w.1.pl (by omega) (by omega) (by omega) (by omega)).ho lx (Or.inr ⟨F, lF, rfl⟩)) (by rw [aU_ne (by omega), aU_ne (by omega)]; exact w.2.1) ((aU_ne (by omega)).trans (aU_ne (by omega))) r2 rfl (fun R1 => ?_)
        · have g1 := g rfl p.1 p.2.1.1 p.2.1.2 nx' p.2.2.1.1 Ms' (K.xa w m')
          have x := ((g1.2 x F rfl lx rfl lF).2 hh).2
          exact ⟨x.e, x.W m'.2.2.2.1 K.2.2.2.2.1⟩
        · have y := ((G2 rfl p.1 p.2.2.1.1 p.2.1.1 (R1.J w) w.1.1.1 w.1.1.2.1).2 x F rfl lx rfl lF).2 hh
          rw [es]
          exact ⟨y.2.X, y.1⟩
      · cases q
      · cases q
    · obtain ⟨rfl, rfl⟩ := (g0.2 x F rfl lx rfl lF).1 hh
      rcases alts with ⟨v, q, r1, r2⟩ | ⟨q, r1, r2⟩ | ⟨q, r1, r2⟩
      · cases q
      · cases q
      · subst r2
        exact zq_err w K R rfl (((G2 rfl p.1 p.2.2.1.1 p.2.1.1 (R.J w) w.1.1.1 w.1.1.2.1).2 x F rfl lx rfl lF).1 hh).2 r1 (by decide)
  · obtain ⟨rfl, rfl⟩ := g0.1 hv
    rcases alts with ⟨v, q, r1, r2⟩ | ⟨q, r1, r2⟩ | ⟨q, r1, r2⟩
    · cases q
    · subst r2
      exact zq_err w K R rfl ((G2 rfl p.1 p.2.2.1.1 p.2.1.1 (R.J w) w.1.1.1 w.1.1.2.1).1 hv).2 r1 (by decide)
    · cases q
theorem zq_9 {σ σ1 σ2 : zSg} {p : zPt} {a1 a2 k b : Int32} (w : zPw p) (K : zC σ p) (R : zRv σ p) (G1 : p_321 0 a1 a2 218 σ k σ1) (G2 : p_252 205 a1 a2 σ1 b σ2) : zHld σ2 ∧ zLik σ2 k b := by
  obtain ⟨e, τ, g, alts⟩ := G1
  obtain ⟨nx, Ms, m, -⟩ := K.2.2.2.1
  have g0 := g rfl p.1 p.2.1.1 p.2.1.2 nx p.2.2.1.1 Ms (K.xa w m)
  have k6 := w.1.1.2.1
  have k8 := w.1.1.2.2.2.1
  by_cases hv : (0 ≤ a1.toInt ∧ a1.toInt < 24) ∧ (0 ≤ a2.toInt ∧ a2.toInt < (p.2.1.1 : Int))
  · obtain ⟨ex, lx⟩ := i_of (n := 24) hv.1 (by omega)
    obtain ⟨eF, lF⟩ := i_of hv.2 (by omega)
    generalize a1.toInt.toNat = x at ex lx
    generalize a2.toInt.toNat = F at eF lF
    subst ex eF
    by_cases hq : p.1 (16 + x) = Int32.ofNat F
    · obtain ⟨rfl, rfl⟩ := (g0.2 x F rfl lx rfl lF).1 hq
      rcases alts with ⟨v, q, r1, r2⟩ | ⟨q, r1, r2⟩ | ⟨q, r1, r2⟩ | ⟨q, r1, r2⟩
      · cases q
      · cases q
      · subst r2
        exact zq_err w K R rfl (((G2 rfl p.1 p.2.2.1.1 p.2.1.1 (R.J w) w.1.1.1 w.1.1.2.1).2 x F rfl lx rfl lF).1 hq).2 r1 (by decide)
      · cases q
    by_cases hh : p.1 (16 + x) ≠ Int32.ofInt (-1) ∧ (p.1 12).toInt ≤ (p.1 (40 + 4 * F)).toInt
    · have es := aPy_s w.1.2.2.2.1.1 hh.2
      obtain ⟨G, hG, eG⟩ : ∃ G, G < p.2.1.1 ∧ p.1 (16 + x) = Int32.ofNat G := (w.1.2.1 x lx).resolve_left hh.1
      have z := ((g0.2 x F rfl lx rfl lF).2 hq).2 hh G eG hG
      obtain ⟨rfl, -⟩ := z
      rcases alts with ⟨v, q, r1, r2⟩ | ⟨q, r1, r2⟩ | ⟨q, r1, r2⟩ | ⟨q, r1, r2⟩
      · subst r1
        cases q
        refine zq_ok (B := aU (aU (aU p.1 (40 + 4 * F) (aPy (p.1 (40 + 4 * F)) (p.1 12))) (40 + 4 * G) (aEn (p.1 (40 + 4 * G)) (p.1 12))) (16 + x) (Int32.ofNat F)) w K R (fun nx' Ms' m' => ?_) (((w.1.pl (by omega) (by omega) (by omega) (by omega)).pl (by omega) (by omega) (by omega) (by omega)).ho lx (Or.inr ⟨F, lF, rfl⟩)) (by rw [aU_ne (by omega), aU_ne (by omega), aU_ne (by omega)]; exact w.2.1) ((aU_ne (by omega)).trans ((aU_ne (by omega)).trans (aU_ne (by omega)))) r2 rfl (fun R1 => ?_)
        · have g1 := g rfl p.1 p.2.1.1 p.2.1.2 nx' p.2.2.1.1 Ms' (K.xa w m')
          have x := (((g1.2 x F rfl lx rfl lF).2 hq).2 hh G eG hG).2
          exact ⟨x.e, x.W m'.2.2.2.1 K.2.2.2.2.1⟩
        · have y := (((G2 rfl p.1 p.2.2.1.1 p.2.1.1 (R1.J w) w.1.1.1 w.1.1.2.1).2 x F rfl lx rfl lF).2 hq).2 hh G eG hG
          rw [es]
          exact ⟨y.2.X, y.1⟩
      · cases q
      · cases q
      · cases q
    · obtain ⟨rfl, rfl⟩ := ((g0.2 x F rfl lx rfl lF).2 hq).1 hh
      rcases alts with ⟨v, q, r1, r2⟩ | ⟨q, r1, r2⟩ | ⟨q, r1, r2⟩ | ⟨q, r1, r2⟩
      · cases q
      · cases q
      · cases q
      · subst r2
        exact zq_err w K R rfl ((((G2 rfl p.1 p.2.2.1.1 p.2.1.1 (R.J w) w.1.1.1 w.1.1.2.1).2 x F rfl lx rfl lF).2 hq).1 hh).2 r1 (by decide)
  · obtain ⟨rfl, rfl⟩ := g0.1 hv
    rcases alts with ⟨v, q, r1, r2⟩ | ⟨q, r1, r2⟩ | ⟨q, r1, r2⟩ | ⟨q, r1, r2⟩
    · cases q
    · subst r2
      exact zq_err w K R rfl ((G2 rfl p.1 p.2.2.1.1 p.2.1.1 (R.J w) w.1.1.1 w.1.1.2.1).1 hv).2 r1 (by decide)
    · cases q
    · cases q
theorem zq_11 {σ σ1 σ2 : zSg} {p : zPt} {a1 a2 k b : Int32} (w : zPw p) (K : zC σ p) (R : zRv σ p) (G1 : p_323 0 a1 a2 218 σ k σ1) (G2 : p_255 205 a1 a2 σ1 b σ2) : zHld σ2 ∧ zLik σ2 k b := by
  obtain ⟨e, τ, g, alts⟩ := G1
  obtain ⟨nx, Ms, m, -⟩ := K.2.2.2.1
  have g0 := g rfl p.1 p.2.1.1 p.2.1.2 nx p.2.2.1.1 Ms (K.xa w m)
  have k6 := w.1.1.2.1
  have k8 := w.1.1.2.2.2.1
  by_cases hv : (0 ≤ a1.toInt ∧ a1.toInt < 24) ∧ (0 ≤ a2.toInt ∧ a2.toInt < 24)
  · obtain ⟨ex, lx⟩ := i_of (n := 24) hv.1 (by omega)
    obtain ⟨ey, ly⟩ := i_of (n := 24) hv.2 (by omega)
    generalize a1.toInt.toNat = x at ex lx
    generalize a2.toInt.toNat = y at ey ly
    subst ex ey
    by_cases hq : x = y
    · obtain ⟨rfl, rfl⟩ := (g0.2 x y rfl lx rfl ly).1 hq
      rcases alts with ⟨v, q, r1, r2⟩ | ⟨q, r1, r2⟩ | ⟨q, r1, r2⟩ | ⟨q, r1, r2⟩
      · cases q
      · cases q
      · subst r2
        exact zq_err w K R rfl (((G2 rfl p.1 p.2.2.1.1 (R.J w)).2 x y rfl lx rfl ly).1 hq).2 r1 (by decide)
      · cases q
    by_cases hh : p.1 (16 + x) ≠ Int32.ofInt (-1) ∧ p.1 (16 + y) ≠ Int32.ofInt (-1) ∧ p.1 (16 + x) ≠ p.1 (16 + y)
    · have z := ((g0.2 x y rfl lx rfl ly).2 hq).2 hh
      obtain ⟨rfl, -⟩ := z
      rcases alts with ⟨v, q, r1, r2⟩ | ⟨q, r1, r2⟩ | ⟨q, r1, r2⟩ | ⟨q, r1, r2⟩
      · subst r1
        cases q
        refine zq_ok (B := aU (aU p.1 (16 + x) (p.1 (16 + y))) (16 + y) (p.1 (16 + x))) w K R (fun nx' Ms' m' => ?_) ((w.1.ho lx (w.1.2.1 y ly)).ho ly (w.1.2.1 x lx)) (by rw [aU_ne (by omega), aU_ne (by omega)]; exact w.2.1) ((aU_ne (by omega)).trans (aU_ne (by omega))) r2 rfl (fun R1 => ?_)
        · have g1 := g rfl p.1 p.2.1.1 p.2.1.2 nx' p.2.2.1.1 Ms' (K.xa w m')
          have x := (((g1.2 x y rfl lx rfl ly).2 hq).2 hh).2
          exact ⟨x.e, x.W m'.2.2.2.1 K.2.2.2.2.1⟩
        · have y9 := (((G2 rfl p.1 p.2.2.1.1 (R1.J w)).2 x y rfl lx rfl ly).2 hq).2 hh
          exact ⟨y9.2.X, y9.1⟩
      · cases q
      · cases q
      · cases q
    · obtain ⟨rfl, rfl⟩ := ((g0.2 x y rfl lx rfl ly).2 hq).1 hh
      rcases alts with ⟨v, q, r1, r2⟩ | ⟨q, r1, r2⟩ | ⟨q, r1, r2⟩ | ⟨q, r1, r2⟩
      · cases q
      · cases q
      · cases q
      · subst r2
        exact zq_err w K R rfl ((((G2 rfl p.1 p.2.2.1.1 (R.J w)).2 x y rfl lx rfl ly).2 hq).1 hh).2 r1 (by decide)
  · obtain ⟨rfl, rfl⟩ := g0.1 hv
    rcases alts with ⟨v, q, r1, r2⟩ | ⟨q, r1, r2⟩ | ⟨q, r1, r2⟩ | ⟨q, r1, r2⟩
    · cases q
    · subst r2
      exact zq_err w K R rfl ((G2 rfl p.1 p.2.2.1.1 (R.J w)).1 hv).2 r1 (by decide)
    · cases q
    · cases q
theorem zq_13 {σ σ1 σ2 : zSg} {p : zPt} {a1 k b : Int32} (w : zPw p) (K : zC σ p) (R : zRv σ p) (G1 : p_325 0 a1 218 σ k σ1) (G2 : p_258 205 a1 σ1 b σ2) : zHld σ2 ∧ zLik σ2 k b := by
  obtain ⟨e, τ, g, alts⟩ := G1
  obtain ⟨nx, Ms, m, -⟩ := K.2.2.2.1
  have g0 := g rfl p.1 p.2.1.1 p.2.1.2 nx p.2.2.1.1 Ms (K.xa w m)
  have k6 := w.1.1.2.1
  have k8 := w.1.1.2.2.2.1
  by_cases hv : 0 ≤ a1.toInt ∧ a1.toInt < (p.2.1.2 : Int)
  · obtain ⟨ex, lx⟩ := i_of hv (by omega)
    generalize a1.toInt.toNat = x at ex lx
    subst ex
    obtain ⟨i4, h4, e4⟩ := w.1.2.2.2.2.2.1
    have hL : p.1 (66 + 3 * x) = Int32.ofInt 0 ∨ p.1 (66 + 3 * x) = Int32.ofInt 1 := by
      obtain ⟨l, -, hl'⟩ := K.2.1.2.2.1
      have e9 := hl' x (by omega)
      by_cases hb : btb l (Int32.ofNat x) = true
      · rw [if_pos hb] at e9; exact Or.inr e9
      · rw [if_neg hb] at e9; exact Or.inl e9
    have eb : aBs (aU p.1 (66 + 3 * x) (Int32.ofInt 1)) (aLo (aU p.1 (66 + 3 * x) (Int32.ofInt 1)) p.2.1.2) p.2.1.2 = aBo (aU p.1 (66 + 3 * x) (Int32.ofInt 1)) (Int32.ofInt (-1)) p.2.1.2 := aBs_lo k8 (fun t ht => by rw [aU_ne (by omega)]; exact w.1.own t ht)
    by_cases hh : p.1 (64 + 3 * x) = p.1 (16 + i4) ∧ p.1 (66 + 3 * x) = Int32.ofInt 0
    · have z := (g0.2 x rfl lx i4 e4 h4).2 hh
      obtain ⟨rfl, -⟩ := z
      rcases alts with ⟨v, q, r1, r2⟩ | ⟨q, r1, r2⟩ | ⟨q, r1, r2⟩
      · subst r1
        cases q
        refine zq_ok (B := aU p.1 (66 + 3 * x) (Int32.ofInt 1)) w K R (fun nx' Ms' m' => ?_) (w.1.lf lx) (by rw [aU_ne (by omega)]; exact w.2.1) (aU_ne (by omega)) r2 rfl (fun R1 => ?_)
        · have g1 := g rfl p.1 p.2.1.1 p.2.1.2 nx' p.2.2.1.1 Ms' (K.xa w m')
          have x := ((g1.2 x rfl lx i4 e4 h4).2 hh).2
          exact ⟨x.e, x.W m'.2.2.2.1 K.2.2.2.2.1⟩
        · have y := ((G2 rfl p.1 p.2.2.1.1 p.2.1.2 (R1.J w) w.1.1.2.2.1 w.1.1.2.2.2.1).2 x rfl lx i4 e4 h4).2 (⟨hh.1, fun q => by rw [hh.2] at q; exact absurd q (by decide)⟩)
          exact ⟨y.1.X, y.2.trans eb⟩
      · cases q
      · cases q
    · obtain ⟨rfl, rfl⟩ := (g0.2 x rfl lx i4 e4 h4).1 hh
      rcases alts with ⟨v, q, r1, r2⟩ | ⟨q, r1, r2⟩ | ⟨q, r1, r2⟩
      · cases q
      · cases q
      · subst r2
        exact zq_err w K R rfl (((G2 rfl p.1 p.2.2.1.1 p.2.1.2 (R.J w) w.1.1.2.2.1 w.1.1.2.2.2.1).2 x rfl lx i4 e4 h4).1 (fun q => hh ⟨q.1, hL.resolve_right q.2⟩)).2 r1 (by decide)
  · obtain ⟨rfl, rfl⟩ := g0.1 hv
    rcases alts with ⟨v, q, r1, r2⟩ | ⟨q, r1, r2⟩ | ⟨q, r1, r2⟩
    · cases q
    · subst r2
      exact zq_err w K R rfl ((G2 rfl p.1 p.2.2.1.1 p.2.1.2 (R.J w) w.1.1.2.2.1 w.1.1.2.2.2.1).1 hv).2 r1 (by decide)
    · cases q
theorem zq_14 {σ σ1 σ2 : zSg} {p : zPt} {a1 k b : Int32} (w : zPw p) (K : zC σ p) (R : zRv σ p) (G1 : p_326 0 a1 218 σ k σ1) (G2 : p_259 205 a1 σ1 b σ2) : zHld σ2 ∧ zLik σ2 k b := by
  obtain ⟨e, τ, g, alts⟩ := G1
  obtain ⟨nx, Ms, m, -⟩ := K.2.2.2.1
  have g0 := g rfl p.1 p.2.1.1 p.2.1.2 nx p.2.2.1.1 Ms (K.xa w m)
  have k6 := w.1.1.2.1
  have k8 := w.1.1.2.2.2.1
  by_cases hv : 0 ≤ a1.toInt ∧ a1.toInt < (p.2.1.2 : Int)
  · obtain ⟨ex, lx⟩ := i_of hv (by omega)
    generalize a1.toInt.toNat = x at ex lx
    subst ex
    obtain ⟨i4, h4, e4⟩ := w.1.2.2.2.2.2.1
    have hL : p.1 (66 + 3 * x) = Int32.ofInt 0 ∨ p.1 (66 + 3 * x) = Int32.ofInt 1 := by
      obtain ⟨l, -, hl'⟩ := K.2.1.2.2.1
      have e9 := hl' x (by omega)
      by_cases hb : btb l (Int32.ofNat x) = true
      · rw [if_pos hb] at e9; exact Or.inr e9
      · rw [if_neg hb] at e9; exact Or.inl e9
    have eb : aBs (aU p.1 (66 + 3 * x) (Int32.ofInt 0)) (aLo (aU p.1 (66 + 3 * x) (Int32.ofInt 0)) p.2.1.2) p.2.1.2 = aBo (aU p.1 (66 + 3 * x) (Int32.ofInt 0)) (Int32.ofInt (-1)) p.2.1.2 := aBs_lo k8 (fun t ht => by rw [aU_ne (by omega)]; exact w.1.own t ht)
    by_cases hh : p.1 (64 + 3 * x) = p.1 (16 + i4) ∧ p.1 (66 + 3 * x) = Int32.ofInt 1
    · have z := (g0.2 x rfl lx i4 e4 h4).2 hh
      obtain ⟨rfl, -⟩ := z
      rcases alts with ⟨v, q, r1, r2⟩ | ⟨q, r1, r2⟩ | ⟨q, r1, r2⟩
      · subst r1
        cases q
        refine zq_ok (B := aU p.1 (66 + 3 * x) (Int32.ofInt 0)) w K R (fun nx' Ms' m' => ?_) (w.1.lf lx) (by rw [aU_ne (by omega)]; exact w.2.1) (aU_ne (by omega)) r2 rfl (fun R1 => ?_)
        · have g1 := g rfl p.1 p.2.1.1 p.2.1.2 nx' p.2.2.1.1 Ms' (K.xa w m')
          have x := ((g1.2 x rfl lx i4 e4 h4).2 hh).2
          exact ⟨x.e, x.W m'.2.2.2.1 K.2.2.2.2.1⟩
        · have y := ((G2 rfl p.1 p.2.2.1.1 p.2.1.2 (R1.J w) w.1.1.2.2.1 w.1.1.2.2.2.1).2 x rfl lx i4 e4 h4).2 (hh)
          exact ⟨y.1.X, y.2.trans eb⟩
      · cases q
      · cases q
    · obtain ⟨rfl, rfl⟩ := (g0.2 x rfl lx i4 e4 h4).1 hh
      rcases alts with ⟨v, q, r1, r2⟩ | ⟨q, r1, r2⟩ | ⟨q, r1, r2⟩
      · cases q
      · cases q
      · subst r2
        exact zq_err w K R rfl (((G2 rfl p.1 p.2.2.1.1 p.2.1.2 (R.J w) w.1.1.2.2.1 w.1.1.2.2.2.1).2 x rfl lx i4 e4 h4).1 hh).2 r1 (by decide)
  · obtain ⟨rfl, rfl⟩ := g0.1 hv
    rcases alts with ⟨v, q, r1, r2⟩ | ⟨q, r1, r2⟩ | ⟨q, r1, r2⟩
    · cases q
    · subst r2
      exact zq_err w K R rfl ((G2 rfl p.1 p.2.2.1.1 p.2.1.2 (R.J w) w.1.1.2.2.1 w.1.1.2.2.2.1).1 hv).2 r1 (by decide)
    · cases q
theorem zq_15 {σ σ1 σ2 : zSg} {p : zPt} {k b : Int32} (w : zPw p) (K : zC σ p) (R : zRv σ p) (G1 : p_327 0 218 σ k σ1) (G2 : p_260 205 σ1 b σ2) : zHld σ2 ∧ zLik σ2 k b := by
  obtain ⟨e, τ, g, alts⟩ := G1
  obtain ⟨nx, Ms, m, -⟩ := K.2.2.2.1
  have g0 := g rfl p.1 p.2.1.1 p.2.1.2 nx p.2.2.1.1 Ms (K.xa w m)
  have k6 := w.1.1.2.1
  have k8 := w.1.1.2.2.2.1
  obtain ⟨i4, h4, e4⟩ := w.1.2.2.2.2.2.1
  have h8 := w.1.2.2.2.2.1
  rcases w.1.2.1 i4 h4 with hq | ⟨F, hF, eF⟩
  · obtain ⟨rfl, rfl⟩ := (g0 i4 e4 h4).1 hq
    rcases alts with ⟨v, q, r1, r2⟩ | ⟨q, r1, r2⟩
    · cases q
    · subst r2
      exact zq_err w K R rfl ((G2 rfl p.1 p.2.2.1.1 (R.J w) i4 e4 h4).1 hq).2 r1 (by decide)
  by_cases hh : 0 < (p.1 8).toInt ∧ (p.1 8).toInt ≤ (p.1 (40 + 4 * F)).toInt
  · have es := aPy_s h8.1 hh.2
    have z := ((g0 i4 e4 h4).2 F eF hF).2 hh
    obtain ⟨rfl, -⟩ := z
    rcases alts with ⟨v, q, r1, r2⟩ | ⟨q, r1, r2⟩
    · subst r1
      cases q
      refine zq_ok (B := aU (aU p.1 (40 + 4 * F) (aPy (p.1 (40 + 4 * F)) (p.1 8))) 8 (Int32.ofInt 0)) w K R (fun nx' Ms' m' => ?_) ((w.1.pl (by omega) (by omega) (by omega) (by omega)).q0) (by rw [aU_ne (by omega), aU_ne (by omega)]; exact w.2.1) ((aU_ne (by omega)).trans (aU_ne (by omega))) r2 rfl (fun R1 => ?_)
      · have g1 := g rfl p.1 p.2.1.1 p.2.1.2 nx' p.2.2.1.1 Ms' (K.xa w m')
        have x := (((g1 i4 e4 h4).2 F eF hF).2 hh).2
        exact ⟨x.e, x.W m'.2.2.2.1 K.2.2.2.2.1⟩
      · have y := ((G2 rfl p.1 p.2.2.1.1 (R1.J w) i4 e4 h4).2 F eF (by omega)).2 ⟨by omega, hh.2⟩
        rw [es]
        exact ⟨y.2.X, y.1⟩
    · cases q
  · obtain ⟨rfl, rfl⟩ := ((g0 i4 e4 h4).2 F eF hF).1 hh
    rcases alts with ⟨v, q, r1, r2⟩ | ⟨q, r1, r2⟩
    · cases q
    · subst r2
      exact zq_err w K R rfl (((G2 rfl p.1 p.2.2.1.1 (R.J w) i4 e4 h4).2 F eF (by omega)).1 (fun q => hh ⟨by omega, q.2⟩)).2 r1 (by decide)
theorem zq_17 {σ σ1 σ2 : zSg} {p : zPt} {a1 k b : Int32} (w : zPw p) (K : zC σ p) (R : zRv σ p) (G1 : p_328 0 a1 218 σ k σ1) (G2 : p_269 205 a1 σ1 b σ2) : zHld σ2 ∧ zLik σ2 k b := by
  obtain ⟨e, τ, g, alts⟩ := G1
  obtain ⟨nx, Ms, m, -⟩ := K.2.2.2.1
  have g0 := g rfl p.1 p.2.1.1 p.2.1.2 nx p.2.2.1.1 Ms p.2.2.2.1 (K.xa w m) K.2.2.2.2.1
  have k6 := w.1.1.2.1
  have k8 := w.1.1.2.2.2.1
  by_cases hv : 1 ≤ a1.toInt ∧ a1.toInt ≤ 100
  · obtain ⟨ex, lx⟩ := i_of (a := a1) (n := 101) (by omega) (by omega)
    have hx1 : 1 ≤ a1.toInt.toNat := by omega
    generalize a1.toInt.toNat = x at ex lx hx1
    subst ex
    have z := g0.2 x rfl hx1 (by omega)
    obtain ⟨rfl, -⟩ := z
    rcases alts with ⟨v, q, r1, r2⟩ | ⟨q, r1, r2⟩
    · subst r1
      cases q
      refine zq_ok (B := (hHs p.2.2.2.1 p.2.1.2 false p.1 x).1) w K R (fun nx' Ms' m' => ?_) (w.1.hs x) (hHs_6 w.1 w.2.1 x) (hHs_k w.1 (by omega) x) r2 rfl (fun R1 => ?_)
      · have g1 := g rfl p.1 p.2.1.1 p.2.1.2 nx' p.2.2.1.1 Ms' p.2.2.2.1 (K.xa w m') K.2.2.2.2.1
        have x9 := (g1.2 x rfl hx1 (by omega)).2
        exact x9
      · have y := (G2 rfl p.1 p.2.2.1.1 p.2.1.1 p.2.1.2 p.2.2.2.1 (R1.J w) w.1 (R1.Ev w)).2 x rfl hx1 (by omega)
        exact ⟨y.2, y.1⟩
    · cases q
  · obtain ⟨rfl, rfl⟩ := g0.1 hv
    rcases alts with ⟨v, q, r1, r2⟩ | ⟨q, r1, r2⟩
    · cases q
    · subst r2
      exact zq_err w K R rfl ((G2 rfl p.1 p.2.2.1.1 p.2.1.1 p.2.1.2 p.2.2.2.1 (R.J w) w.1 (R.Ev w)).1 hv).2 r1 (by decide)
section ZPB
variable {σ σ1 σ2 τ υ : zSg} {p : zPt} {A B : Nat → Int32} {k b v : Int32}
theorem hH.f11 {b : Nat} (K : hH σ b A) (h2 : τ.2 = σ.2) (g : ∀ c j, b ≤ c → c ≤ b + 11 → τ.1 c j = σ.1 c j) : hH τ b A := by
  obtain ⟨h1, h2', ⟨l, h3, h3'⟩, ⟨nx, h4, h4', h4''⟩, h5, h6, h7⟩ := K
  refine ⟨fun c j d hk => ?_, fun k c j hp => ?_, ⟨l, ?_, h3'⟩, ⟨nx, h4, ?_, fun i j hi hj => ?_⟩, ?_, by rw [h2]; exact h6, by rw [h2]; exact h7⟩
  · rw [g c j (by unfold hKr at hk; omega) (by unfold hKr at hk; omega)]; exact h1 c j d hk
  · rw [g c j (by unfold hPr at hp; omega) (by unfold hPr at hp; omega)]; exact h2' k c j hp
  · rw [g _ _ (by omega) (by omega)]; exact h3
  · rw [g _ _ (by omega) (by omega)]; exact h4'
  · rw [g _ _ (by omega) (by omega)]; exact h4'' i j hi hj
  · unfold hWe
    rw [g b 5 (by omega) (by omega)]
    exact h5
/-- the draft, and what the house that is now asks its law about, may change -/
theorem zC.fr2 (K : zC σ p) (h2 : τ.2 = σ.2) (h : ∀ c k, zCc c → c ≠ 20 → ¬ (21 ≤ c ∧ c ≤ 33) → τ.1 c k = σ.1 c k) (hD : ∃ D, hH τ 21 D) : zC τ p := by
  obtain ⟨k1, k2, -, ⟨nx, Ms, ⟨m1, m2, m3, m4, m5, m6, m7⟩, k4⟩, k5, k6, k7, k8, k9, k10⟩ := K
  have hl : ∀ c k, 219 ≤ c → c % 6 ≠ 5 → τ.1 c k = σ.1 c k := fun c k q1 q2 => h c k (Or.inr (Or.inr ⟨q1, q2⟩)) (by omega) (by omega)
  have hi : ∀ c k, 34 ≤ c → c < 205 → τ.1 c k = σ.1 c k := fun c k q1 q2 => h c k (Or.inr (Or.inl ⟨by omega, q2⟩)) (by omega) (by omega)
  have h8 : ∀ c k, 8 ≤ c → c ≤ 19 → τ.1 c k = σ.1 c k := fun c k q1 q2 => h c k (Or.inr (Or.inl ⟨q1, by omega⟩)) (by omega) (by omega)
  have h0 : ∀ k, τ.1 0 k = σ.1 0 k := fun k => h 0 k (Or.inl rfl) (by omega) (by omega)
  have hB : ∀ {Lo : zLaw}, wB σ Lo → wB τ Lo := fun w => w.of (by rw [h2]; exact Nat.le_refl _)
  refine ⟨k1.of (fun k _ => h0 k), k2.f11 h2 (fun c j q1 q2 => h8 c j (by omega) (by omega)), hD, ⟨nx, Ms, ⟨(hi _ _ (by omega) (by omega)).trans m1, fun i hi9 => (hi _ _ (by omega) (by omega)).trans (m2 i hi9), (hi _ _ (by omega) (by omega)).trans m3, m4, (hi _ _ (by omega) (by omega)).trans m5, m6, fun i hi9 => (m7 i hi9).fr h2 (fun c j q1 q2 => hi c j (by omega) (by omega))⟩, fun i hi9 => ⟨(k4 i hi9).1, ?_⟩⟩, k5.of h2 (h8 _ _ (by omega) (by omega)) hl, hB k6, ?_, (h0 7).trans k8, by rw [h2]; exact k9, by rw [h2]; exact k10⟩
  · have : mJ nx p.2.2.1.1 i < 12 := Nat.mod_lt _ (by omega)
    rw [hi _ _ (by omega) (by omega), h8 8 5 (by omega) (by omega)]
    exact (k4 i hi9).2
  · unfold zCi at k7 ⊢
    split at k7
    · obtain ⟨q1, B, q2⟩ := k7
      exact ⟨(h0 6).trans q1, B, q2.fr h2 (fun c j q1 q2 => hi c j (by omega) (by omega))⟩
    · obtain ⟨q1, q2, q3, q4⟩ := k7
      exact ⟨(h0 6).trans q1, q2.fr h2 (fun c j q1 q2 => hi c j (by omega) (by omega)), q3.of h2 (hi _ _ (by omega) (by omega)) hl, hB q4⟩
theorem zC.lk (K : zC σ p) (f : eFr 8 σ τ) : zC τ p := by
  obtain ⟨D, hD⟩ := K.2.2.1
  exact K.fr2 f.1 (fun c k q1 q2 q3 => f.2 c k q2 (by unfold zCc at q1; omega)) ⟨D, hD.fr f.1 (fun c j q1 q2 => f.2 c j (by omega) (by omega))⟩
theorem zC.dr (K : zC σ p) {Lo : zLaw} (D : xDa σ τ A B Lo) : zC τ p := K.fr2 D.1.1 (fun c k q1 q2 q3 => D.1.2 c k q3 (by unfold zCc at q1; omega)) ⟨B, D.2.1⟩
theorem zRv.dr (K : zRv σ p) {Lo : zLaw} (D : xDa σ τ A B Lo) {v : Value} : zRv (q_w τ 218 0 v) p := K.cls (fun c k h1 h2 => by
  rw [q_w_ne (fun e _ => by omega)]
  exact D.1.2 c k (by omega) (by omega))
theorem zq_see (w : zPw p) (K : zC σ1 p) (R : zRv σ1 p) (X : rKF σ1 σ2) : zHld σ2 := ⟨p, w, K.fr X.1 (fun c k q => X.2.1 c k (by unfold zCc at q; omega) (by unfold zCc at q; omega) (by unfold zCc at q; omega)), R.fr (fun c k q => X.2.1 c k (by unfold zRc at q; omega) (by unfold zRc at q; omega) (by unfold zRc at q; omega))⟩
theorem zq_sa (w : zPw p) (K : zC σ p) (R : zRv σ p) {Lo : zLaw} (D : xDa σ τ A B Lo) (e1 : σ1 = q_w τ 218 0 (.long v.toInt64)) (ek : k = Int32.ofInt 0) (X : zRv σ1 p → rKF σ1 σ2 ∧ b = v) : zHld σ2 ∧ zLik σ2 k b := by
  have R1 : zRv σ1 p := by rw [e1]; exact R.dr D
  obtain ⟨X, eb⟩ := X R1
  refine ⟨zq_see w (by rw [e1]; exact (K.dr D).out) R1 X, _, X.2.2, by rw [ek], fun _ => ?_⟩
  rw [X.2.1 _ _ (by omega) (by omega) (by omega), e1, eb]
  exact q_w_at _ _ _ _
end ZPB
theorem zq_33 {σ σ1 σ2 : zSg} {p : zPt} {a1 a2 k b : Int32} (w : zPw p) (K : zC σ p) (R : zRv σ p) (G1 : p_335 0 a1 a2 218 σ k σ1) (G2 : p_270 205 a1 a2 σ1 b σ2) : zHld σ2 ∧ zLik σ2 k b := by
  obtain ⟨e, τ, g, alts⟩ := G1
  have g0 := g rfl p.1 p.2.1.1 p.2.1.2 p.2.2.2.1 (K.Dp w)
  have k6 := w.1.1.2.1
  by_cases hv : 0 ≤ a1.toInt ∧ a1.toInt ≤ 200
  · by_cases hw : 0 ≤ a2.toInt ∧ a2.toInt ≤ 2
    · obtain ⟨ex, lx⟩ := i_of (a := a1) (n := 201) (by omega) (by omega)
      generalize a1.toInt.toNat = x at ex lx
      subst ex
      obtain ⟨D, d0, d1, d2⟩ := g0.2.2 x rfl (by omega) hw
      have hc : a2.toInt = 0 ∨ a2.toInt = 1 ∨ a2.toInt = 2 := by omega
      rcases hc with hc | hc | hc
      · obtain rfl := d0 hc
        rcases alts with ⟨v, q, r1, r2⟩ | ⟨q, r1, r2⟩ | ⟨q, r1, r2⟩
        · subst r1
          cases q
          refine zq_sa w K R D r2 rfl (fun R1 => ?_)
          exact (fun y => ⟨y.1, y.2.1 hc⟩) ((G2 rfl p.1 p.2.1.1 p.2.1.2 p.2.2.2.1 (R1.Dp w)).2.2 x rfl (by omega) hw)
        · cases q
        · cases q
      · obtain rfl := d1 hc
        rcases alts with ⟨v, q, r1, r2⟩ | ⟨q, r1, r2⟩ | ⟨q, r1, r2⟩
        · subst r1
          cases q
          refine zq_sa w K R D r2 rfl (fun R1 => ?_)
          exact (fun y => ⟨y.1, y.2.2.1 hc⟩) ((G2 rfl p.1 p.2.1.1 p.2.1.2 p.2.2.2.1 (R1.Dp w)).2.2 x rfl (by omega) hw)
        · cases q
        · cases q
      · obtain rfl := d2 hc
        rcases alts with ⟨v, q, r1, r2⟩ | ⟨q, r1, r2⟩ | ⟨q, r1, r2⟩
        · subst r1
          cases q
          refine zq_sa w K R D r2 rfl (fun R1 => ?_)
          exact (fun y => ⟨y.1, y.2.2.2 hc⟩) ((G2 rfl p.1 p.2.1.1 p.2.1.2 p.2.2.2.1 (R1.Dp w)).2.2 x rfl (by omega) hw)
        · cases q
        · cases q
    · obtain ⟨rfl, rfl⟩ := g0.2.1 hv hw
      rcases alts with ⟨v, q, r1, r2⟩ | ⟨q, r1, r2⟩ | ⟨q, r1, r2⟩
      · cases q
      · cases q
      · subst r2
        exact zq_err w K R rfl ((G2 rfl p.1 p.2.1.1 p.2.1.2 p.2.2.2.1 (R.Dp w)).2.1 hv hw).2 r1 (by decide)
  · obtain ⟨rfl, rfl⟩ := g0.1 hv
    rcases alts with ⟨v, q, r1, r2⟩ | ⟨q, r1, r2⟩ | ⟨q, r1, r2⟩
    · cases q
    · subst r2
      exact zq_err w K R rfl ((G2 rfl p.1 p.2.1.1 p.2.1.2 p.2.2.2.1 (R.Dp w)).1 hv).2 r1 (by decide)
    · cases q
theorem zq_34 {σ σ1 σ2 : zSg} {p : zPt} {a1 k b : Int32} (w : zPw p) (K : zC σ p) (R : zRv σ p) (G1 : p_336 0 a1 218 σ k σ1) (G2 : p_271 205 a1 σ1 b σ2) : zHld σ2 ∧ zLik σ2 k b := by
  obtain ⟨e, τ, g, alts⟩ := G1
  have g0 := g rfl p.1 p.2.1.1 p.2.1.2 p.2.2.2.1 (K.Dp w)
  have k6 := w.1.1.2.1
  by_cases hv : 1 ≤ a1.toInt ∧ a1.toInt ≤ 99
  · obtain ⟨⟨B, D⟩, r, rfl, hr⟩ := g0.2 hv
    rcases alts with ⟨v, q, r1, r2⟩ | ⟨q, r1, r2⟩
    · subst r1
      cases q
      refine zq_sa w K R D r2 rfl (fun R1 => ?_)
      exact (fun y => ⟨y.1, y.2.det hr⟩) ((G2 rfl p.1 p.2.1.1 p.2.1.2 p.2.2.2.1 (R1.Dp w)).2 hv)
    · cases q
  · obtain ⟨rfl, rfl⟩ := g0.1 hv
    rcases alts with ⟨v, q, r1, r2⟩ | ⟨q, r1, r2⟩
    · cases q
    · subst r2
      exact zq_err w K R rfl ((G2 rfl p.1 p.2.1.1 p.2.1.2 p.2.2.2.1 (R.Dp w)).1 hv).2 r1 (by decide)
theorem zq_35 {σ σ1 σ2 : zSg} {p : zPt} {a1 k b : Int32} (w : zPw p) (K : zC σ p) (R : zRv σ p) (G1 : p_337 0 a1 218 σ k σ1) (G2 : p_272 205 a1 σ1 b σ2) : zHld σ2 ∧ zLik σ2 k b := by
  obtain ⟨e, τ, g, alts⟩ := G1
  have g0 := g rfl p.1 p.2.1.1 p.2.1.2 p.2.2.2.1 (K.Dp w)
  have k6 := w.1.1.2.1
  by_cases hv : 1 ≤ a1.toInt ∧ a1.toInt ≤ 200
  · obtain ⟨ex, lx⟩ := i_of (a := a1) (n := 201) (by omega) (by omega)
    have hx1 : 1 ≤ a1.toInt.toNat := by omega
    generalize a1.toInt.toNat = x at ex lx hx1
    subst ex
    obtain ⟨⟨B, D⟩, rfl⟩ := g0.2 x rfl hx1 (by omega)
    rcases alts with ⟨v, q, r1, r2⟩ | ⟨q, r1, r2⟩
    · subst r1
      cases q
      refine zq_sa w K R D r2 rfl (fun R1 => ?_)
      exact (G2 rfl p.1 p.2.1.1 p.2.1.2 p.2.2.2.1 (R1.Dp w) w.2.1).2 x rfl hx1 (by omega)
    · cases q
  · obtain ⟨rfl, rfl⟩ := g0.1 hv
    rcases alts with ⟨v, q, r1, r2⟩ | ⟨q, r1, r2⟩
    · cases q
    · subst r2
      exact zq_err w K R rfl ((G2 rfl p.1 p.2.1.1 p.2.1.2 p.2.2.2.1 (R.Dp w) w.2.1).1 hv).2 r1 (by decide)
theorem zq_36 {σ σ1 σ2 : zSg} {p : zPt} {a1 k b : Int32} (w : zPw p) (K : zC σ p) (R : zRv σ p) (G1 : p_338 0 a1 218 σ k σ1) (G2 : p_273 205 a1 σ1 b σ2) : zHld σ2 ∧ zLik σ2 k b := by
  obtain ⟨e, τ, g, alts⟩ := G1
  have g0 := g rfl p.1 p.2.1.1 p.2.1.2 p.2.2.2.1 (K.Dp w)
  have k6 := w.1.1.2.1
  by_cases hv : 0 ≤ a1.toInt ∧ a1.toInt < (p.2.1.1 : Int)
  · obtain ⟨ex, lx⟩ := i_of hv (by omega)
    obtain ⟨⟨B, D⟩, r, rfl, hr⟩ := g0.2 _ ex lx
    have hP : ∀ (f : Nat → Nat → Int32) (i : Nat), (∀ F, a1 = Int32.ofNat F → F < p.2.1.1 → f i (40 + 4 * F) = Int32.ofInt 0) ↔ f i (40 + 4 * a1.toInt.toNat) = Int32.ofInt 0 := fun f i => ⟨fun h => h _ ex lx, fun h F eF hF => by
      have : F = a1.toInt.toNat := by rw [eF, o32 (by omega)]; omega
      rw [this]; exact h⟩
    rcases alts with ⟨v, q, r1, r2⟩ | ⟨q, r1, r2⟩
    · subst r1
      cases q
      refine zq_sa w K R D r2 rfl (fun R1 => ?_)
      exact (fun y => ⟨y.1, aFst.det (P := fun i => (hHs p.2.2.2.1 p.2.1.2 true p.1 i).1 (40 + 4 * a1.toInt.toNat) = Int32.ofInt 0) (by have := y.2; rw [show (fun i => (∀ F, a1 = Int32.ofNat F → F < p.2.1.1 → (hHs p.2.2.2.1 p.2.1.2 true p.1 i).1 (40 + 4 * F) = Int32.ofInt 0)) = (fun i => (hHs p.2.2.2.1 p.2.1.2 true p.1 i).1 (40 + 4 * a1.toInt.toNat) = Int32.ofInt 0) from funext fun i => propext (hP (fun i => (hHs p.2.2.2.1 p.2.1.2 true p.1 i).1) i)] at this; exact this) hr⟩) ((G2 rfl p.1 p.2.1.1 p.2.1.2 p.2.2.2.1 (R1.Dp w)).2 hv)
    · cases q
  · obtain ⟨rfl, rfl⟩ := g0.1 hv
    rcases alts with ⟨v, q, r1, r2⟩ | ⟨q, r1, r2⟩
    · cases q
    · subst r2
      exact zq_err w K R rfl ((G2 rfl p.1 p.2.1.1 p.2.1.2 p.2.2.2.1 (R.Dp w)).1 hv).2 r1 (by decide)
theorem zc_7 {σ σ1 σ2 : zSg} {p : zPt} {a1 a2 a3 k : Int32} (w : zPw p) (K : zC σ p) (R : zRv σ p) (G1 : p_319 0 a1 a2 a3 218 σ k σ1) : zC σ1 p ∧ zRv σ1 p := by
  obtain ⟨e, τ, g, alts⟩ := G1
  have g0 := g rfl p.1 p.2.1.1 p.2.1.2 p.2.2.2.1 K.1 K.2.1 w.1 K.2.2.2.2.1
  have k6 := w.1.1.2.1
  have k8 := w.1.1.2.2.2.1
  have f : eFr 8 σ τ := by
    by_cases hv : (0 ≤ a1.toInt ∧ a1.toInt < (p.2.1.1 : Int)) ∧ (0 ≤ a2.toInt ∧ a2.toInt < 24)
    case neg =>
      obtain ⟨-, rfl⟩ := g0.1 hv
      exact eFr.rf
    obtain ⟨ex, lx⟩ := i_of hv.1 (by omega)
    obtain ⟨ey, ly⟩ := i_of (n := 24) hv.2 (by omega)
    by_cases hw : 0 ≤ a3.toInt ∧ a3.toInt ≤ 1
    · exact ((g0.2 _ _ ex lx ey ly).2 hw).1
    · obtain ⟨-, rfl⟩ := (g0.2 _ _ ex lx ey ly).1 hw
      exact eFr.rf
  have both : zC τ p ∧ ∀ c k, 205 ≤ c → c ≤ 217 → τ.1 c k = σ.1 c k := ⟨K.lk f, fun c k h1 h2 => f.2 c k (by omega) (by omega)⟩
  rcases alts with ⟨v, q, r1, r2⟩ | ⟨q, r1, r2⟩ | ⟨q, r1, r2⟩
  · subst r2
    exact ⟨both.1.out, R.cls (fun c k h1 h2 => by rw [q_w_ne (fun e _ => by omega)]; exact both.2 c k h1 h2)⟩
  · subst r2
    exact ⟨both.1, R.cls both.2⟩
  · subst r2
    exact ⟨both.1, R.cls both.2⟩
theorem zc_8 {σ σ1 σ2 : zSg} {p : zPt} {a1 a2 k : Int32} (w : zPw p) (K : zC σ p) (R : zRv σ p) (G1 : p_320 0 a1 a2 218 σ k σ1) : zC σ1 p ∧ zRv σ1 p := by
  obtain ⟨e, τ, g, alts⟩ := G1
  have g0 := g rfl p.1 p.2.1.1 p.2.1.2 p.2.2.2.1 K.1 K.2.1 w.1 K.2.2.2.2.1
  have k6 := w.1.1.2.1
  have k8 := w.1.1.2.2.2.1
  have f : eFr 8 σ τ := by
    by_cases hv : 0 ≤ a1.toInt ∧ a1.toInt < (p.2.1.2 : Int)
    case neg =>
      obtain ⟨-, rfl⟩ := g0.1 hv
      exact eFr.rf
    obtain ⟨ex, lx⟩ := i_of hv (by omega)
    by_cases hw : 0 ≤ a2.toInt ∧ a2.toInt ≤ 3
    · exact ((g0.2 _ ex lx).2 hw).1
    · obtain ⟨-, rfl⟩ := (g0.2 _ ex lx).1 hw
      exact eFr.rf
  have both : zC τ p ∧ ∀ c k, 205 ≤ c → c ≤ 217 → τ.1 c k = σ.1 c k := ⟨K.lk f, fun c k h1 h2 => f.2 c k (by omega) (by omega)⟩
  rcases alts with ⟨v, q, r1, r2⟩ | ⟨q, r1, r2⟩ | ⟨q, r1, r2⟩
  · subst r2
    exact ⟨both.1.out, R.cls (fun c k h1 h2 => by rw [q_w_ne (fun e _ => by omega)]; exact both.2 c k h1 h2)⟩
  · subst r2
    exact ⟨both.1, R.cls both.2⟩
  · subst r2
    exact ⟨both.1, R.cls both.2⟩
end
section
/-! seed, undo, image, back, deed, law: pairs of calls keep the whole relation -/
section ZPC
variable {σ σ1 σ2 τ υ : zSg} {p : zPt} {A B : Nat → Int32} {k b v : Int32}
theorem zCi.of {im : Option ((Nat → Int32) × zLaw)} (K : zCi σ im) (h2 : τ.2 = σ.2) (h6 : τ.1 0 6 = σ.1 0 6) (h : ∀ c k, 34 ≤ c → c ≤ 46 → τ.1 c k = σ.1 c k) (hl : ∀ c k, 219 ≤ c → c % 6 ≠ 5 → τ.1 c k = σ.1 c k) : zCi τ im := by
  unfold zCi at K ⊢
  split at K
  · obtain ⟨q1, B, q2⟩ := K
    exact ⟨h6.trans q1, B, q2.fr h2 (fun c j q1 q2 => h c j (by omega) (by omega))⟩
  · obtain ⟨q1, q2, q3, q4⟩ := K
    exact ⟨h6.trans q1, q2.fr h2 (fun c j q1 q2 => h c j (by omega) (by omega)), q3.of h2 (h _ _ (by omega) (by omega)) hl, q4.of (by rw [h2]; exact Nat.le_refl _)⟩
theorem zCi.e34 {im : Option ((Nat → Int32) × zLaw)} (K : zCi σ im) : ∃ B, hH σ 34 B := by
  unfold zCi at K
  split at K
  · exact K.2
  · exact ⟨_, K.2.1⟩
theorem zRim.of {im : Option ((Nat → Int32) × zLaw)} (K : zRim σ im) (h6 : τ.1 205 6 = σ.1 205 6) (h7 : ∀ k, k < 1237 → τ.1 207 k = σ.1 207 k) : zRim τ im := by
  unfold zRim at K ⊢
  split at K
  · exact h6.trans K
  · obtain ⟨q1, q2, q3⟩ := K
    exact ⟨h6.trans q1, fun k hk => (h7 k (by omega)).trans (q2 k hk), q3.of (fun k _ q => h7 k q) rfl⟩
theorem hW.e5 {Lo : zLaw} {x y : Nat} (K : hW σ x Lo) (h2 : τ.2 = σ.2) (h5 : τ.1 y 5 = σ.1 x 5) (hl : ∀ c k, 219 ≤ c → c % 6 ≠ 5 → τ.1 c k = σ.1 c k) : hW τ y Lo := by
  unfold hW at K ⊢
  match Lo, K with
  | none, K => exact h5.trans K
  | some (L, ls, l), ⟨k1, k2, k3, k4, k5, k6⟩ => exact ⟨h5.trans k1, k2, k3, k4.fr h2 (fun c k q1 q2 q3 => hl c k (by omega) (by omega)), by rw [h2]; exact k5, k6⟩
/-- the house that is now changes, no more -/
theorem zq_43 {a1 : Int32} (w : zPw p) (K : zC σ p) (R : zRv σ p) (G1 : p_161 0 a1 σ k σ1) (G2 : p_309 205 a1 σ1 b σ2) : zHld σ2 ∧ k = b := by
  obtain ⟨ek, e1⟩ := G1 rfl K.1
  have w15 : q_i (σ.1 8 17) = p.1 15 := K.2.1.p hp_15
  subst e1
  have R1 : zRv (q_w σ 8 17 (.int a1)) p := R.cls (fun c k h1 h2 => q_w_ne (fun e _ => by omega))
  obtain ⟨eb, e2⟩ := G2 rfl p.1 R1.2.2.1
  subst e2
  refine ⟨⟨(aU p.1 15 a1, p.2), ?_, ?_, ?_⟩, by rw [ek, eb, w15]⟩
  · obtain ⟨w1, w2, w3, w4, w5⟩ := w
    exact ⟨w1.pl (by omega) (by omega) (by omega) (by omega), by show 0 ≤ (aU p.1 15 a1 6).toInt; rw [aU_ne (by omega)]; exact w2, w3, fun i hi => ⟨(w4 i hi).1, (w4 i hi).2.1, (w4 i hi).2.2.trans (aU_ne (v := a1) (i := 3) (k := 15) (by omega)).symm⟩, w5⟩
  · have K1 : zC (q_w σ 8 17 (.int a1)) (aU p.1 15 a1, p.2) := by
      obtain ⟨k1, k2, ⟨D, k3⟩, ⟨nx, Ms, m, k4⟩, k5, k6, k7, k8, k9, k10⟩ := K
      have f : ∀ c q, ¬ (c = 8 ∧ q = 17) → (q_w σ 8 17 (.int a1)).1 c q = σ.1 c q := fun c q h => q_w_ne (fun e1 e2 => h ⟨e1, e2⟩)
      refine ⟨k1.of (fun k _ => f _ _ (by omega)), k2.ww hp_15, ⟨D, k3.fr rfl (fun c j q1 q2 => f c j (by omega))⟩, ⟨nx, Ms, m.fe rfl (fun c j q1 q2 => f c j (by omega)), fun i hi => ⟨(k4 i hi).1, ?_⟩⟩, k5.of rfl (f _ _ (by omega)) (fun c k q1 q2 => f c k (by omega)), k6, k7.of rfl (f _ _ (by omega)) (fun c k q1 q2 => f c k (by omega)) (fun c k q1 q2 => f c k (by omega)), (f _ _ (by omega)).trans k8, k9, k10⟩
      rw [f _ _ (by omega), f _ _ (by omega)]
      exact (k4 i hi).2
    refine K1.ref rfl (fun c k q => ?_)
    rw [q_w_ne (fun e _ => by omega)]
    exact q_w_ne (fun e _ => by omega)
  · have f : ∀ c q, ¬ (c = 206 ∧ q = 15) → ¬ (c = 205 ∧ q = 0) → (q_w (r0 (q_w σ 8 17 (.int a1))) 206 15 (.int a1)).1 c q = (q_w σ 8 17 (.int a1)).1 c q := fun c q h1 h2 => (q_w_ne (fun e1 e2 => h1 ⟨e1, e2⟩)).trans (q_w_ne (fun e1 e2 => h2 ⟨e1, e2⟩))
    obtain ⟨⟨s1, s2, s3, s4, s5⟩, r2, r3, r4, r5, r6, r7, r8⟩ := R1
    have w0 : rW (r0 (q_w σ 8 17 (.int a1))) p.1 := r3.el (by omega)
    refine ⟨⟨(f _ _ (by omega) (by omega)).trans s1, (f _ _ (by omega) (by omega)).trans s2, (f _ _ (by omega) (by omega)).trans s3, (f _ _ (by omega) (by omega)).trans s4, (f _ _ (by omega) (by omega)).trans s5⟩, (f _ _ (by omega) (by omega)).trans r2, w0.ww, r4.of (fun k _ _ => f _ _ (by omega) (by omega)) (aU_ne (v := a1) (i := 3) (k := 15) (by omega)), (f _ _ (by omega) (by omega)).trans r5, fun i hi k hk => (f _ _ (by omega) (by omega)).trans (r6 i hi k hk), r7.of (f _ _ (by omega) (by omega)) (fun k _ => f _ _ (by omega) (by omega)), (f _ _ (by omega) (by omega)).trans r8⟩
theorem zq_44 (w : zPw p) (K : zC σ p) (R : zRv σ p) (G1 : p_162 0 σ k σ1) (G2 : p_183 205 σ1 b σ2) : zHld σ2 ∧ k = b := by
  obtain ⟨k1, k2, ⟨D, k3⟩, ⟨nx, Ms, m, k4⟩, k5, k6, k7, k8, k9, k10⟩ := id K
  have g := G1 rfl k1 rfl rfl nx p.2.2.1.1 Ms p.1 m k2
  have w3 := w.2.2.1
  by_cases hn : p.2.2.1.1 = 0
  · obtain ⟨rfl, rfl⟩ := g.1 hn
    obtain ⟨rfl, rfl⟩ := (G2 rfl R.1 p.2.2.1.1 R.2.2.2.2.1 w3).1 hn
    exact ⟨⟨p, w, K.ref rfl (fun c k q => q_w_ne (fun e _ => by omega)), R.thr (c := 0)⟩, rfl⟩
  · obtain ⟨rfl, f, m', h', e85⟩ := g.2 hn
    have R1 : zRv σ1 p := R.cls (fun c k h1 h2 => f.2 c k (by omega) (by omega))
    obtain ⟨rfl, e2⟩ := (G2 rfl R1.1 p.2.2.1.1 R1.2.2.2.2.1 w3).2 hn
    have hx := m.2.2.2.1
    have j1 : mJ nx p.2.2.1.1 (p.2.2.1.1 - 1) = (nx + 11) % 12 := by unfold mJ; omega
    have l1 := (k4 (p.2.2.1.1 - 1) (by omega))
    rw [j1] at l1
    have e85' : σ1.1 8 5 = σ.1 8 5 := e85.trans l1.2
    have hl : ∀ c k, 219 ≤ c → c % 6 ≠ 5 → σ1.1 c k = σ.1 c k := fun c k q1 q2 => f.2 c k (by omega) (by omega)
    have wl := w.2.2.2.1 (p.2.2.1.1 - 1) (by omega)
    refine ⟨⟨(p.2.2.1.2 (p.2.2.1.1 - 1), p.2.1, (p.2.2.1.1 - 1, p.2.2.1.2), p.2.2.2), ⟨wl.1, wl.2.1, (by show p.2.2.1.1 - 1 ≤ 12; omega), fun i hi => ?_, w.2.2.2.2⟩, ?_, ?_⟩, rfl⟩
    · have hi : i < p.2.2.1.1 - 1 := hi
      have q := w.2.2.2.1 i (by omega)
      exact ⟨q.1, q.2.1, q.2.2.trans wl.2.2.symm⟩
    · have K1 : zC σ1 (p.2.2.1.2 (p.2.2.1.1 - 1), p.2.1, (p.2.2.1.1 - 1, p.2.2.1.2), p.2.2.2) := by
        refine ⟨k1.of (fun k _ => f.2 _ _ (by omega) (by omega)), (by rw [← l1.1]; exact h'), ⟨D, k3.fr f.1 (fun c j q1 q2 => f.2 c j (by omega) (by omega))⟩, ⟨(nx + 11) % 12, Ms, m', fun i hi => ?_⟩, k5.of f.1 e85' hl, k6.of (by rw [f.1]; exact Nat.le_refl _), k7.of f.1 (f.2 _ _ (by omega) (by omega)) (fun c k q1 q2 => f.2 c k (by omega) (by omega)) hl, (f.2 _ _ (by omega) (by omega)).trans k8, by rw [f.1]; exact k9, by rw [f.1]; exact k10⟩
        have hi : i < p.2.2.1.1 - 1 := hi
        have ej : mJ ((nx + 11) % 12) (p.2.2.1.1 - 1) i = mJ nx p.2.2.1.1 i := by unfold mJ; omega
        show Ms (mJ ((nx + 11) % 12) (p.2.2.1.1 - 1) i) = p.2.2.1.2 i ∧ σ1.1 (49 + 13 * mJ ((nx + 11) % 12) (p.2.2.1.1 - 1) i) 5 = σ1.1 8 5
        rw [ej, e85', f.2 _ _ (by omega) (by omega)]
        exact k4 i (by omega)
      refine K1.ref (by rw [e2]; rfl) (fun c k q => ?_)
      rw [e2, rCy_ne (fun e => by omega), q_w_ne (fun e _ => by omega)]
      exact q_w_ne (fun e _ => by omega)
    · obtain ⟨⟨s1, s2, s3, s4, s5⟩, r2, r3, r4, r5, r6, r7, r8⟩ := R1
      have fr : ∀ c q, ¬ (c = 206 ∧ q < 388) → ¬ (c = 205 ∧ (q = 0 ∨ q = 7)) → σ2.1 c q = σ1.1 c q := fun c q h1 h2 => by
        rw [e2, rCy_ne (fun e => h1 ⟨e.1, by omega⟩), q_w_ne (fun e1 e2 => h2 ⟨e1, Or.inr e2⟩)]
        exact q_w_ne (fun e1 e2 => h2 ⟨e1, Or.inl e2⟩)
      refine ⟨⟨(fr _ _ (by omega) (by omega)).trans s1, (fr _ _ (by omega) (by omega)).trans s2, (fr _ _ (by omega) (by omega)).trans s3, (fr _ _ (by omega) (by omega)).trans s4, (fr _ _ (by omega) (by omega)).trans s5⟩, (fr _ _ (by omega) (by omega)).trans r2, ⟨(fr _ _ (by omega) (by omega)).trans s1, fun k hk => ?_⟩, r4.of (fun k _ _ => fr _ _ (by omega) (by omega)) wl.2.2, ?_, fun i hi k hk => ?_, r7.of (fr _ _ (by omega) (by omega)) (fun k _ => fr _ _ (by omega) (by omega)), (fr _ _ (by omega) (by omega)).trans r8⟩
      · rw [e2]
        show (if 206 = 206 ∧ 0 ≤ k ∧ k < 0 + 388 then Value.int (q_i ((q_w (q_w σ1 205 0 (.int (Int32.ofInt 0))) 205 7 (.int (Int32.ofNat (p.2.2.1.1 - 1)))).1 210 (388 * (p.2.2.1.1 - 1) + (k - 0)))) else _) = _
        rw [if_pos ⟨rfl, by omega, by omega⟩, q_w_ne (fun e _ => by omega), q_w_ne (fun e _ => by omega), Nat.sub_zero, r6 _ (by omega) k hk]
        rfl
      · rw [e2, rCy_ne (fun e => by omega)]
        exact q_w_at _ _ _ _
      · have hi : i < p.2.2.1.1 - 1 := hi
        exact (fr _ _ (by omega) (by omega)).trans (r6 i (by omega) k hk)
theorem rTx.cp {W V : Nat} {Lo : zLaw} (K : rTx σ W A Lo) (h : ∀ k, 388 ≤ k → k < 1237 → τ.1 V k = .int (q_i (σ.1 W k))) : rTx τ V A Lo := by
  unfold rTx at K ⊢
  match Lo, K with
  | none, K => exact K
  | some (L, ls, l), ⟨k1, ⟨a, b, c⟩, k3⟩ =>
    have hv : ∀ k x, 388 ≤ k → k < 1237 → σ.1 W k = .int x → τ.1 V k = .int x := fun k x h1 h2 e => by rw [h k h1 h2, e]; rfl
    refine ⟨k1, ⟨hv _ _ (by omega) (by omega) a, fun i x hx => ?_, fun i x hx => ?_⟩, k3⟩
    · have hi := (List.getElem?_eq_some_iff.mp hx).1
      have g1 := k3.1
      obtain ⟨b1, b2, b3, b4⟩ := b i x hx
      exact ⟨hv _ _ (by omega) (by omega) b1, hv _ _ (by omega) (by omega) b2, hv _ _ (by omega) (by omega) b3, hv _ _ (by omega) (by omega) b4⟩
    · have hi := (List.getElem?_eq_some_iff.mp hx).1
      have g1 := k3.2.1
      obtain ⟨c1, c2⟩ := c i x hx
      exact ⟨hv _ _ (by omega) (by omega) c1, hv _ _ (by omega) (by omega) c2⟩
theorem zq_45 (w : zPw p) (K : zC σ p) (R : zRv σ p) (G1 : p_163 0 σ σ1) (G2 : p_180 205 σ1 σ2) : zHld σ2 := by
  obtain ⟨k1, k2, ⟨D, k3⟩, ⟨nx, Ms, m, k4⟩, k5, k6, k7, k8, k9, k10⟩ := id K
  obtain ⟨B, hB⟩ := k7.e34
  obtain ⟨f, g2, g3, g4⟩ := G1 rfl k1 p.1 B k2 hB
  have R1 : zRv σ1 p := R.cls (fun c k h1 h2 => f.2 c k (by omega) (by omega))
  have e2 := G2 rfl R1.1
  have hl : ∀ c k, 219 ≤ c → c % 6 ≠ 5 → σ1.1 c k = σ.1 c k := fun c k q1 q2 => f.2 c k (by omega) (by omega)
  refine ⟨(p.1, p.2.1, p.2.2.1, p.2.2.2.1, some (p.1, p.2.2.2.1), p.2.2.2.2.2), ⟨w.1, w.2.1, w.2.2.1, w.2.2.2.1, ⟨⟨_, _, w.1⟩, w.2.1⟩⟩, ?_, ?_⟩
  · have K1 : zC σ1 (p.1, p.2.1, p.2.2.1, p.2.2.2.1, some (p.1, p.2.2.2.1), p.2.2.2.2.2) := by
      refine ⟨k1.of (fun k _ => f.2 _ _ (by omega) (by omega)), k2.fr f.1 (fun c j q1 q2 => f.2 c j (by omega) (by omega)), ⟨D, k3.fr f.1 (fun c j q1 q2 => f.2 c j (by omega) (by omega))⟩, ⟨nx, Ms, m.fe f.1 (fun c j q1 q2 => f.2 c j (by omega) (by omega)), fun i hi => ⟨(k4 i hi).1, ?_⟩⟩, k5.of f.1 (f.2 _ _ (by omega) (by omega)) hl, k6.of (by rw [f.1]; exact Nat.le_refl _), ⟨g4, g2, k5.e5 f.1 g3 hl, k6.of (by rw [f.1]; exact Nat.le_refl _)⟩, (f.2 _ _ (by omega) (by omega)).trans k8, by rw [f.1]; exact k9, by rw [f.1]; exact k10⟩
      rw [f.2 _ _ (by omega) (by omega), f.2 _ _ (by omega) (by omega)]
      exact (k4 i hi).2
    refine K1.ref (by rw [e2]; rfl) (fun c k q => ?_)
    rw [e2, q_w_ne (fun e _ => by omega), rCy_ne (fun e => by omega)]
    exact q_w_ne (fun e _ => by omega)
  · obtain ⟨⟨s1, s2, s3, s4, s5⟩, r2, r3, r4, r5, r6, r7, r8⟩ := R1
    have fr : ∀ c q, ¬ (c = 207 ∧ q < 1237) → ¬ (c = 205 ∧ (q = 0 ∨ q = 6)) → σ2.1 c q = σ1.1 c q := fun c q h1 h2 => by
      rw [e2, q_w_ne (fun e1 e2 => h2 ⟨e1, Or.inr e2⟩), rCy_ne (fun e => h1 ⟨e.1, by omega⟩)]
      exact q_w_ne (fun e1 e2 => h2 ⟨e1, Or.inl e2⟩)
    have c7 : ∀ k, k < 1237 → σ2.1 207 k = .int (q_i (σ1.1 206 k)) := fun k hk => by
      rw [e2, q_w_ne (fun e _ => by omega)]
      show (if 207 = 207 ∧ 0 ≤ k ∧ k < 0 + 1237 then Value.int (q_i ((q_w σ1 205 0 (.int (Int32.ofInt 0))).1 206 (0 + (k - 0)))) else _) = _
      rw [if_pos ⟨rfl, by omega, by omega⟩, q_w_ne (fun e _ => by omega), Nat.sub_zero, Nat.zero_add]
    refine ⟨⟨(fr _ _ (by omega) (by omega)).trans s1, (fr _ _ (by omega) (by omega)).trans s2, (fr _ _ (by omega) (by omega)).trans s3, (fr _ _ (by omega) (by omega)).trans s4, (fr _ _ (by omega) (by omega)).trans s5⟩, (fr _ _ (by omega) (by omega)).trans r2, ⟨(fr _ _ (by omega) (by omega)).trans s1, fun k hk => (fr _ _ (by omega) (by omega)).trans (r3.2 k hk)⟩, r4.of (fun k _ _ => fr _ _ (by omega) (by omega)) rfl, (fr _ _ (by omega) (by omega)).trans r5, fun i hi k hk => (fr _ _ (by omega) (by omega)).trans (r6 i hi k hk), ⟨?_, fun k hk => ?_, r4.cp (fun k _ hk => c7 k hk)⟩, (fr _ _ (by omega) (by omega)).trans r8⟩
    · rw [e2]; exact q_w_at _ _ _ _
    · rw [c7 k (by omega), r3.2 k hk]; rfl
theorem zq_46 (w : zPw p) (K : zC σ p) (R : zRv σ p) (G1 : p_164 0 σ k σ1) (G2 : p_181 205 σ1 b σ2) : zHld σ2 ∧ k = b := by
  obtain ⟨k1, k2, ⟨D, k3⟩, ⟨nx, Ms, m, k4⟩, k5, k6, k7, k8, k9, k10⟩ := id K
  obtain ⟨B, hB⟩ := k7.e34
  have g := G1 rfl k1 p.1 B k2 hB
  obtain ⟨⟨s1, s2, s3, s4, s5⟩, r2, r3, r4, r5, r6, r7, r8⟩ := id R
  match him : p.2.2.2.2.1, k7, r7 with
  | none, k7, r7 =>
    have e0 : (q_i (σ.1 0 6)).toInt = 0 := by rw [k7.1]; rfl
    obtain ⟨rfl, rfl⟩ := g.1 e0
    have r7 : σ1.1 205 6 = .int (Int32.ofInt 0) := r7
    obtain ⟨rfl, rfl⟩ := (G2 rfl R.1).1 (by rw [r7]; rfl)
    exact ⟨⟨p, w, K.ref rfl (fun c k q => q_w_ne (fun e _ => by omega)), R.thr (c := 0)⟩, rfl⟩
  | some (I, Li), ⟨i1, i2, i3, i4⟩, ⟨j1, j2, j3⟩ =>
    have w5 := w.2.2.2.2
    rw [him] at w5
    obtain ⟨⟨nf', nt', w5⟩, w6⟩ := w5
    obtain ⟨g1, f, -, g3, g4⟩ := (G1 rfl k1 p.1 I k2 i2).2 (by rw [i1]; decide)
    have g2 := ((G1 rfl k1 p.1 I k2 i2).2 (by rw [i1]; decide)).2.2.1
    subst g1
    have R1 : zRv σ1 p := R.cls (fun c k h1 h2 => f.2 c k (by omega) (by omega))
    have e6 : (q_i (σ1.1 205 6)).toInt ≠ 0 := by rw [f.2 _ _ (by omega) (by omega), j1]; decide
    obtain ⟨rfl, e2⟩ := (G2 rfl R1.1).2 e6
    have hl : ∀ c k, 219 ≤ c → c % 6 ≠ 5 → σ1.1 c k = σ.1 c k := fun c k q1 q2 => f.2 c k (by omega) (by omega)
    refine ⟨⟨(I, (nf', nt'), (0, p.2.2.1.2), Li, some (I, Li), p.2.2.2.2.2), ⟨w5, w6, Nat.zero_le _, fun i hi => absurd hi (Nat.not_lt_zero i), ⟨⟨_, _, w5⟩, w6⟩⟩, ?_, ?_⟩, rfl⟩
    · have K1 : zC σ1 (I, (nf', nt'), (0, p.2.2.1.2), Li, some (I, Li), p.2.2.2.2.2) := by
        obtain ⟨m1, m2, m3, m4, m5, m6, m7⟩ := m
        refine ⟨k1.of (fun k _ => f.2 _ _ (by omega) (by omega)), g2, ⟨D, k3.fr f.1 (fun c j q1 q2 => f.2 c j (by omega) (by omega))⟩, ⟨nx, Ms, ⟨(f.2 _ _ (by omega) (by omega)).trans m1, fun i hi => (f.2 _ _ (by omega) (by omega)).trans (m2 i hi), (f.2 _ _ (by omega) (by omega)).trans m3, m4, g4, Nat.zero_le _, fun i hi => (m7 i hi).fr f.1 (fun c j q1 q2 => f.2 c j (by omega) (by omega))⟩, fun i hi => absurd hi (Nat.not_lt_zero i)⟩, i3.e5 f.1 g3 hl, i4.of (by rw [f.1]; exact Nat.le_refl _), ⟨(f.2 _ _ (by omega) (by omega)).trans i1, i2.fr f.1 (fun c j q1 q2 => f.2 c j (by omega) (by omega)), i3.of f.1 (f.2 _ _ (by omega) (by omega)) hl, i4.of (by rw [f.1]; exact Nat.le_refl _)⟩, (f.2 _ _ (by omega) (by omega)).trans k8, by rw [f.1]; exact k9, by rw [f.1]; exact k10⟩
      refine K1.ref (by rw [e2]; rfl) (fun c k q => ?_)
      rw [e2, q_w_ne (fun e _ => by omega), rCy_ne (fun e => by omega)]
      exact q_w_ne (fun e _ => by omega)
    · have fr : ∀ c q, ¬ (c = 206 ∧ q < 1237) → ¬ (c = 205 ∧ (q = 0 ∨ q = 7)) → σ2.1 c q = σ1.1 c q := fun c q h1 h2 => by
        rw [e2, q_w_ne (fun e1 e2 => h2 ⟨e1, Or.inr e2⟩), rCy_ne (fun e => h1 ⟨e.1, by omega⟩)]
        exact q_w_ne (fun e1 e2 => h2 ⟨e1, Or.inl e2⟩)
      have u : ∀ c k, 205 ≤ c → c ≤ 217 → σ1.1 c k = σ.1 c k := fun c k h1 h2 => f.2 c k (by omega) (by omega)
      have c6 : ∀ k, k < 1237 → σ2.1 206 k = .int (q_i (σ1.1 207 k)) := fun k hk => by
        rw [e2, q_w_ne (fun e _ => by omega)]
        show (if 206 = 206 ∧ 0 ≤ k ∧ k < 0 + 1237 then Value.int (q_i ((q_w σ1 205 0 (.int (Int32.ofInt 0))).1 207 (0 + (k - 0)))) else _) = _
        rw [if_pos ⟨rfl, by omega, by omega⟩, q_w_ne (fun e _ => by omega), Nat.sub_zero, Nat.zero_add]
      refine ⟨⟨?_, ?_, ?_, ?_, ?_⟩, ?_, ⟨?_, fun k hk => ?_⟩, j3.cp (fun k _ hk => by rw [c6 k hk, u _ _ (by omega) (by omega)]), ?_, fun i hi => absurd hi (Nat.not_lt_zero i), ⟨?_, fun k hk => ?_, j3.of (fun k _ hk => by rw [fr _ _ (by omega) (by omega), u _ _ (by omega) (by omega)]) rfl⟩, ?_⟩
      · rw [fr _ _ (by omega) (by omega), u _ _ (by omega) (by omega)]; exact s1
      · rw [fr _ _ (by omega) (by omega), u _ _ (by omega) (by omega)]; exact s2
      · rw [fr _ _ (by omega) (by omega), u _ _ (by omega) (by omega)]; exact s3
      · rw [fr _ _ (by omega) (by omega), u _ _ (by omega) (by omega)]; exact s4
      · rw [fr _ _ (by omega) (by omega), u _ _ (by omega) (by omega)]; exact s5
      · rw [fr _ _ (by omega) (by omega), u _ _ (by omega) (by omega)]; exact r2
      · rw [fr _ _ (by omega) (by omega), u _ _ (by omega) (by omega)]; exact s1
      · rw [c6 k (by omega), u _ _ (by omega) (by omega), j2 k hk]; rfl
      · rw [e2]; exact q_w_at _ _ _ _
      · rw [fr _ _ (by omega) (by omega), u _ _ (by omega) (by omega)]; exact j1
      · rw [fr _ _ (by omega) (by omega), u _ _ (by omega) (by omega)]; exact j2 k hk
      · rw [fr _ _ (by omega) (by omega), u _ _ (by omega) (by omega)]; exact r8
end ZPC
end
