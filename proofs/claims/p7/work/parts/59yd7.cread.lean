/-! the class's readers of a deed, exact; printed with wip/gen/gen_d4.py -/
theorem qsi_11 : q_si (zB + 11) = wFamily := by decide +kernel
theorem zwk_11 : zwk (zB + 11) := by
  have h : (decide ((q_s (zB + 11)).length ≤ 100) && (List.range (q_s (zB + 11)).length).all (fun i => decide (97 ≤ (q_si (zB + 11)).getD i 0 ∧ (q_si (zB + 11)).getD i 0 ≤ 122))) = true := by decide +kernel
  rw [Bool.and_eq_true, decide_eq_true_eq] at h
  refine ⟨h.1, fun i hi => ?_⟩
  have := List.all_eq_true.mp h.2 i (List.mem_range.mpr hi)
  exact of_decide_eq_true this
theorem qsi_12 : q_si (zB + 12) = wThing := by decide +kernel
theorem zwk_12 : zwk (zB + 12) := by
  have h : (decide ((q_s (zB + 12)).length ≤ 100) && (List.range (q_s (zB + 12)).length).all (fun i => decide (97 ≤ (q_si (zB + 12)).getD i 0 ∧ (q_si (zB + 12)).getD i 0 ≤ 122))) = true := by decide +kernel
  rw [Bool.and_eq_true, decide_eq_true_eq] at h
  refine ⟨h.1, fun i hi => ?_⟩
  have := List.all_eq_true.mp h.2 i (List.mem_range.mpr hi)
  exact of_decide_eq_true this
theorem qsi_13 : q_si (zB + 13) = wHours := by decide +kernel
theorem zwk_13 : zwk (zB + 13) := by
  have h : (decide ((q_s (zB + 13)).length ≤ 100) && (List.range (q_s (zB + 13)).length).all (fun i => decide (97 ≤ (q_si (zB + 13)).getD i 0 ∧ (q_si (zB + 13)).getD i 0 ≤ 122))) = true := by decide +kernel
  rw [Bool.and_eq_true, decide_eq_true_eq] at h
  refine ⟨h.1, fun i hi => ?_⟩
  have := List.all_eq_true.mp h.2 i (List.mem_range.mpr hi)
  exact of_decide_eq_true this
theorem qsi_14 : q_si (zB + 14) = wFree := by decide +kernel
theorem zwk_14 : zwk (zB + 14) := by
  have h : (decide ((q_s (zB + 14)).length ≤ 100) && (List.range (q_s (zB + 14)).length).all (fun i => decide (97 ≤ (q_si (zB + 14)).getD i 0 ∧ (q_si (zB + 14)).getD i 0 ≤ 122))) = true := by decide +kernel
  rw [Bool.and_eq_true, decide_eq_true_eq] at h
  refine ⟨h.1, fun i hi => ?_⟩
  have := List.all_eq_true.mp h.2 i (List.mem_range.mpr hi)
  exact of_decide_eq_true this
theorem qsi_15 : q_si (zB + 15) = wWishes := by decide +kernel
theorem zwk_15 : zwk (zB + 15) := by
  have h : (decide ((q_s (zB + 15)).length ≤ 100) && (List.range (q_s (zB + 15)).length).all (fun i => decide (97 ≤ (q_si (zB + 15)).getD i 0 ∧ (q_si (zB + 15)).getD i 0 ≤ 122))) = true := by decide +kernel
  rw [Bool.and_eq_true, decide_eq_true_eq] at h
  refine ⟨h.1, fun i hi => ?_⟩
  have := List.all_eq_true.mp h.2 i (List.mem_range.mpr hi)
  exact of_decide_eq_true this
theorem qsi_16 : q_si (zB + 16) = wCold := by decide +kernel
theorem zwk_16 : zwk (zB + 16) := by
  have h : (decide ((q_s (zB + 16)).length ≤ 100) && (List.range (q_s (zB + 16)).length).all (fun i => decide (97 ≤ (q_si (zB + 16)).getD i 0 ∧ (q_si (zB + 16)).getD i 0 ≤ 122))) = true := by decide +kernel
  rw [Bool.and_eq_true, decide_eq_true_eq] at h
  refine ⟨h.1, fun i hi => ?_⟩
  have := List.all_eq_true.mp h.2 i (List.mem_range.mpr hi)
  exact of_decide_eq_true this
theorem qsi_17 : q_si (zB + 17) = wFine := by decide +kernel
theorem zwk_17 : zwk (zB + 17) := by
  have h : (decide ((q_s (zB + 17)).length ≤ 100) && (List.range (q_s (zB + 17)).length).all (fun i => decide (97 ≤ (q_si (zB + 17)).getD i 0 ∧ (q_si (zB + 17)).getD i 0 ≤ 122))) = true := by decide +kernel
  rw [Bool.and_eq_true, decide_eq_true_eq] at h
  refine ⟨h.1, fun i hi => ?_⟩
  have := List.all_eq_true.mp h.2 i (List.mem_range.mpr hi)
  exact of_decide_eq_true this
theorem qsi_18 : q_si (zB + 18) = wPrice := by decide +kernel
theorem zwk_18 : zwk (zB + 18) := by
  have h : (decide ((q_s (zB + 18)).length ≤ 100) && (List.range (q_s (zB + 18)).length).all (fun i => decide (97 ≤ (q_si (zB + 18)).getD i 0 ∧ (q_si (zB + 18)).getD i 0 ≤ 122))) = true := by decide +kernel
  rw [Bool.and_eq_true, decide_eq_true_eq] at h
  refine ⟨h.1, fun i hi => ?_⟩
  have := List.all_eq_true.mp h.2 i (List.mem_range.mpr hi)
  exact of_decide_eq_true this
theorem qsi_19 : q_si (zB + 19) = wGuests := by decide +kernel
theorem zwk_19 : zwk (zB + 19) := by
  have h : (decide ((q_s (zB + 19)).length ≤ 100) && (List.range (q_s (zB + 19)).length).all (fun i => decide (97 ≤ (q_si (zB + 19)).getD i 0 ∧ (q_si (zB + 19)).getD i 0 ≤ 122))) = true := by decide +kernel
  rw [Bool.and_eq_true, decide_eq_true_eq] at h
  refine ⟨h.1, fun i hi => ?_⟩
  have := List.all_eq_true.mp h.2 i (List.mem_range.mpr hi)
  exact of_decide_eq_true this
theorem qsi_20 : q_si (zB + 20) = wHour := by decide +kernel
theorem zwk_20 : zwk (zB + 20) := by
  have h : (decide ((q_s (zB + 20)).length ≤ 100) && (List.range (q_s (zB + 20)).length).all (fun i => decide (97 ≤ (q_si (zB + 20)).getD i 0 ∧ (q_si (zB + 20)).getD i 0 ≤ 122))) = true := by decide +kernel
  rw [Bool.and_eq_true, decide_eq_true_eq] at h
  refine ⟨h.1, fun i hi => ?_⟩
  have := List.all_eq_true.mp h.2 i (List.mem_range.mpr hi)
  exact of_decide_eq_true this
theorem qsi_21 : q_si (zB + 21) = wPurse := by decide +kernel
theorem zwk_21 : zwk (zB + 21) := by
  have h : (decide ((q_s (zB + 21)).length ≤ 100) && (List.range (q_s (zB + 21)).length).all (fun i => decide (97 ≤ (q_si (zB + 21)).getD i 0 ∧ (q_si (zB + 21)).getD i 0 ≤ 122))) = true := by decide +kernel
  rw [Bool.and_eq_true, decide_eq_true_eq] at h
  refine ⟨h.1, fun i hi => ?_⟩
  have := List.all_eq_true.mp h.2 i (List.mem_range.mpr hi)
  exact of_decide_eq_true this
theorem qsi_22 : q_si (zB + 22) = wDust := by decide +kernel
theorem zwk_22 : zwk (zB + 22) := by
  have h : (decide ((q_s (zB + 22)).length ≤ 100) && (List.range (q_s (zB + 22)).length).all (fun i => decide (97 ≤ (q_si (zB + 22)).getD i 0 ∧ (q_si (zB + 22)).getD i 0 ≤ 122))) = true := by decide +kernel
  rw [Bool.and_eq_true, decide_eq_true_eq] at h
  refine ⟨h.1, fun i hi => ?_⟩
  have := List.all_eq_true.mp h.2 i (List.mem_range.mpr hi)
  exact of_decide_eq_true this
theorem qsi_23 : q_si (zB + 23) = wStove := by decide +kernel
theorem zwk_23 : zwk (zB + 23) := by
  have h : (decide ((q_s (zB + 23)).length ≤ 100) && (List.range (q_s (zB + 23)).length).all (fun i => decide (97 ≤ (q_si (zB + 23)).getD i 0 ∧ (q_si (zB + 23)).getD i 0 ≤ 122))) = true := by decide +kernel
  rw [Bool.and_eq_true, decide_eq_true_eq] at h
  refine ⟨h.1, fun i hi => ?_⟩
  have := List.all_eq_true.mp h.2 i (List.mem_range.mpr hi)
  exact of_decide_eq_true this
theorem qsi_24 : q_si (zB + 24) = wBulk := by decide +kernel
theorem zwk_24 : zwk (zB + 24) := by
  have h : (decide ((q_s (zB + 24)).length ≤ 100) && (List.range (q_s (zB + 24)).length).all (fun i => decide (97 ≤ (q_si (zB + 24)).getD i 0 ∧ (q_si (zB + 24)).getD i 0 ≤ 122))) = true := by decide +kernel
  rw [Bool.and_eq_true, decide_eq_true_eq] at h
  refine ⟨h.1, fun i hi => ?_⟩
  have := List.all_eq_true.mp h.2 i (List.mem_range.mpr hi)
  exact of_decide_eq_true this
theorem qsi_25 : q_si (zB + 25) = wLeft := by decide +kernel
theorem zwk_25 : zwk (zB + 25) := by
  have h : (decide ((q_s (zB + 25)).length ≤ 100) && (List.range (q_s (zB + 25)).length).all (fun i => decide (97 ≤ (q_si (zB + 25)).getD i 0 ∧ (q_si (zB + 25)).getD i 0 ≤ 122))) = true := by decide +kernel
  rw [Bool.and_eq_true, decide_eq_true_eq] at h
  refine ⟨h.1, fun i hi => ?_⟩
  have := List.all_eq_true.mp h.2 i (List.mem_range.mpr hi)
  exact of_decide_eq_true this
theorem qsi_26 : q_si (zB + 26) = wTo := by decide +kernel
theorem zwk_26 : zwk (zB + 26) := by
  have h : (decide ((q_s (zB + 26)).length ≤ 100) && (List.range (q_s (zB + 26)).length).all (fun i => decide (97 ≤ (q_si (zB + 26)).getD i 0 ∧ (q_si (zB + 26)).getD i 0 ≤ 122))) = true := by decide +kernel
  rw [Bool.and_eq_true, decide_eq_true_eq] at h
  refine ⟨h.1, fun i hi => ?_⟩
  have := List.all_eq_true.mp h.2 i (List.mem_range.mpr hi)
  exact of_decide_eq_true this
theorem fm_all : (List.range 24).all (fun f => (List.range 24).all (fun t => decide ((0 ≤ ((Int32.ofNat t - Int32.ofNat f) ^^^ Int32.ofInt 24).toInt → (Int32.ofNat t - Int32.ofNat f) - (Int32.ofNat t - Int32.ofNat f) / Int32.ofInt 24 * Int32.ofInt 24 = Int32.ofNat ((t + 24 - f) % 24)) ∧ (((Int32.ofNat t - Int32.ofNat f) ^^^ Int32.ofInt 24).toInt < 0 → ((Int32.ofNat t - Int32.ofNat f) - (Int32.ofNat t - Int32.ofNat f) / Int32.ofInt 24 * Int32.ofInt 24).toInt = 0 → (Int32.ofNat t - Int32.ofNat f) - (Int32.ofNat t - Int32.ofNat f) / Int32.ofInt 24 * Int32.ofInt 24 = Int32.ofNat ((t + 24 - f) % 24)) ∧ (((Int32.ofNat t - Int32.ofNat f) ^^^ Int32.ofInt 24).toInt < 0 → ((Int32.ofNat t - Int32.ofNat f) - (Int32.ofNat t - Int32.ofNat f) / Int32.ofInt 24 * Int32.ofInt 24).toInt ≠ 0 → (Int32.ofNat t - Int32.ofNat f) - (Int32.ofNat t - Int32.ofNat f) / Int32.ofInt 24 * Int32.ofInt 24 + Int32.ofInt 24 = Int32.ofNat ((t + 24 - f) % 24))))) = true := by decide +kernel
theorem m24_all : (List.range 48).all (fun n => decide (Int32.ofNat n - Int32.ofNat n / Int32.ofInt 24 * Int32.ofInt 24 = Int32.ofNat (n % 24))) = true := by decide +kernel
theorem m24 {n : Nat} (h : n < 48) : Int32.ofNat n - Int32.ofNat n / Int32.ofInt 24 * Int32.ofInt 24 = Int32.ofNat (n % 24) := of_decide_eq_true (List.all_eq_true.mp m24_all n (List.mem_range.mpr h))
noncomputable def p_312 (x y : Int32) (σ : zSg) (r : Int32) (σ' : zSg) : Prop := σ' = σ ∧ (y = Int32.ofInt 24 → ∀ f t, f < 24 → t < 24 → x = Int32.ofNat t - Int32.ofNat f → r = Int32.ofNat ((t + 24 - f) % 24))
theorem sp_312_et (a0 : Int32) (a1 : Int32) (σ : zSg) (h1 : (a0 ^^^ a1).toInt ≥ (0 : Int)) :
    p_312 (a0) (a1) σ (a0 - a0 / a1 * a1) σ := by
  refine ⟨rfl, fun hy f t hf ht hx => ?_⟩
  subst hy
  subst hx
  have h := of_decide_eq_true (List.all_eq_true.mp (List.all_eq_true.mp fm_all f (List.mem_range.mpr hf)) t (List.mem_range.mpr ht))
  exact h.1 h1
theorem sp_312_eft (a0 : Int32) (a1 : Int32) (σ : zSg) (h1 : (a0 ^^^ a1).toInt < (0 : Int)) (h2 : (a0 - a0 / a1 * a1).toInt = (0 : Int)) :
    p_312 (a0) (a1) σ (a0 - a0 / a1 * a1) σ := by
  refine ⟨rfl, fun hy f t hf ht hx => ?_⟩
  subst hy
  subst hx
  have h := of_decide_eq_true (List.all_eq_true.mp (List.all_eq_true.mp fm_all f (List.mem_range.mpr hf)) t (List.mem_range.mpr ht))
  exact h.2.1 h1 h2
theorem sp_312_eff (a0 : Int32) (a1 : Int32) (σ : zSg) (h1 : (a0 ^^^ a1).toInt < (0 : Int)) (h2 : (a0 - a0 / a1 * a1).toInt ≠ (0 : Int)) :
    p_312 (a0) (a1) σ ((a0 - a0 / a1 * a1) + a1) σ := by
  refine ⟨rfl, fun hy f t hf ht hx => ?_⟩
  subst hy
  subst hx
  have h := of_decide_eq_true (List.all_eq_true.mp (List.all_eq_true.mp fm_all f (List.mem_range.mpr hf)) t (List.mem_range.mpr ht))
  exact h.2.2 h1 h2
noncomputable def qP_312 : zPp := fun as σ o σ' => match as with
  | [a0, a1] => ∃ r, o = .inl (some (.int r)) ∧ p_312 (q_i a0) (q_i a1) σ r σ'
  | _ => True
set_option maxRecDepth 100000 in
theorem sp_312 {sx : zX}  : zEe sx 312 2 qP_312 := by
  refine zfle zJ_312 (sps := []) (fun q hq => absurd hq List.not_mem_nil) (fun as σ hl => ?_)
  match as, hl with
  | [a0, a1], _ =>
  refine ⟨[], 400, ?_, ?_⟩
  · exact fun q hq => absurd hq List.not_mem_nil
  · refine And.intro (fun h1 => ?_) (fun h1 => ?_)
    · exact ⟨_, rfl, sp_312_et (q_i a0) (q_i a1) σ (cm3t h1)⟩
    · refine And.intro (fun h2 => ?_) (fun h2 => ?_)
      · exact ⟨_, rfl, sp_312_eft (q_i a0) (q_i a1) σ (cm3f h1) (cm0t h2)⟩
      · exact ⟨_, rfl, sp_312_eff (q_i a0) (q_i a1) σ (cm3f h1) (cm0f h2)⟩
theorem dH_af {b : Nat → Int} {E A : Nat} : dH b E A = match tn b E 0 23 A with
  | none => .inr A
  | some (A1, f) => (match dAf b E wTo 0 23 A1 with
    | .inr F => .inr F
    | .inl (A3, t) => .inl (A3, hB f t)) := by
  unfold dH
  cases tn b E 0 23 A with
  | none => rfl
  | some q =>
    obtain ⟨A1, f⟩ := q
    dsimp only
    unfold dAf
    cases tw b E wTo A1 with
    | none => rfl
    | some A2 =>
      dsimp only
      cases tn b E 0 23 A2 with
      | none => rfl
      | some q => rfl
abbrev cOB (σ' : zSg) (b : Nat → Int) (E nf nt : Nat) (H : Nat → Int32) (x : Int32) (R : (Nat × Int32) ⊕ Nat) : Prop := match R with
  | .inl (A1, q) => x = q ∧ cR σ' b A1 E nf nt H
  | .inr F => cQ σ' b E F
abbrev cOL (σ' : zSg) (b : Nat → Int) (E nf nt : Nat) (H : Nat → Int32) (R : (Nat × dOp) ⊕ Nat) : Prop := match R with
  | .inl (A1, o) => cR σ' b A1 E (nf + dF1 o) (nt + dT1 o) (dApp nf nt H o)
  | .inr F => cQ σ' b E F
theorem zJ_6 : zJ3 6 z_m6 z_c6 z_h6 := ⟨rfl, rfl, rfl⟩
noncomputable def p_6 (a : Nat) (σ : zSg) (r : Int32) (σ' : zSg) : Prop := a = 1 → ∀ b E, (∀ A nf nt H, cR σ b A E nf nt H → cDF σ σ' ∧ cOB σ' b E nf nt H r (dH b E A)) ∧ (∀ F, cQ σ b E F → cDF σ σ' ∧ cQ σ' b E F)
noncomputable def i_6 (a : Nat) (σ : zSg) (l1 l3 l4 l5 : Int32) (τ : zSg) : Prop := a = 1 → ∀ b E, (∀ A nf nt H, cR σ b A E nf nt H → cDF σ τ ∧ ((∃ f t i A1, f < 24 ∧ t < 24 ∧ i ≤ (t + 24 - f) % 24 + 1 ∧ l1 = Int32.ofNat f ∧ l3 = Int32.ofNat ((t + 24 - f) % 24 + 1) ∧ l5 = Int32.ofNat i ∧ l4 = hBn f i ∧ dH b E A = .inl (A1, hB f t) ∧ cR τ b A1 E nf nt H) ∨ ∃ F, dH b E A = .inr F ∧ cQ τ b E F)) ∧ (∀ F, cQ σ b E F → cDF σ τ ∧ cQ τ b E F)
theorem sp_6_e (a0 : Nat) (σ : zSg) (τ1 : zSg) (r1 : Int32) (τ2 : zSg) (τ3 : zSg) (r3 : Int32) (τ4 : zSg) (r4 : Int32) (g1 : p_96 a0 (Int32.ofInt (0)) (Int32.ofInt (23)) σ r1 τ1) (g2 : p_92 a0 (zB + 26) τ1 τ2) (g3 : p_96 a0 (Int32.ofInt (0)) (Int32.ofInt (23)) τ2 r3 τ3) (g4 : p_312 (r3 - r1) (Int32.ofInt (24)) τ3 r4 τ4) :
    i_6 a0 σ r1 (r4 + (Int32.ofInt (1))) (Int32.ofInt (0)) (Int32.ofInt (0)) τ4 := by
  rintro rfl b E
  obtain ⟨rfl, e4⟩ := g4
  refine ⟨fun A nf nt H K => ?_, fun F K => ?_⟩
  · obtain ⟨f1, u1, v1⟩ := K.nb g1 (by decide)
    rw [show (Int32.ofInt 0).toInt = 0 from rfl, show (Int32.ofInt 23).toInt = 23 from rfl] at u1 v1
    rw [dH_af]
    cases h1 : tn b E 0 23 A with
    | none =>
      obtain ⟨f2, K2⟩ := (v1 h1).af g2 g3 zwk_26 (by decide)
      exact ⟨f1.tr f2, Or.inr ⟨A, rfl, K2⟩⟩
    | some q =>
      obtain ⟨A1, f⟩ := q
      obtain ⟨e1, K1⟩ := u1 A1 f h1
      obtain ⟨f2, K2⟩ := K1.af g2 g3 zwk_26 qsi_26 (by decide)
      rw [show (Int32.ofInt 0).toInt = 0 from rfl, show (Int32.ofInt 23).toInt = 23 from rfl] at K2
      dsimp only
      cases h2 : dAf b E wTo 0 23 A1 with
      | inr F => rw [h2] at K2; exact ⟨f1.tr f2, Or.inr ⟨F, rfl, K2⟩⟩
      | inl q =>
        obtain ⟨A3, t⟩ := q
        rw [h2] at K2
        obtain ⟨e3, K3⟩ := K2
        have r1 := tn_rg h1
        have r2 := dAf_rg h2
        have e5 := e4 rfl f t (by omega) (by omega) (by rw [e3, e1])
        exact ⟨f1.tr f2, Or.inl ⟨f, t, 0, A3, by omega, by omega, by omega, e1, by rw [e5]; exact o32i (by omega), rfl, rfl, rfl, K3⟩⟩
  · obtain ⟨f1, K1⟩ := K.nb g1 (by decide)
    obtain ⟨f2, K2⟩ := K1.af g2 g3 zwk_26 (by decide)
    exact ⟨f1.tr f2, K2⟩
theorem sp_6_c25_t (a0 : Nat) (σ : zSg) (l1 : Int32) (l3 : Int32) (l4 : Int32) (l5 : Int32) (τ : zSg) (hI : i_6 a0 σ l1 l3 l4 l5 τ) (h5 : l5.toInt ≥ l3.toInt) :
    p_6 (a0) σ l4 τ := by
  rintro rfl b E
  obtain ⟨hR, hQ⟩ := hI rfl b E
  refine ⟨fun A nf nt H K => ?_, hQ⟩
  obtain ⟨f1, ⟨f, t, i, A1, hf, ht, hi, rfl, rfl, rfl, rfl, hd, K1⟩ | ⟨F, hd, K1⟩⟩ := hR A nf nt H K
  · rw [o32 (by omega), o32 (by omega)] at h5
    rw [hd]
    refine ⟨f1, ?_, K1⟩
    rw [show i = (t + 24 - f) % 24 + 1 by omega]
    rfl
  · rw [hd]
    exact ⟨f1, K1⟩
theorem sp_6_c25_f (a0 : Nat) (σ : zSg) (l1 : Int32) (l3 : Int32) (l4 : Int32) (l5 : Int32) (τ : zSg) (hI : i_6 a0 σ l1 l3 l4 l5 τ) (h5 : l5.toInt < l3.toInt) :
    i_6 a0 σ l1 l3 (l4 ||| ((Int32.ofInt (1)) <<< (((l1 + l5) - (l1 + l5) / (Int32.ofInt (24)) * (Int32.ofInt (24))) &&& 31))) (l5 + Int32.ofInt (1)) τ := by
  rintro rfl b E
  obtain ⟨hR, hQ⟩ := hI rfl b E
  refine ⟨fun A nf nt H K => ?_, hQ⟩
  obtain ⟨f1, ⟨f, t, i, A1, hf, ht, hi, rfl, rfl, rfl, rfl, hd, K1⟩ | ⟨F, hd, K1⟩⟩ := hR A nf nt H K
  · rw [o32 (by omega), o32 (by omega)] at h5
    refine ⟨f1, Or.inl ⟨f, t, i + 1, A1, hf, ht, by omega, rfl, rfl, o32i (by omega), ?_, hd, K1⟩⟩
    rw [o32a (by omega), m24 (by omega), hBn_s]
  · exact ⟨f1, Or.inr ⟨F, hd, K1⟩⟩
noncomputable def qP_6 : zPp := fun as σ o σ' => match as with
  | [a0] => ∃ r, o = .inl (some (.int r)) ∧ p_6 (q_r a0) σ r σ'
  | _ => True
set_option maxRecDepth 100000 in
theorem sp_6 {sx : zX} (S96 : zEe sx 96 3 qP_96) (S92 : zEe sx 92 2 qP_92) (S312 : zEe sx 312 2 qP_312) : zEe sx 6 1 qP_6 := by
  refine zfle zJ_6 (sps := [(96, 3, qP_96), (92, 2, qP_92), (312, 2, qP_312)]) (fun q hq => by
    simp only [List.mem_cons, List.not_mem_nil, or_false] at hq
    rcases hq with rfl | rfl | rfl
    · exact S96
    · exact S92
    · exact S312) (fun as σ hl => ?_)
  match as, hl with
  | [a0], _ =>
  refine ⟨[(25, fun lo st τ => st = [] ∧ i_6 (q_r a0) σ (q_i (lo 1)) (q_i (lo 3)) (q_i (lo 4)) (q_i (lo 5)) τ)], 400, ?_, ?_⟩
  · intro q hq
    simp only [List.mem_cons, List.not_mem_nil, or_false] at hq
    rcases hq with rfl
    · rintro lo st τ ⟨rfl, hI⟩
      refine ⟨400, ?_⟩
      refine And.intro (fun h5 => ?_) (fun h5 => ?_)
      · exact ⟨_, rfl, sp_6_c25_t (q_r a0) σ (q_i (lo 1)) (q_i (lo 3)) (q_i (lo 4)) (q_i (lo 5)) τ hI (cm3t h5)⟩
      · exact ⟨rfl, sp_6_c25_f (q_r a0) σ (q_i (lo 1)) (q_i (lo 3)) (q_i (lo 4)) (q_i (lo 5)) τ hI (cm3f h5)⟩
  · refine fun o1 τ1 g1 => ?_
    obtain ⟨r1, rfl, g1⟩ := g1
    refine fun o2 τ2 g2 => ?_
    obtain ⟨rfl, g2⟩ := g2
    refine fun o3 τ3 g3 => ?_
    obtain ⟨r3, rfl, g3⟩ := g3
    refine fun o4 τ4 g4 => ?_
    obtain ⟨r4, rfl, g4⟩ := g4
    exact ⟨rfl, sp_6_e (q_r a0) σ τ1 r1 τ2 τ3 r3 τ4 r4 g1 g2 g3 g4⟩
theorem zJ_5 : zJ3 5 z_m5 z_c5 z_h5 := ⟨rfl, rfl, rfl⟩
noncomputable def p_5 (h a : Nat) (σ : zSg) (r : Int32) (σ' : zSg) : Prop := h = 21 → a = 1 → ∀ b E, (∀ A nf nt H, cR σ b A E nf nt H → cDF σ σ' ∧ ((∃ A1 v, tn b E 0 ((nf : Int) - 1) A = some (A1, v) ∧ r = Int32.ofNat v ∧ cR σ' b A1 E nf nt H) ∨ (tn b E 0 ((nf : Int) - 1) A = none ∧ cQ σ' b E A))) ∧ (∀ F, cQ σ b E F → cDF σ σ' ∧ cQ σ' b E F)
theorem sp_5_e (a0 : Nat) (a1 : Nat) (σ : zSg) (τ1 : zSg) (r1 : Int32) (g1 : p_96 a1 (Int32.ofInt (0)) ((q_i (σ.1 (q_r (σ.1 a0 1)) 4)) - (Int32.ofInt (1))) σ r1 τ1) :
    p_5 (a0) (a1) σ r1 τ1 := by
  rintro rfl rfl b E
  refine ⟨fun A nf nt H K => ?_, fun F K => K.nb g1 (by decide)⟩
  obtain ⟨f1, u1, v1⟩ := K.nb g1 (by decide)
  have d1 := K.2.2.2.2.1.k hk_1
  have p0 := K.2.2.2.2.1.p hp_0
  have hc := K.2.2.2.2.2
  have e2 : (q_i (σ.1 (q_r (σ.1 21 1)) 4) - Int32.ofInt 1).toInt = (nf : Int) - 1 := by
    have d1' : q_r (σ.1 21 1) = 23 := d1
    have p0' : q_i (σ.1 23 4) = H 0 := p0
    rw [d1', p0', hc.1]
    have := hc.2.1
    exact zI_sub (o32 (by omega)) (zI_c (by omega) (by omega)) (by omega) (by omega)
  rw [e2, show (Int32.ofInt 0).toInt = 0 from rfl] at u1 v1
  refine ⟨f1, ?_⟩
  cases h1 : tn b E 0 ((nf : Int) - 1) A with
  | none => exact Or.inr ⟨rfl, v1 h1⟩
  | some q =>
    obtain ⟨e1, K1⟩ := u1 q.1 q.2 h1
    exact Or.inl ⟨q.1, q.2, rfl, e1, K1⟩
noncomputable def qP_5 : zPp := fun as σ o σ' => match as with
  | [a0, a1] => ∃ r, o = .inl (some (.int r)) ∧ p_5 (q_r a0) (q_r a1) σ r σ'
  | _ => True
set_option maxRecDepth 100000 in
theorem sp_5 {sx : zX} (S96 : zEe sx 96 3 qP_96) : zEe sx 5 2 qP_5 := by
  refine zfle zJ_5 (sps := [(96, 3, qP_96)]) (fun q hq => by
    simp only [List.mem_cons, List.not_mem_nil, or_false] at hq
    rcases hq with rfl
    · exact S96) (fun as σ hl => ?_)
  match as, hl with
  | [a0, a1], _ =>
  refine ⟨[], 400, ?_, ?_⟩
  · exact fun q hq => absurd hq List.not_mem_nil
  · refine fun o1 τ1 g1 => ?_
    obtain ⟨r1, rfl, g1⟩ := g1
    exact ⟨_, rfl, sp_5_e (q_r a0) (q_r a1) σ τ1 r1 g1⟩
theorem dC.cg {nf nt : Nat} {H H' : Nat → Int32} (h : dC nf nt H) (h0 : H' 0 = H 0) (h1 : H' 1 = H 1) (hz : ∀ t, t < 8 → H' (66 + 3 * t) = H (66 + 3 * t)) : dC nf nt H' := ⟨h0.trans h.1, h.2.1, h1.trans h.2.2.1, h.2.2.2.1, fun t h2 h3 => (hz t h3).trans (h.2.2.2.2 t h2 h3)⟩
theorem dC.dG {nf nt : Nat} {H : Nat → Int32} {q f : Int32} (h : dC nf nt H) : dC nf nt (dG H q f) := h.cg (dG_ne (by omega)) (dG_ne (by omega)) (fun t _ => dG_ne (by omega))
theorem dC.fd {nf nt : Nat} {H : Nat → Int32} {p d s : Int32} (h : dC nf nt H) (hn : nf < 6) : dC (nf + 1) nt (dFd H nf p d s) := by
  refine ⟨aU_at, by omega, ?_, h.2.2.2.1, fun t h2 h3 => ?_⟩
  · unfold dFd
    rw [aU_ne (by omega), aU_ne (by omega), aU_ne (by omega), aU_ne (by omega), aU_ne (by omega)]
    exact h.2.2.1
  · unfold dFd
    rw [aU_ne (by omega), aU_ne (by omega), aU_ne (by omega), aU_ne (by omega), aU_ne (by omega)]
    exact h.2.2.2.2 t h2 h3
theorem dC.br {nf nt : Nat} {H : Nat → Int32} {f v l : Int32} (h : dC nf nt H) (hn : nt < 8) : dC nf (nt + 1) (dBr H nt f v l) := by
  refine ⟨?_, h.2.1, aU_at, by omega, fun t h2 h3 => ?_⟩
  · unfold dBr
    rw [aU_ne (by omega), aU_ne (by omega), aU_ne (by omega), aU_ne (by omega)]
    exact h.1
  · unfold dBr
    rw [aU_ne (by omega), aU_ne (by omega), aU_ne (by omega), aU_ne (by omega)]
    exact h.2.2.2.2 t (by omega) h3
theorem dC.wi {nf nt f : Nat} {H : Nat → Int32} {v : Int32} (h : dC nf nt H) (hf : f < 6) : dC nf nt (aU H (43 + 4 * f) v) := h.cg (aU_ne (by omega)) (aU_ne (by omega)) (fun t _ => aU_ne (by omega))
theorem dC.st {nf nt k : Nat} {H : Nat → Int32} {v : Int32} (h : dC nf nt H) (hk : 4 ≤ k ∧ k ≤ 13) : dC nf nt (aU H k v) := h.cg (aU_ne (by omega)) (aU_ne (by omega)) (fun t _ => aU_ne (by omega))
section CQH
variable {σ τ : zSg} {E F : Nat} {b : Nat → Int}
theorem cQ.fd {p d s x : Int32} (K : cQ σ b E F) (G : p_12 23 p d s σ x τ) : cDF σ τ ∧ cQ τ b E F := by
  have f : hHF 21 σ τ := by
    obtain ⟨-, -, -, -, -, H, nf, nt, h6, h7⟩ := K
    exact (G 21 H nf rfl h6 h7.1 h7.2.1).1
  refine ⟨cDF.of f, K.hs f (fun H nf nt h6 h7 => ?_)⟩
  obtain ⟨-, g1, g2⟩ := G 21 H nf rfl h6 h7.1 h7.2.1
  rcases Nat.lt_or_ge nf 6 with h | h
  · exact ⟨_, _, nt, (g2 h).2, h7.fd h⟩
  · rw [g1 (by have := h7.2.1; omega)]
    exact ⟨H, nf, nt, h6, h7⟩
theorem cQ.br {p d s : Int32} (K : cQ σ b E F) (G : p_104 28 p d s σ τ) : cDF σ τ ∧ cQ τ b E F := by
  have f : hHF 21 σ τ := by
    obtain ⟨-, -, -, -, -, H, nf, nt, h6, h7⟩ := K
    exact (G 21 H nt rfl h6 h7.2.2.1 h7.2.2.2.1).1
  refine ⟨cDF.of f, K.hs f (fun H nf nt h6 h7 => ?_)⟩
  obtain ⟨-, g1, g2⟩ := G 21 H nt rfl h6 h7.2.2.1 h7.2.2.2.1
  rcases Nat.lt_or_ge nt 8 with h | h
  · by_cases hl : s.toInt = 0
    · exact ⟨_, nf, _, (g2 h).2 hl, h7.br h⟩
    · exact ⟨_, nf, _, (g2 h).1 hl, h7.br h⟩
  · rw [g1 (by have := h7.2.2.2.1; omega)]
    exact ⟨H, nf, nt, h6, h7⟩
theorem cQ.gh {q f : Int32} (K : cQ σ b E F) (G : p_29 21 q f σ τ) : cDF σ τ ∧ cQ τ b E F := by
  have f : hHF 21 σ τ := by
    obtain ⟨-, -, -, -, -, H, nf, nt, h6, h7⟩ := K
    exact (G H h6).1
  exact ⟨cDF.of f, K.hs f (fun H nf nt h6 h7 => ⟨_, nf, nt, (G H h6).2, h7.dG⟩)⟩
theorem cQ.aw {q f : Int32} (K : cQ σ b E F) (G : p_13 23 f q σ τ) : cDF σ τ ∧ cQ τ b E F := by
  have f : hHF 21 σ τ := by
    obtain ⟨-, -, -, -, -, H, nf, nt, h6, h7⟩ := K
    exact (G 21 H nf rfl h6 h7.1 h7.2.1).1
  refine ⟨cDF.of f, K.hs f (fun H nf nt h6 h7 => ?_)⟩
  obtain ⟨-, -, H', g1, g2⟩ := G 21 H nf rfl h6 h7.1 h7.2.1
  exact ⟨H', nf, nt, g1, h7.cg (g2 0 (by omega)) (g2 1 (by omega)) (fun t _ => g2 _ (by omega))⟩
theorem cQ.k (K : cQ σ b E F) : q_r (σ.1 21 1) = 23 ∧ q_r (σ.1 21 2) = 28 := by
  obtain ⟨-, -, -, -, -, H, nf, nt, h6, h7⟩ := K
  exact ⟨h6.k hk_1, h6.k hk_2⟩
theorem cR.k {A nf nt : Nat} {H : Nat → Int32} (K : cR σ b A E nf nt H) : q_r (σ.1 21 1) = 23 ∧ q_r (σ.1 21 2) = 28 := ⟨K.2.2.2.2.1.k hk_1, K.2.2.2.2.1.k hk_2⟩
theorem cR.gh {A nf nt : Nat} {H : Nat → Int32} {q f : Int32} (K : cR σ b A E nf nt H) (G : p_29 21 q f σ τ) : cDF σ τ ∧ cR τ b A E nf nt (dG H q f) := ⟨cDF.of (G H K.2.2.2.2.1).1, K.hs (G H K.2.2.2.2.1).1 (G H K.2.2.2.2.1).2 K.2.2.2.2.2.dG⟩
theorem cR.aw {A nf nt f : Nat} {H : Nat → Int32} {q : Int32} (K : cR σ b A E nf nt H) (G : p_13 23 (Int32.ofNat f) q σ τ) (hf : f < nf) : cDF σ τ ∧ cR τ b A E nf nt (aU H (43 + 4 * f) (H (43 + 4 * f) ||| q)) := by
  have hc := K.2.2.2.2.2
  obtain ⟨g1, g2, -⟩ := G 21 H nf rfl K.2.2.2.2.1 hc.1 hc.2.1
  exact ⟨cDF.of g1, K.hs g1 (g2 f rfl hf) (hc.wi (by have := hc.2.1; omega))⟩
end CQH
