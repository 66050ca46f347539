/-! an hour of the reference, exact; printed with wip/gen/gen_dj.py -/
noncomputable def rHF (σ σ' : zSg) : Prop := σ'.2 = σ.2 ∧ ∀ c k, ¬ (c = 206 ∧ k < 388) → c ≠ 213 → σ'.1 c k = σ.1 c k
section RHF
variable {σ τ υ : zSg} {k nf nt : Nat} {A B : Nat → Int32} {v : Value} {Lo : Option (Nat × List gLn4 × zSs)}
theorem rHF.rf : rHF σ σ := ⟨rfl, fun _ _ _ _ => rfl⟩
theorem rHF.tr (h1 : rHF σ τ) (h2 : rHF τ υ) : rHF σ υ := ⟨h2.1.trans h1.1, fun c k q1 q2 => (h2.2 c k q1 q2).trans (h1.2 c k q1 q2)⟩
theorem rHF.w (h : rHF σ τ) (hk : k < 388) : rHF σ (q_w τ 206 k v) := ⟨h.1, fun c i q1 q2 => (q_w_ne (fun e1 e2 => q1 ⟨e1, by omega⟩)).trans (h.2 c i q1 q2)⟩
theorem rVF.h (f : rVF σ τ) : rHF σ τ := ⟨f.1, fun c k _ q => f.2 c k q⟩
theorem rEv.hr (K : rEv σ A nt Lo) (f : rHF σ τ) (W : rW τ B) (I : aI nf nt B) (h3 : B 3 = A 3) : rEv τ B nt Lo := by
  obtain ⟨a1, a2, a3, a4, a5, a6⟩ := K
  refine ⟨W, (f.2 _ _ (by omega) (by omega)).trans a2, I.1.2.2.1, a4, fun t ht q => ?_, a6.of (fun k hk => f.2 _ _ (by omega) (by omega)) h3⟩
  have k6 := I.1.2.1
  obtain ⟨F, hF, e⟩ := I.2.2.1 t ht
  rw [e] at q
  have := congrArg Int32.toInt q
  rw [o32 (by omega), show (Int32.ofInt (-1)).toInt = -1 from rfl] at this
  omega
end RHF
theorem kz8' : (Int32.ofInt 8).toNatClampNeg = 8 := rfl
theorem kz9 : (Int32.ofInt 9).toNatClampNeg = 9 := rfl
theorem kz10 : (Int32.ofInt 10).toNatClampNeg = 10 := rfl
theorem kz13 : (Int32.ofInt 13).toNatClampNeg = 13 := rfl
theorem kz14 : (Int32.ofInt 14).toNatClampNeg = 14 := rfl
theorem kz15 : (Int32.ofInt 15).toNatClampNeg = 15 := rfl
theorem kz88 : (Int32.ofInt 88).toNatClampNeg = 88 := rfl
theorem kz89 : (Int32.ofInt 89).toNatClampNeg = 89 := rfl
theorem kz90 : (Int32.ofInt 90).toNatClampNeg = 90 := rfl
theorem kz91 : (Int32.ofInt 91).toNatClampNeg = 91 := rfl
theorem kz92 : (Int32.ofInt 92).toNatClampNeg = 92 := rfl
theorem zJ_198 : zJ3 198 z_m198 z_c198 z_h198 := ⟨rfl, rfl, rfl⟩
noncomputable def p_198 (a : Nat) (n : Int32) (σ : zSg) (r : Int32) (σ' : zSg) : Prop := a = 205 → n = Int32.ofInt 100 → ∀ A, rW σ A → rHF σ σ' ∧ rW σ' (aU A 15 (hSd (A 15))) ∧ r = hDr (hSd (A 15))
theorem sp_198_e (a0 : Nat) (a1 : Int32) (σ : zSg) (τ3 : zSg) (h1 : 0 ≤ (Int32.ofInt (15)).toInt ∧ (Int32.ofInt (15)).toInt < (σ.2.1 (q_r (σ.1 a0 1)) : Int)) (h2 : 0 ≤ (Int32.ofInt (15)).toInt ∧ (Int32.ofInt (15)).toInt < (σ.2.1 (q_r (σ.1 a0 1)) : Int)) (ew3 : τ3 = q_w σ (q_r (σ.1 a0 1)) (Int32.ofInt (15)).toNatClampNeg (.int (((Int32.ofInt (1103515245)) * (q_i (σ.1 (q_r (σ.1 a0 1)) (Int32.ofInt (15)).toNatClampNeg))) + (Int32.ofInt (12345))))) (h4 : 0 ≤ (Int32.ofInt (15)).toInt ∧ (Int32.ofInt (15)).toInt < (τ3.2.1 (q_r (τ3.1 a0 1)) : Int)) :
    p_198 (a0) (a1) σ ((((q_i (τ3.1 (q_r (τ3.1 a0 1)) (Int32.ofInt (15)).toNatClampNeg)) >>> ((Int32.ofInt (16)) &&& 31)) &&& (Int32.ofInt (32767))) - (((q_i (τ3.1 (q_r (τ3.1 a0 1)) (Int32.ofInt (15)).toNatClampNeg)) >>> ((Int32.ofInt (16)) &&& 31)) &&& (Int32.ofInt (32767))) / a1 * a1) τ3 := by
  rintro rfl rfl A K
  simp only [K.q, kz15, K.i (k := 15) (by omega)] at ew3
  have K1 := K.ww (k := 15) (v := hSd (A 15))
  have f1 := rHF.rf.w (σ := σ) (k := 15) (v := .int (hSd (A 15))) (by omega)
  have ew3 : τ3 = q_w σ 206 15 (.int (hSd (A 15))) := ew3
  rw [← ew3] at K1 f1
  have i15 := (K1.i (k := 15) (by omega)).trans aU_at
  simp only [K1.q, kz15, i15]
  exact ⟨f1, K1, rfl⟩
noncomputable def qP_198 : zPp := fun as σ o σ' => match as with
  | [a0, a1] => ∃ r, o = .inl (some (.int r)) ∧ p_198 (q_r a0) (q_i a1) σ r σ'
  | _ => True
set_option maxRecDepth 100000 in
theorem sp_198 {sx : zX}  : zEe sx 198 2 qP_198 := by
  refine zfle zJ_198 (sps := []) (fun q hq => absurd hq List.not_mem_nil) (fun as σ hl => ?_)
  match as, hl with
  | [a0, a1], _ =>
  refine ⟨[], 400, ?_, ?_⟩
  · exact fun q hq => absurd hq List.not_mem_nil
  · refine fun h1 => ?_
    refine fun h2 => ?_
    refine fun h4 => ?_
    exact ⟨_, rfl, sp_198_e (q_r a0) (q_i a1) σ _ (q_inp h1) (q_inp h2) rfl (q_inp h4)⟩
theorem zJ_262 : zJ3 262 z_m262 z_c262 z_h262 := ⟨rfl, rfl, rfl⟩
noncomputable def aSh (A : Nat → Int32) (K : Nat) (i : Nat) : Int32 := if 88 + K < i ∧ i < 388 then A (i - 5) else A i
theorem ix88 {K : Nat} (h : K ≤ 400) : (Int32.ofInt 88 + Int32.ofNat K).toNatClampNeg = 88 + K := by
  rw [show Int32.ofInt 88 + Int32.ofNat K = Int32.ofNat (88 + K) from (Int32.ofNat_add 88 K).symm, ixN (by omega)]
theorem ix83 {K : Nat} (h : K ≤ 400) : (Int32.ofInt 88 + Int32.ofNat K - Int32.ofInt 5).toNatClampNeg = 83 + K := by
  refine znat ?_
  rw [show Int32.ofInt 88 + Int32.ofNat K = Int32.ofNat (88 + K) from (Int32.ofNat_add 88 K).symm, zI_sub (zofNat2 (by omega)) (zI_c (by omega) (by omega)) (by omega) (by omega)]
  omega
noncomputable def p_262 (a : Nat) (f w v : Int32) (σ σ' : zSg) : Prop := a = 205 → ∀ A, rW σ A → rHF σ σ' ∧ rW σ' (aTl A (A 5) (A 4) f w v)
noncomputable def i_262 (a : Nat) (f w v : Int32) (σ : zSg) (l0 : Nat) (l1 l2 l3 l4 : Int32) (τ : zSg) : Prop := l0 = a ∧ l1 = f ∧ l2 = w ∧ l3 = v ∧ (a = 205 → ∀ A, rW σ A → rHF σ τ ∧ ∃ K, 4 ≤ K ∧ K ≤ 299 ∧ l4 = Int32.ofNat K ∧ rW τ (aSh A K))
theorem sp_262_e (a0 : Nat) (a1 : Int32) (a2 : Int32) (a3 : Int32) (σ : zSg)  :
    i_262 a0 a1 a2 a3 σ a0 a1 a2 a3 (Int32.ofInt (299)) σ := by
  refine ⟨rfl, rfl, rfl, rfl, ?_⟩
  rintro rfl A R
  refine ⟨rHF.rf, 299, by omega, by omega, rfl, ?_⟩
  refine ⟨R.1, fun k hk => ?_⟩
  rw [R.2 k hk]
  unfold aSh
  rw [if_neg (by omega)]
theorem sp_262_c2_t (a0 : Nat) (a1 : Int32) (a2 : Int32) (a3 : Int32) (σ : zSg) (l0 : Nat) (l1 : Int32) (l2 : Int32) (l3 : Int32) (l4 : Int32) (τ : zSg) (τ4 : zSg) (τ7 : zSg) (τ9 : zSg) (τ11 : zSg) (τ13 : zSg) (τ16 : zSg) (hI : i_262 a0 a1 a2 a3 σ l0 l1 l2 l3 l4 τ) (h1 : l4.toInt < (5 : Int)) (h2 : 0 ≤ (Int32.ofInt (5)).toInt ∧ (Int32.ofInt (5)).toInt < (τ.2.1 (q_r (τ.1 l0 1)) : Int)) (h3 : 0 ≤ (Int32.ofInt (88)).toInt ∧ (Int32.ofInt (88)).toInt < (τ.2.1 (q_r (τ.1 l0 1)) : Int)) (ew4 : τ4 = q_w τ (q_r (τ.1 l0 1)) (Int32.ofInt (88)).toNatClampNeg (.int (q_i (τ.1 (q_r (τ.1 l0 1)) (Int32.ofInt (5)).toNatClampNeg)))) (h5 : 0 ≤ (Int32.ofInt (4)).toInt ∧ (Int32.ofInt (4)).toInt < (τ4.2.1 (q_r (τ4.1 l0 1)) : Int)) (h6 : 0 ≤ (Int32.ofInt (89)).toInt ∧ (Int32.ofInt (89)).toInt < (τ4.2.1 (q_r (τ4.1 l0 1)) : Int)) (ew7 : τ7 = q_w τ4 (q_r (τ4.1 l0 1)) (Int32.ofInt (89)).toNatClampNeg (.int (q_i (τ4.1 (q_r (τ4.1 l0 1)) (Int32.ofInt (4)).toNatClampNeg)))) (h8 : 0 ≤ (Int32.ofInt (90)).toInt ∧ (Int32.ofInt (90)).toInt < (τ7.2.1 (q_r (τ7.1 l0 1)) : Int)) (ew9 : τ9 = q_w τ7 (q_r (τ7.1 l0 1)) (Int32.ofInt (90)).toNatClampNeg (.int l1)) (h10 : 0 ≤ (Int32.ofInt (91)).toInt ∧ (Int32.ofInt (91)).toInt < (τ9.2.1 (q_r (τ9.1 l0 1)) : Int)) (ew11 : τ11 = q_w τ9 (q_r (τ9.1 l0 1)) (Int32.ofInt (91)).toNatClampNeg (.int l2)) (h12 : 0 ≤ (Int32.ofInt (92)).toInt ∧ (Int32.ofInt (92)).toInt < (τ11.2.1 (q_r (τ11.1 l0 1)) : Int)) (ew13 : τ13 = q_w τ11 (q_r (τ11.1 l0 1)) (Int32.ofInt (92)).toNatClampNeg (.int l3)) (h14 : 0 ≤ (Int32.ofInt (14)).toInt ∧ (Int32.ofInt (14)).toInt < (τ13.2.1 (q_r (τ13.1 l0 1)) : Int)) (h15 : 0 ≤ (Int32.ofInt (14)).toInt ∧ (Int32.ofInt (14)).toInt < (τ13.2.1 (q_r (τ13.1 l0 1)) : Int)) (ew16 : τ16 = q_w τ13 (q_r (τ13.1 l0 1)) (Int32.ofInt (14)).toNatClampNeg (.int (if ((q_i (τ13.1 (q_r (τ13.1 l0 1)) (Int32.ofInt (14)).toNatClampNeg)) + (Int32.ofInt (1))) < (Int32.ofInt (60)) then ((q_i (τ13.1 (q_r (τ13.1 l0 1)) (Int32.ofInt (14)).toNatClampNeg)) + (Int32.ofInt (1))) else (Int32.ofInt (60))))) :
    p_262 (a0) (a1) (a2) (a3) σ τ16 := by
  obtain ⟨rfl, rfl, rfl, rfl, hI⟩ := hI
  rintro rfl A R
  obtain ⟨fr, K, h4, h299, rfl, RB⟩ := hI rfl A R
  rw [o32 (by omega)] at h1
  have hK : K = 4 := by omega
  subst hK
  have j5 : q_i (τ.1 206 5) = A 5 := by rw [RB.i (k := 5) (by omega)]; rfl
  simp only [RB.q, kz5, kz88, j5] at ew4
  have R1 := RB.ww (k := 88) (v := A 5)
  have f1 := fr.w (k := 88) (v := .int (A 5)) (by omega)
  rw [← ew4] at R1 f1
  have j4 : q_i (τ4.1 206 4) = A 4 := by rw [R1.i (k := 4) (by omega), aU_ne (by omega)]; rfl
  simp only [R1.q, kz4, kz89, j4] at ew7
  have R2 := R1.ww (k := 89) (v := A 4)
  have f2 := f1.w (k := 89) (v := .int (A 4)) (by omega)
  rw [← ew7] at R2 f2
  simp only [R2.q, kz90] at ew9
  have R3 := R2.ww (k := 90) (v := l1)
  have f3 := f2.w (k := 90) (v := .int l1) (by omega)
  rw [← ew9] at R3 f3
  simp only [R3.q, kz91] at ew11
  have R4 := R3.ww (k := 91) (v := l2)
  have f4 := f3.w (k := 91) (v := .int l2) (by omega)
  rw [← ew11] at R4 f4
  simp only [R4.q, kz92] at ew13
  have R5 := R4.ww (k := 92) (v := l3)
  have f5 := f4.w (k := 92) (v := .int l3) (by omega)
  rw [← ew13] at R5 f5
  have j14 : q_i (τ13.1 206 14) = A 14 := by rw [R5.i (k := 14) (by omega), aU_ne (by omega), aU_ne (by omega), aU_ne (by omega), aU_ne (by omega), aU_ne (by omega)]; rfl
  simp only [R5.q, kz14, j14] at ew16
  have R6 := R5.ww (k := 14) (v := aMi (Int32.ofInt 60) (A 14 + Int32.ofInt 1))
  have f6 := f5.w (k := 14) (v := .int (aMi (Int32.ofInt 60) (A 14 + Int32.ofInt 1))) (by omega)
  have ew16 : τ16 = q_w τ13 206 14 (.int (aMi (Int32.ofInt 60) (A 14 + Int32.ofInt 1))) := ew16
  rw [← ew16] at R6 f6
  refine ⟨f6, R6.1, fun k hk => ?_⟩
  rw [R6.2 k hk]
  refine congrArg Value.int ?_
  by_cases q14 : k = 14
  · subst q14; rw [aU_at, aTl_14]
  rw [aU_ne q14]
  by_cases q92 : k = 92
  · subst q92; rw [aU_at]; rfl
  rw [aU_ne q92]
  by_cases q91 : k = 91
  · subst q91; rw [aU_at]; rfl
  rw [aU_ne q91]
  by_cases q90 : k = 90
  · subst q90; rw [aU_at]; rfl
  rw [aU_ne q90]
  by_cases q89 : k = 89
  · subst q89; rw [aU_at]; rfl
  rw [aU_ne q89]
  by_cases q88 : k = 88
  · subst q88; rw [aU_at]; rfl
  rw [aU_ne q88]
  unfold aSh aTl
  by_cases q : 93 ≤ k ∧ k < 388
  · rw [if_pos q, if_pos (by omega)]
  · rw [if_neg q, if_neg (by omega), if_neg q88, if_neg q89, if_neg q90, if_neg q91, if_neg q92, if_neg q14]
theorem sp_262_c2_f (a0 : Nat) (a1 : Int32) (a2 : Int32) (a3 : Int32) (σ : zSg) (l0 : Nat) (l1 : Int32) (l2 : Int32) (l3 : Int32) (l4 : Int32) (τ : zSg) (τ19 : zSg) (hI : i_262 a0 a1 a2 a3 σ l0 l1 l2 l3 l4 τ) (h1 : l4.toInt ≥ (5 : Int)) (h17 : 0 ≤ (((Int32.ofInt (88)) + l4) - (Int32.ofInt (5))).toInt ∧ (((Int32.ofInt (88)) + l4) - (Int32.ofInt (5))).toInt < (τ.2.1 (q_r (τ.1 l0 1)) : Int)) (h18 : 0 ≤ ((Int32.ofInt (88)) + l4).toInt ∧ ((Int32.ofInt (88)) + l4).toInt < (τ.2.1 (q_r (τ.1 l0 1)) : Int)) (ew19 : τ19 = q_w τ (q_r (τ.1 l0 1)) ((Int32.ofInt (88)) + l4).toNatClampNeg (.int (q_i (τ.1 (q_r (τ.1 l0 1)) (((Int32.ofInt (88)) + l4) - (Int32.ofInt (5))).toNatClampNeg)))) :
    i_262 a0 a1 a2 a3 σ l0 l1 l2 l3 (l4 + Int32.ofInt (-1)) τ19 := by
  obtain ⟨rfl, rfl, rfl, rfl, hI⟩ := hI
  refine ⟨rfl, rfl, rfl, rfl, ?_⟩
  rintro rfl A R
  obtain ⟨fr, K, h4, h299, rfl, RB⟩ := hI rfl A R
  rw [o32 (by omega)] at h1
  have i83 : q_i (τ.1 206 (83 + K)) = A (83 + K) := by
    rw [RB.i (k := 83 + K) (by omega)]
    unfold aSh
    rw [if_neg (by omega)]
  simp only [RB.q, ix88 (K := K) (by omega), ix83 (K := K) (by omega), i83] at ew19
  have R1 := RB.ww (k := 88 + K) (v := A (83 + K))
  have f1 := fr.w (k := 88 + K) (v := .int (A (83 + K))) (by omega)
  rw [← ew19] at R1 f1
  refine ⟨f1, K - 1, by omega, by omega, ?_, ?_⟩
  · rw [show K = K - 1 + 1 by omega]
    exact o32d (by omega)
  · refine ⟨R1.1, fun k hk => ?_⟩
    rw [R1.2 k hk]
    unfold aSh aU
    dsimp only
    by_cases q : k = 88 + K
    · rw [if_pos q, if_pos (by omega), show k - 5 = 83 + K by omega]
    · rw [if_neg q]
      by_cases q2 : 88 + K < k ∧ k < 388
      · rw [if_pos q2, if_pos (by omega)]
      · rw [if_neg q2, if_neg (by omega)]
noncomputable def qP_262 : zPp := fun as σ o σ' => match as with
  | [a0, a1, a2, a3] => o = .inl none ∧ p_262 (q_r a0) (q_i a1) (q_i a2) (q_i a3) σ σ'
  | _ => True
set_option maxRecDepth 100000 in
theorem sp_262 {sx : zX}  : zEe sx 262 4 qP_262 := by
  refine zfle zJ_262 (sps := []) (fun q hq => absurd hq List.not_mem_nil) (fun as σ hl => ?_)
  match as, hl with
  | [a0, a1, a2, a3], _ =>
  refine ⟨[(2, fun lo st τ => st = [] ∧ i_262 (q_r a0) (q_i a1) (q_i a2) (q_i a3) σ (q_r (lo 0)) (q_i (lo 1)) (q_i (lo 2)) (q_i (lo 3)) (q_i (lo 4)) τ)], 400, ?_, ?_⟩
  · intro q hq
    simp only [List.mem_cons, List.not_mem_nil, or_false] at hq
    rcases hq with rfl
    · rintro lo st τ ⟨rfl, hI⟩
      refine ⟨400, ?_⟩
      refine And.intro (fun h1 => ?_) (fun h1 => ?_)
      · refine fun h2 => ?_
        refine fun h3 => ?_
        refine fun h5 => ?_
        refine fun h6 => ?_
        refine fun h8 => ?_
        refine fun h10 => ?_
        refine fun h12 => ?_
        refine fun h14 => ?_
        refine fun h15 => ?_
        exact ⟨rfl, sp_262_c2_t (q_r a0) (q_i a1) (q_i a2) (q_i a3) σ (q_r (lo 0)) (q_i (lo 1)) (q_i (lo 2)) (q_i (lo 3)) (q_i (lo 4)) τ _ _ _ _ _ _ hI (cm2t h1) (q_inp h2) (q_inp h3) rfl (q_inp h5) (q_inp h6) rfl (q_inp h8) rfl (q_inp h10) rfl (q_inp h12) rfl (q_inp h14) (q_inp h15) rfl⟩
      · refine fun h17 => ?_
        refine fun h18 => ?_
        exact ⟨rfl, sp_262_c2_f (q_r a0) (q_i a1) (q_i a2) (q_i a3) σ (q_r (lo 0)) (q_i (lo 1)) (q_i (lo 2)) (q_i (lo 3)) (q_i (lo 4)) τ _ hI (cm2f h1) (q_inp h17) (q_inp h18) rfl⟩
  · exact ⟨rfl, sp_262_e (q_r a0) (q_i a1) (q_i a2) (q_i a3) σ ⟩
theorem zJ_263 : zJ3 263 z_m263 z_c263 z_h263 := ⟨rfl, rfl, rfl⟩
noncomputable def p_263 (a : Nat) (f : Int32) (σ σ' : zSg) : Prop := a = 205 → ∀ A, rW σ A → (f = Int32.ofInt (-1) → rHF σ σ' ∧ rW σ' (hVi A none)) ∧ (∀ F, F < 6 → f = Int32.ofNat F → rHF σ σ' ∧ rW σ' (hVi A (some F)))
theorem sp_263_et (a0 : Nat) (a1 : Int32) (σ : zSg) (τ1 : zSg) (r1 : Int32) (g1 : p_198 a0 (Int32.ofInt (100)) σ r1 τ1) (h2 : 0 ≤ (Int32.ofInt (13)).toInt ∧ (Int32.ofInt (13)).toInt < (τ1.2.1 (q_r (τ1.1 a0 1)) : Int)) (h3 : r1.toInt ≥ (q_i (τ1.1 (q_r (τ1.1 a0 1)) (Int32.ofInt (13)).toNatClampNeg)).toInt) :
    p_263 (a0) (a1) σ τ1 := by
  rintro rfl A K
  obtain ⟨f1, K1, x1⟩ := g1 rfl rfl A K
  have i13 := (K1.i (k := 13) (by omega)).trans (aU_ne (by omega))
  simp only [K1.q, kz13, i13, x1] at h3
  refine ⟨fun _ => ⟨f1, K1⟩, fun F hF e => ?_⟩
  unfold hVi
  dsimp only
  rw [if_neg (by omega)]
  exact ⟨f1, K1⟩
theorem sp_263_eft (a0 : Nat) (a1 : Int32) (σ : zSg) (τ1 : zSg) (r1 : Int32) (τ7 : zSg) (τ9 : zSg) (τ11 : zSg) (g1 : p_198 a0 (Int32.ofInt (100)) σ r1 τ1) (h2 : 0 ≤ (Int32.ofInt (13)).toInt ∧ (Int32.ofInt (13)).toInt < (τ1.2.1 (q_r (τ1.1 a0 1)) : Int)) (h3 : r1.toInt < (q_i (τ1.1 (q_r (τ1.1 a0 1)) (Int32.ofInt (13)).toNatClampNeg)).toInt) (h4 : a1.toInt ≠ (-1 : Int)) (h5 : 0 ≤ (Int32.ofInt (8)).toInt ∧ (Int32.ofInt (8)).toInt < (τ1.2.1 (q_r (τ1.1 a0 1)) : Int)) (h6 : 0 ≤ (Int32.ofInt (8)).toInt ∧ (Int32.ofInt (8)).toInt < (τ1.2.1 (q_r (τ1.1 a0 1)) : Int)) (ew7 : τ7 = q_w τ1 (q_r (τ1.1 a0 1)) (Int32.ofInt (8)).toNatClampNeg (.int (if ((q_i (τ1.1 (q_r (τ1.1 a0 1)) (Int32.ofInt (8)).toNatClampNeg)) + (Int32.ofInt (1))) < (Int32.ofInt (9)) then ((q_i (τ1.1 (q_r (τ1.1 a0 1)) (Int32.ofInt (8)).toNatClampNeg)) + (Int32.ofInt (1))) else (Int32.ofInt (9))))) (h8 : 0 ≤ (Int32.ofInt (9)).toInt ∧ (Int32.ofInt (9)).toInt < (τ7.2.1 (q_r (τ7.1 a0 1)) : Int)) (ew9 : τ9 = q_w τ7 (q_r (τ7.1 a0 1)) (Int32.ofInt (9)).toNatClampNeg (.int a1)) (h10 : 0 ≤ (Int32.ofInt (8)).toInt ∧ (Int32.ofInt (8)).toInt < (τ9.2.1 (q_r (τ9.1 a0 1)) : Int)) (g11 : p_262 a0 a1 (Int32.ofInt (0)) (q_i (τ9.1 (q_r (τ9.1 a0 1)) (Int32.ofInt (8)).toNatClampNeg)) τ9 τ11) :
    p_263 (a0) (a1) σ τ11 := by
  rintro rfl A K
  obtain ⟨f1, K1, x1⟩ := g1 rfl rfl A K
  have i13 := (K1.i (k := 13) (by omega)).trans (aU_ne (by omega))
  simp only [K1.q, kz13, i13, x1] at h3
  refine ⟨fun q => absurd (by rw [q]; rfl) h4, fun F hF e => ?_⟩
  subst e
  have i8 := (K1.i (k := 8) (by omega)).trans (aU_ne (by omega))
  simp only [K1.q, kz8', i8] at ew7
  have K2 := K1.ww (k := 8) (v := aMi (Int32.ofInt 9) (A 8 + Int32.ofInt 1))
  have f2 := f1.w (k := 8) (v := .int (aMi (Int32.ofInt 9) (A 8 + Int32.ofInt 1))) (by omega)
  have ew7 : τ7 = q_w τ1 206 8 (.int (aMi (Int32.ofInt 9) (A 8 + Int32.ofInt 1))) := ew7
  rw [← ew7] at K2 f2
  simp only [K2.q, kz9] at ew9
  have K3 := K2.ww (k := 9) (v := Int32.ofNat F)
  have f3 := f2.w (k := 9) (v := .int (Int32.ofNat F)) (by omega)
  rw [← ew9] at K3 f3
  have j8 := (K3.i (k := 8) (by omega)).trans ((aU_ne (by omega)).trans aU_at)
  simp only [K3.q, kz8', j8] at g11
  obtain ⟨f4, K4⟩ := g11 rfl _ K3
  rw [aU_ne (show 5 ≠ 9 by omega), aU_ne (show 5 ≠ 8 by omega), aU_ne (show 5 ≠ 15 by omega), aU_ne (show 4 ≠ 9 by omega), aU_ne (show 4 ≠ 8 by omega), aU_ne (show 4 ≠ 15 by omega)] at K4
  unfold hVi
  dsimp only
  rw [if_pos (by omega)]
  exact ⟨f3.tr f4, K4⟩
theorem sp_263_eff (a0 : Nat) (a1 : Int32) (σ : zSg) (τ1 : zSg) (r1 : Int32) (g1 : p_198 a0 (Int32.ofInt (100)) σ r1 τ1) (h2 : 0 ≤ (Int32.ofInt (13)).toInt ∧ (Int32.ofInt (13)).toInt < (τ1.2.1 (q_r (τ1.1 a0 1)) : Int)) (h3 : r1.toInt < (q_i (τ1.1 (q_r (τ1.1 a0 1)) (Int32.ofInt (13)).toNatClampNeg)).toInt) (h4 : a1.toInt = (-1 : Int)) :
    p_263 (a0) (a1) σ τ1 := by
  rintro rfl A K
  obtain ⟨f1, K1, x1⟩ := g1 rfl rfl A K
  have i13 := (K1.i (k := 13) (by omega)).trans (aU_ne (by omega))
  simp only [K1.q, kz13, i13, x1] at h3
  refine ⟨fun _ => ⟨f1, K1⟩, fun F hF e => ?_⟩
  rw [e, o32 (by omega)] at h4
  exact absurd h4 (by omega)
noncomputable def qP_263 : zPp := fun as σ o σ' => match as with
  | [a0, a1] => o = .inl none ∧ p_263 (q_r a0) (q_i a1) σ σ'
  | _ => True
set_option maxRecDepth 100000 in
theorem sp_263 {sx : zX} (S198 : zEe sx 198 2 qP_198) (S262 : zEe sx 262 4 qP_262) : zEe sx 263 2 qP_263 := by
  refine zfle zJ_263 (sps := [(198, 2, qP_198), (262, 4, qP_262)]) (fun q hq => by
    simp only [List.mem_cons, List.not_mem_nil, or_false] at hq
    rcases hq with rfl | rfl
    · exact S198
    · exact S262) (fun as σ hl => ?_)
  match as, hl with
  | [a0, a1], _ =>
  refine ⟨[], 400, ?_, ?_⟩
  · exact fun q hq => absurd hq List.not_mem_nil
  · refine fun o1 τ1 g1 => ?_
    obtain ⟨r1, rfl, g1⟩ := g1
    refine fun h2 => ?_
    refine And.intro (fun h3 => ?_) (fun h3 => ?_)
    · exact ⟨rfl, sp_263_et (q_r a0) (q_i a1) σ τ1 r1 g1 (q_inp h2) (cm3t h3)⟩
    · refine And.intro (fun h4 => ?_) (fun h4 => ?_)
      · refine fun h5 => ?_
        refine fun h6 => ?_
        refine fun h8 => ?_
        refine fun h10 => ?_
        refine fun o11 τ11 g11 => ?_
        obtain ⟨rfl, g11⟩ := g11
        exact ⟨rfl, sp_263_eft (q_r a0) (q_i a1) σ τ1 r1 _ _ τ11 g1 (q_inp h2) (cm3f h3) (cm1t h4) (q_inp h5) (q_inp h6) rfl (q_inp h8) rfl (q_inp h10) g11⟩
      · exact ⟨rfl, sp_263_eff (q_r a0) (q_i a1) σ τ1 r1 g1 (q_inp h2) (cm3f h3) (cm1f h4)⟩
theorem zJ_264 : zJ3 264 z_m264 z_c264 z_h264 := ⟨rfl, rfl, rfl⟩
noncomputable def p_264 (a : Nat) (f : Int32) (σ : zSg) (r : Int32) (σ' : zSg) : Prop := a = 205 → ∀ A nf nt F n Lo, rEv σ A nt Lo → aI nf nt A → f = Int32.ofNat F → F < nf → A 4 = Int32.ofNat n → n < 24 → rHF σ σ' ∧ rW σ' (hFi Lo nt A F n nt).1 ∧ r = Int32.ofNat (hFi Lo nt A F n nt).2
noncomputable def i_264 (a : Nat) (f : Int32) (σ : zSg) (l0 : Nat) (l1 l2 l3 : Int32) (τ : zSg) : Prop := l0 = a ∧ l1 = f ∧ (a = 205 → ∀ A nf nt F n Lo, rEv σ A nt Lo → aI nf nt A → f = Int32.ofNat F → F < nf → A 4 = Int32.ofNat n → n < 24 → rHF σ τ ∧ ∃ t, t ≤ nt ∧ l3 = Int32.ofNat t ∧ l2 = Int32.ofNat (hFi Lo nt A F n t).2 ∧ rW τ (hFi Lo nt A F n t).1)
theorem sp_264_e (a0 : Nat) (a1 : Int32) (σ : zSg)  :
    i_264 a0 a1 σ a0 a1 (Int32.ofInt (0)) (Int32.ofInt (0)) σ := by
  exact ⟨rfl, rfl, fun ea A nf nt F n Lo K I ef hF e4 hn => ⟨rHF.rf, 0, Nat.zero_le _, rfl, rfl, K.1⟩⟩
theorem sp_264_c4_t (a0 : Nat) (a1 : Int32) (σ : zSg) (l0 : Nat) (l1 : Int32) (l2 : Int32) (l3 : Int32) (τ : zSg) (τ1 : zSg) (r1 : Int32) (hI : i_264 a0 a1 σ l0 l1 l2 l3 τ) (g1 : p_185 l0 τ r1 τ1) (h2 : l3.toInt ≥ r1.toInt) :
    p_264 (a0) (a1) σ l2 τ1 := by
  obtain ⟨rfl, rfl, hI⟩ := hI
  rintro rfl A nf nt F n Lo K I rfl hF e4 hn
  obtain ⟨fr, t, ht, rfl, rfl, KB⟩ := hI rfl A nf nt F n Lo K I rfl hF e4 hn
  have c1 := I.1.2.1
  have c2 := I.1.2.2.2.1
  have hF6 : F < 6 := by omega
  have IB := I.fi (Lo := Lo) (n := n) hF6 t ht
  obtain ⟨rfl, g1⟩ := g1
  have x1 := (g1 rfl _ KB).trans IB.1.2.2.1
  rw [x1, o32 (by omega), o32 (by omega)] at h2
  have e : t = nt := by omega
  subst e
  exact ⟨fr, KB, rfl⟩
theorem sp_264_c4_ft (a0 : Nat) (a1 : Int32) (σ : zSg) (l0 : Nat) (l1 : Int32) (l2 : Int32) (l3 : Int32) (τ : zSg) (τ1 : zSg) (r1 : Int32) (τ3 : zSg) (r3 : Int32) (hI : i_264 a0 a1 σ l0 l1 l2 l3 τ) (g1 : p_185 l0 τ r1 τ1) (h2 : l3.toInt < r1.toInt) (g3 : p_193 l0 l3 (Int32.ofInt (0)) τ1 r3 τ3) (h4 : r3.toInt ≠ l1.toInt) :
    i_264 a0 a1 σ l0 l1 l2 (l3 + Int32.ofInt (1)) τ3 := by
  obtain ⟨rfl, rfl, hI⟩ := hI
  refine ⟨rfl, rfl, ?_⟩
  rintro rfl A nf nt F n Lo K I rfl hF e4 hn
  obtain ⟨fr, t, ht, rfl, rfl, KB⟩ := hI rfl A nf nt F n Lo K I rfl hF e4 hn
  have c1 := I.1.2.1
  have c2 := I.1.2.2.2.1
  have hF6 : F < 6 := by omega
  have IB := I.fi (Lo := Lo) (n := n) hF6 t ht
  obtain ⟨rfl, g1⟩ := g1
  have x1 := (g1 rfl _ KB).trans IB.1.2.2.1
  rw [x1, o32 (by omega), o32 (by omega)] at h2
  have t8 : t < 8 := by omega
  obtain ⟨rfl, g2⟩ := g3
  have x2 : r3 = (hFi Lo nt A F n t).1 (64 + 3 * t) := g2 rfl _ KB t 0 rfl t8 rfl (by omega)
  rw [x2] at h4
  have es : hFi Lo nt A F n (t + 1) = hFi Lo nt A F n t := by
    show (if _ then _ else _) = _
    rw [if_neg (fun q => h4 (by rw [q.1]))]
  refine ⟨fr, t + 1, by omega, o32i (by omega), by rw [es], by rw [es]; exact KB⟩
theorem sp_264_c4_fft (a0 : Nat) (a1 : Int32) (σ : zSg) (l0 : Nat) (l1 : Int32) (l2 : Int32) (l3 : Int32) (τ : zSg) (τ1 : zSg) (r1 : Int32) (τ3 : zSg) (r3 : Int32) (τ5 : zSg) (r5 : Int32) (τ7 : zSg) (r7 : Int32) (τ8 : zSg) (r8 : Int32) (τ9 : zSg) (r9 : Int32) (τ11 : zSg) (τ12 : zSg) (r12 : Int32) (τ14 : zSg) (τ15 : zSg) (hI : i_264 a0 a1 σ l0 l1 l2 l3 τ) (g1 : p_185 l0 τ r1 τ1) (h2 : l3.toInt < r1.toInt) (g3 : p_193 l0 l3 (Int32.ofInt (0)) τ1 r3 τ3) (h4 : r3.toInt = l1.toInt) (g5 : p_194 l0 l3 τ3 r5 τ5) (h6 : r5.toInt ≠ (0 : Int)) (g7 : p_241 l0 l3 τ5 r7 τ7) (g8 : p_189 l1 (Int32.ofInt (0)) τ7 r8 τ8) (g9 : p_190 l0 l1 (Int32.ofInt (0)) τ8 r9 τ9) (h10 : 0 ≤ r8.toInt ∧ r8.toInt < (τ9.2.1 (q_r (τ7.1 l0 1)) : Int)) (ew11 : τ11 = q_w τ9 (q_r (τ7.1 l0 1)) r8.toNatClampNeg (.int (if (Int32.ofInt (0)) < (r9 - r7) then (r9 - r7) else (Int32.ofInt (0))))) (g12 : p_192 l3 (Int32.ofInt (2)) τ11 r12 τ12) (h13 : 0 ≤ r12.toInt ∧ r12.toInt < (τ12.2.1 (q_r (τ11.1 l0 1)) : Int)) (ew14 : τ14 = q_w τ12 (q_r (τ11.1 l0 1)) r12.toNatClampNeg (.int (Int32.ofInt (0)))) (g15 : p_262 l0 l1 (Int32.ofInt (1)) r7 τ14 τ15) :
    i_264 a0 a1 σ l0 l1 (l2 + Int32.ofInt (1)) (l3 + Int32.ofInt (1)) τ15 := by
  obtain ⟨rfl, rfl, hI⟩ := hI
  refine ⟨rfl, rfl, ?_⟩
  rintro rfl A nf nt F n Lo K I rfl hF e4 hn
  obtain ⟨fr, t, ht, rfl, rfl, KB⟩ := hI rfl A nf nt F n Lo K I rfl hF e4 hn
  have c1 := I.1.2.1
  have c2 := I.1.2.2.2.1
  have hF6 : F < 6 := by omega
  have IB := I.fi (Lo := Lo) (n := n) hF6 t ht
  obtain ⟨rfl, g1⟩ := g1
  have x1 := (g1 rfl _ KB).trans IB.1.2.2.1
  rw [x1, o32 (by omega), o32 (by omega)] at h2
  have t8 : t < 8 := by omega
  obtain ⟨rfl, g2⟩ := g3
  have x2 : r3 = (hFi Lo nt A F n t).1 (64 + 3 * t) := g2 rfl _ KB t 0 rfl t8 rfl (by omega)
  rw [x2] at h4
  obtain ⟨rfl, g3⟩ := g5
  have x3 := g3 rfl _ KB t rfl t8
  rw [x3] at h6
  have hown : (hFi Lo nt A F n t).1 (64 + 3 * t) = Int32.ofNat F := Int32.toInt_inj.mp h4
  have hleft : (hFi Lo nt A F n t).1 (66 + 3 * t) = Int32.ofInt 1 := Decidable.byContradiction fun q => by rw [if_neg q] at h6; exact absurd rfl h6
  have es : hFi Lo nt A F n (t + 1) = (hF1 (hFi Lo nt A F n t).1 F t (hSm Lo nt (hFi Lo nt A F n t).1 F n t), (hFi Lo nt A F n t).2 + 1) := by
    show (if _ then _ else _) = _
    rw [if_pos ⟨hown, hleft⟩]
  have e4B : (hFi Lo nt A F n t).1 4 = Int32.ofNat n := (hFi_k (by omega) (by omega) (by omega) t (fun u hu => by omega)).trans e4
  have e3B : (hFi Lo nt A F n t).1 3 = A 3 := hFi_k (by omega) (by omega) (by omega) t (fun u hu => by omega)
  generalize hB : (hFi Lo nt A F n t).1 = B at *
  have KE := K.hr fr KB IB e3B
  obtain ⟨f4, x4⟩ := g7 rfl B nt Lo F n t KE rfl t8 hown hF6 e4B hn
  have x4 : r7 = hSm Lo nt B F n t := x4
  have K4 := KB.vf f4
  obtain ⟨rfl, e5⟩ := g8
  subst e5
  obtain ⟨rfl, g6⟩ := g9
  have x6 : r9 = B (40 + 4 * F) := g6 rfl _ K4 F 0 rfl hF6 rfl (by omega)
  simp only [K4.q, at4_0 hF6, x6, x4] at ew11
  have K5 := K4.ww (k := 40 + 4 * F) (v := aPy (B (40 + 4 * F)) (hSm Lo nt B F n t))
  have f5 := (fr.tr f4.h).w (k := 40 + 4 * F) (v := .int (aPy (B (40 + 4 * F)) (hSm Lo nt B F n t))) (by omega)
  rw [show Int32.ofInt 0 = Int32.ofInt (0) from rfl] at ew11
  have ew11 : τ11 = q_w τ9 206 (40 + 4 * F) (.int (aPy (B (40 + 4 * F)) (hSm Lo nt B F n t))) := ew11
  rw [← ew11] at K5 f5
  obtain ⟨rfl, e7⟩ := g12
  subst e7
  simp only [K5.q, at3_2 t8] at ew14
  have K6 := K5.ww (k := 66 + 3 * t) (v := Int32.ofInt 0)
  have f6 := f5.w (k := 66 + 3 * t) (v := .int (Int32.ofInt 0)) (by omega)
  rw [← ew14] at K6 f6
  obtain ⟨f7, K7⟩ := g15 rfl _ K6
  rw [aU_ne (show 5 ≠ 66 + 3 * t by omega), aU_ne (show 5 ≠ 40 + 4 * F by omega), aU_ne (show 4 ≠ 66 + 3 * t by omega), aU_ne (show 4 ≠ 40 + 4 * F by omega), x4] at K7
  refine ⟨f6.tr f7, t + 1, by omega, o32i (by omega), ?_, ?_⟩
  · rw [es]
    exact ixB _ 1
  · rw [es]
    exact K7
theorem sp_264_c4_fff (a0 : Nat) (a1 : Int32) (σ : zSg) (l0 : Nat) (l1 : Int32) (l2 : Int32) (l3 : Int32) (τ : zSg) (τ1 : zSg) (r1 : Int32) (τ3 : zSg) (r3 : Int32) (τ5 : zSg) (r5 : Int32) (hI : i_264 a0 a1 σ l0 l1 l2 l3 τ) (g1 : p_185 l0 τ r1 τ1) (h2 : l3.toInt < r1.toInt) (g3 : p_193 l0 l3 (Int32.ofInt (0)) τ1 r3 τ3) (h4 : r3.toInt = l1.toInt) (g5 : p_194 l0 l3 τ3 r5 τ5) (h6 : r5.toInt = (0 : Int)) :
    i_264 a0 a1 σ l0 l1 l2 (l3 + Int32.ofInt (1)) τ5 := by
  obtain ⟨rfl, rfl, hI⟩ := hI
  refine ⟨rfl, rfl, ?_⟩
  rintro rfl A nf nt F n Lo K I rfl hF e4 hn
  obtain ⟨fr, t, ht, rfl, rfl, KB⟩ := hI rfl A nf nt F n Lo K I rfl hF e4 hn
  have c1 := I.1.2.1
  have c2 := I.1.2.2.2.1
  have hF6 : F < 6 := by omega
  have IB := I.fi (Lo := Lo) (n := n) hF6 t ht
  obtain ⟨rfl, g1⟩ := g1
  have x1 := (g1 rfl _ KB).trans IB.1.2.2.1
  rw [x1, o32 (by omega), o32 (by omega)] at h2
  have t8 : t < 8 := by omega
  obtain ⟨rfl, g2⟩ := g3
  have x2 : r3 = (hFi Lo nt A F n t).1 (64 + 3 * t) := g2 rfl _ KB t 0 rfl t8 rfl (by omega)
  rw [x2] at h4
  obtain ⟨rfl, g3⟩ := g5
  have x3 := g3 rfl _ KB t rfl t8
  rw [x3] at h6
  have es : hFi Lo nt A F n (t + 1) = hFi Lo nt A F n t := by
    show (if _ then _ else _) = _
    rw [if_neg (fun q => by rw [if_pos q.2] at h6; exact absurd h6 (by decide))]
  refine ⟨fr, t + 1, by omega, o32i (by omega), by rw [es], by rw [es]; exact KB⟩
noncomputable def qP_264 : zPp := fun as σ o σ' => match as with
  | [a0, a1] => ∃ r, o = .inl (some (.int r)) ∧ p_264 (q_r a0) (q_i a1) σ r σ'
  | _ => True
set_option maxRecDepth 100000 in
theorem sp_264 {sx : zX} (S185 : zEe sx 185 1 qP_185) (S193 : zEe sx 193 3 qP_193) (S194 : zEe sx 194 2 qP_194) (S241 : zEe sx 241 2 qP_241) (S189 : zEe sx 189 2 qP_189) (S190 : zEe sx 190 3 qP_190) (S192 : zEe sx 192 2 qP_192) (S262 : zEe sx 262 4 qP_262) : zEe sx 264 2 qP_264 := by
  refine zfle zJ_264 (sps := [(185, 1, qP_185), (193, 3, qP_193), (194, 2, qP_194), (241, 2, qP_241), (189, 2, qP_189), (190, 3, qP_190), (192, 2, qP_192), (262, 4, qP_262)]) (fun q hq => by
    simp only [List.mem_cons, List.not_mem_nil, or_false] at hq
    rcases hq with rfl | rfl | rfl | rfl | rfl | rfl | rfl | rfl
    · exact S185
    · exact S193
    · exact S194
    · exact S241
    · exact S189
    · exact S190
    · exact S192
    · exact S262) (fun as σ hl => ?_)
  match as, hl with
  | [a0, a1], _ =>
  refine ⟨[(4, fun lo st τ => st = [] ∧ i_264 (q_r a0) (q_i a1) σ (q_r (lo 0)) (q_i (lo 1)) (q_i (lo 2)) (q_i (lo 3)) τ)], 400, ?_, ?_⟩
  · intro q hq
    simp only [List.mem_cons, List.not_mem_nil, or_false] at hq
    rcases hq with rfl
    · rintro lo st τ ⟨rfl, hI⟩
      refine ⟨400, ?_⟩
      refine fun o1 τ1 g1 => ?_
      obtain ⟨r1, rfl, g1⟩ := g1
      refine And.intro (fun h2 => ?_) (fun h2 => ?_)
      · exact ⟨_, rfl, sp_264_c4_t (q_r a0) (q_i a1) σ (q_r (lo 0)) (q_i (lo 1)) (q_i (lo 2)) (q_i (lo 3)) τ τ1 r1 hI g1 (cm3t h2)⟩
      · refine fun o3 τ3 g3 => ?_
        obtain ⟨r3, rfl, g3⟩ := g3
        refine And.intro (fun h4 => ?_) (fun h4 => ?_)
        · exact ⟨rfl, sp_264_c4_ft (q_r a0) (q_i a1) σ (q_r (lo 0)) (q_i (lo 1)) (q_i (lo 2)) (q_i (lo 3)) τ τ1 r1 τ3 r3 hI g1 (cm3f h2) g3 (cm1t h4)⟩
        · refine fun o5 τ5 g5 => ?_
          obtain ⟨r5, rfl, g5⟩ := g5
          refine And.intro (fun h6 => ?_) (fun h6 => ?_)
          · refine fun o7 τ7 g7 => ?_
            obtain ⟨r7, rfl, g7⟩ := g7
            refine fun o8 τ8 g8 => ?_
            obtain ⟨r8, rfl, g8⟩ := g8
            refine fun o9 τ9 g9 => ?_
            obtain ⟨r9, rfl, g9⟩ := g9
            refine fun h10 => ?_
            refine fun o12 τ12 g12 => ?_
            obtain ⟨r12, rfl, g12⟩ := g12
            refine fun h13 => ?_
            refine fun o15 τ15 g15 => ?_
            obtain ⟨rfl, g15⟩ := g15
            exact ⟨rfl, sp_264_c4_fft (q_r a0) (q_i a1) σ (q_r (lo 0)) (q_i (lo 1)) (q_i (lo 2)) (q_i (lo 3)) τ τ1 r1 τ3 r3 τ5 r5 τ7 r7 τ8 r8 τ9 r9 _ τ12 r12 _ τ15 hI g1 (cm3f h2) g3 (cm1f h4) g5 (cm1t h6) g7 g8 g9 (q_inp h10) rfl g12 (q_inp h13) rfl g15⟩
          · exact ⟨rfl, sp_264_c4_fff (q_r a0) (q_i a1) σ (q_r (lo 0)) (q_i (lo 1)) (q_i (lo 2)) (q_i (lo 3)) τ τ1 r1 τ3 r3 τ5 r5 hI g1 (cm3f h2) g3 (cm1f h4) g5 (cm1f h6)⟩
  · exact ⟨rfl, sp_264_e (q_r a0) (q_i a1) σ ⟩
theorem zJ_265 : zJ3 265 z_m265 z_c265 z_h265 := ⟨rfl, rfl, rfl⟩
noncomputable def p_265 (a : Nat) (v : Int32) (σ : zSg) (r : Int32) (σ' : zSg) : Prop := a = 205 → ∀ A nf nt Lo, rEv σ A nt Lo → aI nf nt A → (v.toInt = 0 → rHF σ σ' ∧ rW σ' (hHr Lo nt false A).1 ∧ r = Int32.ofNat (hHr Lo nt false A).2) ∧ (v.toInt ≠ 0 → rHF σ σ' ∧ rW σ' (hHr Lo nt true A).1 ∧ r = Int32.ofNat (hHr Lo nt true A).2)
theorem sp_265_etttt (a0 : Nat) (a1 : Int32) (σ : zSg) (τ1 : zSg) (r1 : Int32) (τ6 : zSg) (τ9 : zSg) (r9 : Int32) (τ11 : zSg) (g1 : p_188 a0 σ r1 τ1) (h2 : r1.toInt = (-1 : Int)) (h3 : 0 ≤ (Int32.ofInt (6)).toInt ∧ (Int32.ofInt (6)).toInt < (τ1.2.1 (q_r (τ1.1 a0 1)) : Int)) (h4 : 0 ≤ (Int32.ofInt (10)).toInt ∧ (Int32.ofInt (10)).toInt < (τ1.2.1 (q_r (τ1.1 a0 1)) : Int)) (h5 : 0 ≤ (Int32.ofInt (6)).toInt ∧ (Int32.ofInt (6)).toInt < (τ1.2.1 (q_r (τ1.1 a0 1)) : Int)) (ew6 : τ6 = q_w τ1 (q_r (τ1.1 a0 1)) (Int32.ofInt (6)).toNatClampNeg (.int (if (Int32.ofInt (0)) < ((q_i (τ1.1 (q_r (τ1.1 a0 1)) (Int32.ofInt (6)).toNatClampNeg)) - (q_i (τ1.1 (q_r (τ1.1 a0 1)) (Int32.ofInt (10)).toNatClampNeg))) then ((q_i (τ1.1 (q_r (τ1.1 a0 1)) (Int32.ofInt (6)).toNatClampNeg)) - (q_i (τ1.1 (q_r (τ1.1 a0 1)) (Int32.ofInt (10)).toNatClampNeg))) else (Int32.ofInt (0))))) (h7 : a1.toInt ≠ (0 : Int)) (h8 : 0 ≤ (Int32.ofInt (4)).toInt ∧ (Int32.ofInt (4)).toInt < (τ6.2.1 (q_r (τ6.1 a0 1)) : Int)) (g9 : p_187 (q_i (τ6.1 (q_r (τ6.1 a0 1)) (Int32.ofInt (4)).toNatClampNeg)) τ6 r9 τ9) (h10 : 0 ≤ (Int32.ofInt (4)).toInt ∧ (Int32.ofInt (4)).toInt < (τ9.2.1 (q_r (τ6.1 a0 1)) : Int)) (ew11 : τ11 = q_w τ9 (q_r (τ6.1 a0 1)) (Int32.ofInt (4)).toNatClampNeg (.int r9)) (h12 : 0 ≤ (Int32.ofInt (4)).toInt ∧ (Int32.ofInt (4)).toInt < (τ11.2.1 (q_r (τ11.1 a0 1)) : Int)) (h13 : (q_i (τ11.1 (q_r (τ11.1 a0 1)) (Int32.ofInt (4)).toNatClampNeg)).toInt ≠ (0 : Int)) (h14 : r1.toInt = (-1 : Int)) :
    p_265 (a0) (a1) σ (Int32.ofInt (0)) τ11 := by
  rintro rfl A nf nt Lo K I
  obtain ⟨hn, e4, hin⟩ := I.in
  have k6 := I.1.2.1
  have q1 : (Int32.ofInt (-1)).toInt = -1 := rfl
  obtain ⟨e1, g1⟩ := g1
  subst e1
  have x1 := g1 rfl A K.1 _ e4 hn
  have hA : A (16 + hN A) = Int32.ofInt (-1) := by rw [← x1]; exact Int32.toInt_inj.mp h2
  have hOn : hO (A (16 + hN A)) = none := by rw [hA]; exact hO_0
  have KM : rW τ1 (hWm Lo nt A (hN A) (hO (A (16 + hN A)))) := by rw [hOn]; exact K.1
  have fM : rHF τ1 τ1 := rHF.rf
  have y6' := KM.i (k := 6) (by omega)
  have y10 := KM.i (k := 10) (by omega)
  simp only [KM.q, kz6, kz10, y6', y10] at ew6
  have KC := KM.ww (k := 6) (v := aMa (Int32.ofInt 0) (hWm Lo nt A (hN A) (hO (A (16 + hN A))) 6 - hWm Lo nt A (hN A) (hO (A (16 + hN A))) 10))
  have fC := fM.w (k := 6) (v := .int (aMa (Int32.ofInt 0) (hWm Lo nt A (hN A) (hO (A (16 + hN A))) 6 - hWm Lo nt A (hN A) (hO (A (16 + hN A))) 10))) (by omega)
  have ew6 : τ6 = q_w τ1 206 6 (.int (aMa (Int32.ofInt 0) (hWm Lo nt A (hN A) (hO (A (16 + hN A))) 6 - hWm Lo nt A (hN A) (hO (A (16 + hN A))) 10))) := ew6
  rw [← ew6] at KC fC
  have KC : rW τ6 (hCd (hWm Lo nt A (hN A) (hO (A (16 + hN A))))) := KC
  have fV := fC
  have KV : rW τ6 (hMd Lo nt true A) := KC
  have e4m : hMd Lo nt true A 4 = Int32.ofNat (hN A) := (hMd_4 I (by omega)).trans e4
  have v4 := (KV.i (k := 4) (by omega)).trans e4m
  obtain ⟨e5, g5⟩ := g9
  have x5 : r9 = Int32.ofNat ((hN A + 1) % 24) := g5 (hN A) (by simp only [KV.q, kz4, v4]) hn
  subst e5
  simp only [KV.q, kz4, x5] at ew11
  have KT := KV.ww (k := 4) (v := Int32.ofNat ((hN A + 1) % 24))
  have fT := fV.w (k := 4) (v := .int (Int32.ofNat ((hN A + 1) % 24))) (by omega)
  rw [← ew11] at KT fT
  have v4' := (KT.i (k := 4) (by omega)).trans aU_at
  simp only [KT.q, kz4, v4'] at h13
  rw [o32 (by omega)] at h13
  have h23 : hN A ≠ 23 := by omega
  have fK := fT
  have KK : rW τ11 (hCk (hMd Lo nt true A) (hN A)) := by
    have e : hCk (hMd Lo nt true A) (hN A) = aU (hMd Lo nt true A) 4 (Int32.ofNat ((hN A + 1) % 24)) := by
      unfold hCk
      rw [if_neg h23, show (hN A + 1) % 24 = hN A + 1 by omega]
    rw [e]
    exact KT
  have IT := (I.md (Lo := Lo) (calm := true)).ck hn
  obtain ⟨hn', e4', -⟩ := IT.in
  refine ⟨fun vz => absurd vz h7, fun vz => ?_⟩
  have er : hHr Lo nt true A = (hCk (hMd Lo nt true A) (hN A), 0) := by
    unfold hHr hEd
    rw [if_pos (Or.inl hA)]
  rw [er]
  exact ⟨fK, KK, rfl⟩
theorem sp_265_etttft (a0 : Nat) (a1 : Int32) (σ : zSg) (τ1 : zSg) (r1 : Int32) (τ6 : zSg) (τ9 : zSg) (r9 : Int32) (τ11 : zSg) (τ15 : zSg) (r15 : Int32) (τ17 : zSg) (r17 : Int32) (g1 : p_188 a0 σ r1 τ1) (h2 : r1.toInt = (-1 : Int)) (h3 : 0 ≤ (Int32.ofInt (6)).toInt ∧ (Int32.ofInt (6)).toInt < (τ1.2.1 (q_r (τ1.1 a0 1)) : Int)) (h4 : 0 ≤ (Int32.ofInt (10)).toInt ∧ (Int32.ofInt (10)).toInt < (τ1.2.1 (q_r (τ1.1 a0 1)) : Int)) (h5 : 0 ≤ (Int32.ofInt (6)).toInt ∧ (Int32.ofInt (6)).toInt < (τ1.2.1 (q_r (τ1.1 a0 1)) : Int)) (ew6 : τ6 = q_w τ1 (q_r (τ1.1 a0 1)) (Int32.ofInt (6)).toNatClampNeg (.int (if (Int32.ofInt (0)) < ((q_i (τ1.1 (q_r (τ1.1 a0 1)) (Int32.ofInt (6)).toNatClampNeg)) - (q_i (τ1.1 (q_r (τ1.1 a0 1)) (Int32.ofInt (10)).toNatClampNeg))) then ((q_i (τ1.1 (q_r (τ1.1 a0 1)) (Int32.ofInt (6)).toNatClampNeg)) - (q_i (τ1.1 (q_r (τ1.1 a0 1)) (Int32.ofInt (10)).toNatClampNeg))) else (Int32.ofInt (0))))) (h7 : a1.toInt ≠ (0 : Int)) (h8 : 0 ≤ (Int32.ofInt (4)).toInt ∧ (Int32.ofInt (4)).toInt < (τ6.2.1 (q_r (τ6.1 a0 1)) : Int)) (g9 : p_187 (q_i (τ6.1 (q_r (τ6.1 a0 1)) (Int32.ofInt (4)).toNatClampNeg)) τ6 r9 τ9) (h10 : 0 ≤ (Int32.ofInt (4)).toInt ∧ (Int32.ofInt (4)).toInt < (τ9.2.1 (q_r (τ6.1 a0 1)) : Int)) (ew11 : τ11 = q_w τ9 (q_r (τ6.1 a0 1)) (Int32.ofInt (4)).toNatClampNeg (.int r9)) (h12 : 0 ≤ (Int32.ofInt (4)).toInt ∧ (Int32.ofInt (4)).toInt < (τ11.2.1 (q_r (τ11.1 a0 1)) : Int)) (h13 : (q_i (τ11.1 (q_r (τ11.1 a0 1)) (Int32.ofInt (4)).toNatClampNeg)).toInt ≠ (0 : Int)) (h14 : r1.toInt ≠ (-1 : Int)) (g15 : p_188 a0 τ11 r15 τ15) (h16 : r15.toInt ≠ r1.toInt) (g17 : p_264 a0 r1 τ15 r17 τ17) :
    p_265 (a0) (a1) σ r17 τ17 := by
  rintro rfl A nf nt Lo K I
  obtain ⟨hn, e4, hin⟩ := I.in
  have k6 := I.1.2.1
  have q1 : (Int32.ofInt (-1)).toInt = -1 := rfl
  obtain ⟨e1, g1⟩ := g1
  subst e1
  have x1 := g1 rfl A K.1 _ e4 hn
  exact absurd h2 h14
theorem sp_265_etttff (a0 : Nat) (a1 : Int32) (σ : zSg) (τ1 : zSg) (r1 : Int32) (τ6 : zSg) (τ9 : zSg) (r9 : Int32) (τ11 : zSg) (τ15 : zSg) (r15 : Int32) (g1 : p_188 a0 σ r1 τ1) (h2 : r1.toInt = (-1 : Int)) (h3 : 0 ≤ (Int32.ofInt (6)).toInt ∧ (Int32.ofInt (6)).toInt < (τ1.2.1 (q_r (τ1.1 a0 1)) : Int)) (h4 : 0 ≤ (Int32.ofInt (10)).toInt ∧ (Int32.ofInt (10)).toInt < (τ1.2.1 (q_r (τ1.1 a0 1)) : Int)) (h5 : 0 ≤ (Int32.ofInt (6)).toInt ∧ (Int32.ofInt (6)).toInt < (τ1.2.1 (q_r (τ1.1 a0 1)) : Int)) (ew6 : τ6 = q_w τ1 (q_r (τ1.1 a0 1)) (Int32.ofInt (6)).toNatClampNeg (.int (if (Int32.ofInt (0)) < ((q_i (τ1.1 (q_r (τ1.1 a0 1)) (Int32.ofInt (6)).toNatClampNeg)) - (q_i (τ1.1 (q_r (τ1.1 a0 1)) (Int32.ofInt (10)).toNatClampNeg))) then ((q_i (τ1.1 (q_r (τ1.1 a0 1)) (Int32.ofInt (6)).toNatClampNeg)) - (q_i (τ1.1 (q_r (τ1.1 a0 1)) (Int32.ofInt (10)).toNatClampNeg))) else (Int32.ofInt (0))))) (h7 : a1.toInt ≠ (0 : Int)) (h8 : 0 ≤ (Int32.ofInt (4)).toInt ∧ (Int32.ofInt (4)).toInt < (τ6.2.1 (q_r (τ6.1 a0 1)) : Int)) (g9 : p_187 (q_i (τ6.1 (q_r (τ6.1 a0 1)) (Int32.ofInt (4)).toNatClampNeg)) τ6 r9 τ9) (h10 : 0 ≤ (Int32.ofInt (4)).toInt ∧ (Int32.ofInt (4)).toInt < (τ9.2.1 (q_r (τ6.1 a0 1)) : Int)) (ew11 : τ11 = q_w τ9 (q_r (τ6.1 a0 1)) (Int32.ofInt (4)).toNatClampNeg (.int r9)) (h12 : 0 ≤ (Int32.ofInt (4)).toInt ∧ (Int32.ofInt (4)).toInt < (τ11.2.1 (q_r (τ11.1 a0 1)) : Int)) (h13 : (q_i (τ11.1 (q_r (τ11.1 a0 1)) (Int32.ofInt (4)).toNatClampNeg)).toInt ≠ (0 : Int)) (h14 : r1.toInt ≠ (-1 : Int)) (g15 : p_188 a0 τ11 r15 τ15) (h16 : r15.toInt = r1.toInt) :
    p_265 (a0) (a1) σ (Int32.ofInt (0)) τ15 := by
  rintro rfl A nf nt Lo K I
  obtain ⟨hn, e4, hin⟩ := I.in
  have k6 := I.1.2.1
  have q1 : (Int32.ofInt (-1)).toInt = -1 := rfl
  obtain ⟨e1, g1⟩ := g1
  subst e1
  have x1 := g1 rfl A K.1 _ e4 hn
  exact absurd h2 h14
theorem sp_265_ettft (a0 : Nat) (a1 : Int32) (σ : zSg) (τ1 : zSg) (r1 : Int32) (τ6 : zSg) (τ9 : zSg) (r9 : Int32) (τ11 : zSg) (τ20 : zSg) (g1 : p_188 a0 σ r1 τ1) (h2 : r1.toInt = (-1 : Int)) (h3 : 0 ≤ (Int32.ofInt (6)).toInt ∧ (Int32.ofInt (6)).toInt < (τ1.2.1 (q_r (τ1.1 a0 1)) : Int)) (h4 : 0 ≤ (Int32.ofInt (10)).toInt ∧ (Int32.ofInt (10)).toInt < (τ1.2.1 (q_r (τ1.1 a0 1)) : Int)) (h5 : 0 ≤ (Int32.ofInt (6)).toInt ∧ (Int32.ofInt (6)).toInt < (τ1.2.1 (q_r (τ1.1 a0 1)) : Int)) (ew6 : τ6 = q_w τ1 (q_r (τ1.1 a0 1)) (Int32.ofInt (6)).toNatClampNeg (.int (if (Int32.ofInt (0)) < ((q_i (τ1.1 (q_r (τ1.1 a0 1)) (Int32.ofInt (6)).toNatClampNeg)) - (q_i (τ1.1 (q_r (τ1.1 a0 1)) (Int32.ofInt (10)).toNatClampNeg))) then ((q_i (τ1.1 (q_r (τ1.1 a0 1)) (Int32.ofInt (6)).toNatClampNeg)) - (q_i (τ1.1 (q_r (τ1.1 a0 1)) (Int32.ofInt (10)).toNatClampNeg))) else (Int32.ofInt (0))))) (h7 : a1.toInt ≠ (0 : Int)) (h8 : 0 ≤ (Int32.ofInt (4)).toInt ∧ (Int32.ofInt (4)).toInt < (τ6.2.1 (q_r (τ6.1 a0 1)) : Int)) (g9 : p_187 (q_i (τ6.1 (q_r (τ6.1 a0 1)) (Int32.ofInt (4)).toNatClampNeg)) τ6 r9 τ9) (h10 : 0 ≤ (Int32.ofInt (4)).toInt ∧ (Int32.ofInt (4)).toInt < (τ9.2.1 (q_r (τ6.1 a0 1)) : Int)) (ew11 : τ11 = q_w τ9 (q_r (τ6.1 a0 1)) (Int32.ofInt (4)).toNatClampNeg (.int r9)) (h12 : 0 ≤ (Int32.ofInt (4)).toInt ∧ (Int32.ofInt (4)).toInt < (τ11.2.1 (q_r (τ11.1 a0 1)) : Int)) (h13 : (q_i (τ11.1 (q_r (τ11.1 a0 1)) (Int32.ofInt (4)).toNatClampNeg)).toInt = (0 : Int)) (h18 : 0 ≤ (Int32.ofInt (5)).toInt ∧ (Int32.ofInt (5)).toInt < (τ11.2.1 (q_r (τ11.1 a0 1)) : Int)) (h19 : 0 ≤ (Int32.ofInt (5)).toInt ∧ (Int32.ofInt (5)).toInt < (τ11.2.1 (q_r (τ11.1 a0 1)) : Int)) (ew20 : τ20 = q_w τ11 (q_r (τ11.1 a0 1)) (Int32.ofInt (5)).toNatClampNeg (.int (if ((q_i (τ11.1 (q_r (τ11.1 a0 1)) (Int32.ofInt (5)).toNatClampNeg)) + (Int32.ofInt (1))) < (Int32.ofInt (9999)) then ((q_i (τ11.1 (q_r (τ11.1 a0 1)) (Int32.ofInt (5)).toNatClampNeg)) + (Int32.ofInt (1))) else (Int32.ofInt (9999))))) (h21 : r1.toInt = (-1 : Int)) :
    p_265 (a0) (a1) σ (Int32.ofInt (0)) τ20 := by
  rintro rfl A nf nt Lo K I
  obtain ⟨hn, e4, hin⟩ := I.in
  have k6 := I.1.2.1
  have q1 : (Int32.ofInt (-1)).toInt = -1 := rfl
  obtain ⟨e1, g1⟩ := g1
  subst e1
  have x1 := g1 rfl A K.1 _ e4 hn
  have hA : A (16 + hN A) = Int32.ofInt (-1) := by rw [← x1]; exact Int32.toInt_inj.mp h2
  have hOn : hO (A (16 + hN A)) = none := by rw [hA]; exact hO_0
  have KM : rW τ1 (hWm Lo nt A (hN A) (hO (A (16 + hN A)))) := by rw [hOn]; exact K.1
  have fM : rHF τ1 τ1 := rHF.rf
  have y6' := KM.i (k := 6) (by omega)
  have y10 := KM.i (k := 10) (by omega)
  simp only [KM.q, kz6, kz10, y6', y10] at ew6
  have KC := KM.ww (k := 6) (v := aMa (Int32.ofInt 0) (hWm Lo nt A (hN A) (hO (A (16 + hN A))) 6 - hWm Lo nt A (hN A) (hO (A (16 + hN A))) 10))
  have fC := fM.w (k := 6) (v := .int (aMa (Int32.ofInt 0) (hWm Lo nt A (hN A) (hO (A (16 + hN A))) 6 - hWm Lo nt A (hN A) (hO (A (16 + hN A))) 10))) (by omega)
  have ew6 : τ6 = q_w τ1 206 6 (.int (aMa (Int32.ofInt 0) (hWm Lo nt A (hN A) (hO (A (16 + hN A))) 6 - hWm Lo nt A (hN A) (hO (A (16 + hN A))) 10))) := ew6
  rw [← ew6] at KC fC
  have KC : rW τ6 (hCd (hWm Lo nt A (hN A) (hO (A (16 + hN A))))) := KC
  have fV := fC
  have KV : rW τ6 (hMd Lo nt true A) := KC
  have e4m : hMd Lo nt true A 4 = Int32.ofNat (hN A) := (hMd_4 I (by omega)).trans e4
  have v4 := (KV.i (k := 4) (by omega)).trans e4m
  obtain ⟨e5, g5⟩ := g9
  have x5 : r9 = Int32.ofNat ((hN A + 1) % 24) := g5 (hN A) (by simp only [KV.q, kz4, v4]) hn
  subst e5
  simp only [KV.q, kz4, x5] at ew11
  have KT := KV.ww (k := 4) (v := Int32.ofNat ((hN A + 1) % 24))
  have fT := fV.w (k := 4) (v := .int (Int32.ofNat ((hN A + 1) % 24))) (by omega)
  rw [← ew11] at KT fT
  have v4' := (KT.i (k := 4) (by omega)).trans aU_at
  simp only [KT.q, kz4, v4'] at h13
  rw [o32 (by omega)] at h13
  have h23 : hN A = 23 := by omega
  have v5 := (KT.i (k := 5) (by omega)).trans (aU_ne (by omega))
  simp only [KT.q, kz5, v5] at ew20
  have KT2 := KT.ww (k := 5) (v := aMi (Int32.ofInt 9999) (hMd Lo nt true A 5 + Int32.ofInt 1))
  have fT2 := fT.w (k := 5) (v := .int (aMi (Int32.ofInt 9999) (hMd Lo nt true A 5 + Int32.ofInt 1))) (by omega)
  have ew20 : τ20 = q_w τ11 206 5 (.int (aMi (Int32.ofInt 9999) (hMd Lo nt true A 5 + Int32.ofInt 1))) := ew20
  rw [← ew20] at KT2 fT2
  have fK := fT2
  have KK : rW τ20 (hCk (hMd Lo nt true A) (hN A)) := by
    have e : hCk (hMd Lo nt true A) (hN A) = aU (aU (hMd Lo nt true A) 4 (Int32.ofNat ((hN A + 1) % 24))) 5 (aMi (Int32.ofInt 9999) (hMd Lo nt true A 5 + Int32.ofInt 1)) := by
      unfold hCk
      rw [if_pos h23, h23]
      rfl
    rw [e]
    exact KT2
  have IT := (I.md (Lo := Lo) (calm := true)).ck hn
  obtain ⟨hn', e4', -⟩ := IT.in
  refine ⟨fun vz => absurd vz h7, fun vz => ?_⟩
  have er : hHr Lo nt true A = (hCk (hMd Lo nt true A) (hN A), 0) := by
    unfold hHr hEd
    rw [if_pos (Or.inl hA)]
  rw [er]
  exact ⟨fK, KK, rfl⟩
theorem sp_265_ettfft (a0 : Nat) (a1 : Int32) (σ : zSg) (τ1 : zSg) (r1 : Int32) (τ6 : zSg) (τ9 : zSg) (r9 : Int32) (τ11 : zSg) (τ20 : zSg) (τ22 : zSg) (r22 : Int32) (τ24 : zSg) (r24 : Int32) (g1 : p_188 a0 σ r1 τ1) (h2 : r1.toInt = (-1 : Int)) (h3 : 0 ≤ (Int32.ofInt (6)).toInt ∧ (Int32.ofInt (6)).toInt < (τ1.2.1 (q_r (τ1.1 a0 1)) : Int)) (h4 : 0 ≤ (Int32.ofInt (10)).toInt ∧ (Int32.ofInt (10)).toInt < (τ1.2.1 (q_r (τ1.1 a0 1)) : Int)) (h5 : 0 ≤ (Int32.ofInt (6)).toInt ∧ (Int32.ofInt (6)).toInt < (τ1.2.1 (q_r (τ1.1 a0 1)) : Int)) (ew6 : τ6 = q_w τ1 (q_r (τ1.1 a0 1)) (Int32.ofInt (6)).toNatClampNeg (.int (if (Int32.ofInt (0)) < ((q_i (τ1.1 (q_r (τ1.1 a0 1)) (Int32.ofInt (6)).toNatClampNeg)) - (q_i (τ1.1 (q_r (τ1.1 a0 1)) (Int32.ofInt (10)).toNatClampNeg))) then ((q_i (τ1.1 (q_r (τ1.1 a0 1)) (Int32.ofInt (6)).toNatClampNeg)) - (q_i (τ1.1 (q_r (τ1.1 a0 1)) (Int32.ofInt (10)).toNatClampNeg))) else (Int32.ofInt (0))))) (h7 : a1.toInt ≠ (0 : Int)) (h8 : 0 ≤ (Int32.ofInt (4)).toInt ∧ (Int32.ofInt (4)).toInt < (τ6.2.1 (q_r (τ6.1 a0 1)) : Int)) (g9 : p_187 (q_i (τ6.1 (q_r (τ6.1 a0 1)) (Int32.ofInt (4)).toNatClampNeg)) τ6 r9 τ9) (h10 : 0 ≤ (Int32.ofInt (4)).toInt ∧ (Int32.ofInt (4)).toInt < (τ9.2.1 (q_r (τ6.1 a0 1)) : Int)) (ew11 : τ11 = q_w τ9 (q_r (τ6.1 a0 1)) (Int32.ofInt (4)).toNatClampNeg (.int r9)) (h12 : 0 ≤ (Int32.ofInt (4)).toInt ∧ (Int32.ofInt (4)).toInt < (τ11.2.1 (q_r (τ11.1 a0 1)) : Int)) (h13 : (q_i (τ11.1 (q_r (τ11.1 a0 1)) (Int32.ofInt (4)).toNatClampNeg)).toInt = (0 : Int)) (h18 : 0 ≤ (Int32.ofInt (5)).toInt ∧ (Int32.ofInt (5)).toInt < (τ11.2.1 (q_r (τ11.1 a0 1)) : Int)) (h19 : 0 ≤ (Int32.ofInt (5)).toInt ∧ (Int32.ofInt (5)).toInt < (τ11.2.1 (q_r (τ11.1 a0 1)) : Int)) (ew20 : τ20 = q_w τ11 (q_r (τ11.1 a0 1)) (Int32.ofInt (5)).toNatClampNeg (.int (if ((q_i (τ11.1 (q_r (τ11.1 a0 1)) (Int32.ofInt (5)).toNatClampNeg)) + (Int32.ofInt (1))) < (Int32.ofInt (9999)) then ((q_i (τ11.1 (q_r (τ11.1 a0 1)) (Int32.ofInt (5)).toNatClampNeg)) + (Int32.ofInt (1))) else (Int32.ofInt (9999))))) (h21 : r1.toInt ≠ (-1 : Int)) (g22 : p_188 a0 τ20 r22 τ22) (h23 : r22.toInt ≠ r1.toInt) (g24 : p_264 a0 r1 τ22 r24 τ24) :
    p_265 (a0) (a1) σ r24 τ24 := by
  rintro rfl A nf nt Lo K I
  obtain ⟨hn, e4, hin⟩ := I.in
  have k6 := I.1.2.1
  have q1 : (Int32.ofInt (-1)).toInt = -1 := rfl
  obtain ⟨e1, g1⟩ := g1
  subst e1
  have x1 := g1 rfl A K.1 _ e4 hn
  exact absurd h2 h21
theorem sp_265_ettfff (a0 : Nat) (a1 : Int32) (σ : zSg) (τ1 : zSg) (r1 : Int32) (τ6 : zSg) (τ9 : zSg) (r9 : Int32) (τ11 : zSg) (τ20 : zSg) (τ22 : zSg) (r22 : Int32) (g1 : p_188 a0 σ r1 τ1) (h2 : r1.toInt = (-1 : Int)) (h3 : 0 ≤ (Int32.ofInt (6)).toInt ∧ (Int32.ofInt (6)).toInt < (τ1.2.1 (q_r (τ1.1 a0 1)) : Int)) (h4 : 0 ≤ (Int32.ofInt (10)).toInt ∧ (Int32.ofInt (10)).toInt < (τ1.2.1 (q_r (τ1.1 a0 1)) : Int)) (h5 : 0 ≤ (Int32.ofInt (6)).toInt ∧ (Int32.ofInt (6)).toInt < (τ1.2.1 (q_r (τ1.1 a0 1)) : Int)) (ew6 : τ6 = q_w τ1 (q_r (τ1.1 a0 1)) (Int32.ofInt (6)).toNatClampNeg (.int (if (Int32.ofInt (0)) < ((q_i (τ1.1 (q_r (τ1.1 a0 1)) (Int32.ofInt (6)).toNatClampNeg)) - (q_i (τ1.1 (q_r (τ1.1 a0 1)) (Int32.ofInt (10)).toNatClampNeg))) then ((q_i (τ1.1 (q_r (τ1.1 a0 1)) (Int32.ofInt (6)).toNatClampNeg)) - (q_i (τ1.1 (q_r (τ1.1 a0 1)) (Int32.ofInt (10)).toNatClampNeg))) else (Int32.ofInt (0))))) (h7 : a1.toInt ≠ (0 : Int)) (h8 : 0 ≤ (Int32.ofInt (4)).toInt ∧ (Int32.ofInt (4)).toInt < (τ6.2.1 (q_r (τ6.1 a0 1)) : Int)) (g9 : p_187 (q_i (τ6.1 (q_r (τ6.1 a0 1)) (Int32.ofInt (4)).toNatClampNeg)) τ6 r9 τ9) (h10 : 0 ≤ (Int32.ofInt (4)).toInt ∧ (Int32.ofInt (4)).toInt < (τ9.2.1 (q_r (τ6.1 a0 1)) : Int)) (ew11 : τ11 = q_w τ9 (q_r (τ6.1 a0 1)) (Int32.ofInt (4)).toNatClampNeg (.int r9)) (h12 : 0 ≤ (Int32.ofInt (4)).toInt ∧ (Int32.ofInt (4)).toInt < (τ11.2.1 (q_r (τ11.1 a0 1)) : Int)) (h13 : (q_i (τ11.1 (q_r (τ11.1 a0 1)) (Int32.ofInt (4)).toNatClampNeg)).toInt = (0 : Int)) (h18 : 0 ≤ (Int32.ofInt (5)).toInt ∧ (Int32.ofInt (5)).toInt < (τ11.2.1 (q_r (τ11.1 a0 1)) : Int)) (h19 : 0 ≤ (Int32.ofInt (5)).toInt ∧ (Int32.ofInt (5)).toInt < (τ11.2.1 (q_r (τ11.1 a0 1)) : Int)) (ew20 : τ20 = q_w τ11 (q_r (τ11.1 a0 1)) (Int32.ofInt (5)).toNatClampNeg (.int (if ((q_i (τ11.1 (q_r (τ11.1 a0 1)) (Int32.ofInt (5)).toNatClampNeg)) + (Int32.ofInt (1))) < (Int32.ofInt (9999)) then ((q_i (τ11.1 (q_r (τ11.1 a0 1)) (Int32.ofInt (5)).toNatClampNeg)) + (Int32.ofInt (1))) else (Int32.ofInt (9999))))) (h21 : r1.toInt ≠ (-1 : Int)) (g22 : p_188 a0 τ20 r22 τ22) (h23 : r22.toInt = r1.toInt) :
    p_265 (a0) (a1) σ (Int32.ofInt (0)) τ22 := by
  rintro rfl A nf nt Lo K I
  obtain ⟨hn, e4, hin⟩ := I.in
  have k6 := I.1.2.1
  have q1 : (Int32.ofInt (-1)).toInt = -1 := rfl
  obtain ⟨e1, g1⟩ := g1
  subst e1
  have x1 := g1 rfl A K.1 _ e4 hn
  exact absurd h2 h21
theorem sp_265_etftt (a0 : Nat) (a1 : Int32) (σ : zSg) (τ1 : zSg) (r1 : Int32) (τ6 : zSg) (τ25 : zSg) (τ27 : zSg) (r27 : Int32) (τ29 : zSg) (g1 : p_188 a0 σ r1 τ1) (h2 : r1.toInt = (-1 : Int)) (h3 : 0 ≤ (Int32.ofInt (6)).toInt ∧ (Int32.ofInt (6)).toInt < (τ1.2.1 (q_r (τ1.1 a0 1)) : Int)) (h4 : 0 ≤ (Int32.ofInt (10)).toInt ∧ (Int32.ofInt (10)).toInt < (τ1.2.1 (q_r (τ1.1 a0 1)) : Int)) (h5 : 0 ≤ (Int32.ofInt (6)).toInt ∧ (Int32.ofInt (6)).toInt < (τ1.2.1 (q_r (τ1.1 a0 1)) : Int)) (ew6 : τ6 = q_w τ1 (q_r (τ1.1 a0 1)) (Int32.ofInt (6)).toNatClampNeg (.int (if (Int32.ofInt (0)) < ((q_i (τ1.1 (q_r (τ1.1 a0 1)) (Int32.ofInt (6)).toNatClampNeg)) - (q_i (τ1.1 (q_r (τ1.1 a0 1)) (Int32.ofInt (10)).toNatClampNeg))) then ((q_i (τ1.1 (q_r (τ1.1 a0 1)) (Int32.ofInt (6)).toNatClampNeg)) - (q_i (τ1.1 (q_r (τ1.1 a0 1)) (Int32.ofInt (10)).toNatClampNeg))) else (Int32.ofInt (0))))) (h7 : a1.toInt = (0 : Int)) (g25 : p_263 a0 r1 τ6 τ25) (h26 : 0 ≤ (Int32.ofInt (4)).toInt ∧ (Int32.ofInt (4)).toInt < (τ25.2.1 (q_r (τ25.1 a0 1)) : Int)) (g27 : p_187 (q_i (τ25.1 (q_r (τ25.1 a0 1)) (Int32.ofInt (4)).toNatClampNeg)) τ25 r27 τ27) (h28 : 0 ≤ (Int32.ofInt (4)).toInt ∧ (Int32.ofInt (4)).toInt < (τ27.2.1 (q_r (τ25.1 a0 1)) : Int)) (ew29 : τ29 = q_w τ27 (q_r (τ25.1 a0 1)) (Int32.ofInt (4)).toNatClampNeg (.int r27)) (h30 : 0 ≤ (Int32.ofInt (4)).toInt ∧ (Int32.ofInt (4)).toInt < (τ29.2.1 (q_r (τ29.1 a0 1)) : Int)) (h31 : (q_i (τ29.1 (q_r (τ29.1 a0 1)) (Int32.ofInt (4)).toNatClampNeg)).toInt ≠ (0 : Int)) (h32 : r1.toInt = (-1 : Int)) :
    p_265 (a0) (a1) σ (Int32.ofInt (0)) τ29 := by
  rintro rfl A nf nt Lo K I
  obtain ⟨hn, e4, hin⟩ := I.in
  have k6 := I.1.2.1
  have q1 : (Int32.ofInt (-1)).toInt = -1 := rfl
  obtain ⟨e1, g1⟩ := g1
  subst e1
  have x1 := g1 rfl A K.1 _ e4 hn
  have hA : A (16 + hN A) = Int32.ofInt (-1) := by rw [← x1]; exact Int32.toInt_inj.mp h2
  have hOn : hO (A (16 + hN A)) = none := by rw [hA]; exact hO_0
  have KM : rW τ1 (hWm Lo nt A (hN A) (hO (A (16 + hN A)))) := by rw [hOn]; exact K.1
  have fM : rHF τ1 τ1 := rHF.rf
  have y6' := KM.i (k := 6) (by omega)
  have y10 := KM.i (k := 10) (by omega)
  simp only [KM.q, kz6, kz10, y6', y10] at ew6
  have KC := KM.ww (k := 6) (v := aMa (Int32.ofInt 0) (hWm Lo nt A (hN A) (hO (A (16 + hN A))) 6 - hWm Lo nt A (hN A) (hO (A (16 + hN A))) 10))
  have fC := fM.w (k := 6) (v := .int (aMa (Int32.ofInt 0) (hWm Lo nt A (hN A) (hO (A (16 + hN A))) 6 - hWm Lo nt A (hN A) (hO (A (16 + hN A))) 10))) (by omega)
  have ew6 : τ6 = q_w τ1 206 6 (.int (aMa (Int32.ofInt 0) (hWm Lo nt A (hN A) (hO (A (16 + hN A))) 6 - hWm Lo nt A (hN A) (hO (A (16 + hN A))) 10))) := ew6
  rw [← ew6] at KC fC
  have KC : rW τ6 (hCd (hWm Lo nt A (hN A) (hO (A (16 + hN A))))) := KC
  have xm : r1 = Int32.ofInt (-1) := x1.trans hA
  obtain ⟨fV, KV⟩ := (g25 rfl _ KC).1 xm
  have fV := fC.tr fV
  have KV : rW τ25 (hMd Lo nt false A) := by
    show rW τ25 (hVi (hCd (hWm Lo nt A (hN A) (hO (A (16 + hN A))))) (hO (A (16 + hN A))))
    rw [show hO (A (16 + hN A)) = none from hOn] at KV ⊢
    exact KV
  have e4m : hMd Lo nt false A 4 = Int32.ofNat (hN A) := (hMd_4 I (by omega)).trans e4
  have v4 := (KV.i (k := 4) (by omega)).trans e4m
  obtain ⟨e5, g5⟩ := g27
  have x5 : r27 = Int32.ofNat ((hN A + 1) % 24) := g5 (hN A) (by simp only [KV.q, kz4, v4]) hn
  subst e5
  simp only [KV.q, kz4, x5] at ew29
  have KT := KV.ww (k := 4) (v := Int32.ofNat ((hN A + 1) % 24))
  have fT := fV.w (k := 4) (v := .int (Int32.ofNat ((hN A + 1) % 24))) (by omega)
  rw [← ew29] at KT fT
  have v4' := (KT.i (k := 4) (by omega)).trans aU_at
  simp only [KT.q, kz4, v4'] at h31
  rw [o32 (by omega)] at h31
  have h23 : hN A ≠ 23 := by omega
  have fK := fT
  have KK : rW τ29 (hCk (hMd Lo nt false A) (hN A)) := by
    have e : hCk (hMd Lo nt false A) (hN A) = aU (hMd Lo nt false A) 4 (Int32.ofNat ((hN A + 1) % 24)) := by
      unfold hCk
      rw [if_neg h23, show (hN A + 1) % 24 = hN A + 1 by omega]
    rw [e]
    exact KT
  have IT := (I.md (Lo := Lo) (calm := false)).ck hn
  obtain ⟨hn', e4', -⟩ := IT.in
  refine ⟨fun vz => ?_, fun vz => absurd h7 vz⟩
  have er : hHr Lo nt false A = (hCk (hMd Lo nt false A) (hN A), 0) := by
    unfold hHr hEd
    rw [if_pos (Or.inl hA)]
  rw [er]
  exact ⟨fK, KK, rfl⟩
theorem sp_265_etftft (a0 : Nat) (a1 : Int32) (σ : zSg) (τ1 : zSg) (r1 : Int32) (τ6 : zSg) (τ25 : zSg) (τ27 : zSg) (r27 : Int32) (τ29 : zSg) (τ33 : zSg) (r33 : Int32) (τ35 : zSg) (r35 : Int32) (g1 : p_188 a0 σ r1 τ1) (h2 : r1.toInt = (-1 : Int)) (h3 : 0 ≤ (Int32.ofInt (6)).toInt ∧ (Int32.ofInt (6)).toInt < (τ1.2.1 (q_r (τ1.1 a0 1)) : Int)) (h4 : 0 ≤ (Int32.ofInt (10)).toInt ∧ (Int32.ofInt (10)).toInt < (τ1.2.1 (q_r (τ1.1 a0 1)) : Int)) (h5 : 0 ≤ (Int32.ofInt (6)).toInt ∧ (Int32.ofInt (6)).toInt < (τ1.2.1 (q_r (τ1.1 a0 1)) : Int)) (ew6 : τ6 = q_w τ1 (q_r (τ1.1 a0 1)) (Int32.ofInt (6)).toNatClampNeg (.int (if (Int32.ofInt (0)) < ((q_i (τ1.1 (q_r (τ1.1 a0 1)) (Int32.ofInt (6)).toNatClampNeg)) - (q_i (τ1.1 (q_r (τ1.1 a0 1)) (Int32.ofInt (10)).toNatClampNeg))) then ((q_i (τ1.1 (q_r (τ1.1 a0 1)) (Int32.ofInt (6)).toNatClampNeg)) - (q_i (τ1.1 (q_r (τ1.1 a0 1)) (Int32.ofInt (10)).toNatClampNeg))) else (Int32.ofInt (0))))) (h7 : a1.toInt = (0 : Int)) (g25 : p_263 a0 r1 τ6 τ25) (h26 : 0 ≤ (Int32.ofInt (4)).toInt ∧ (Int32.ofInt (4)).toInt < (τ25.2.1 (q_r (τ25.1 a0 1)) : Int)) (g27 : p_187 (q_i (τ25.1 (q_r (τ25.1 a0 1)) (Int32.ofInt (4)).toNatClampNeg)) τ25 r27 τ27) (h28 : 0 ≤ (Int32.ofInt (4)).toInt ∧ (Int32.ofInt (4)).toInt < (τ27.2.1 (q_r (τ25.1 a0 1)) : Int)) (ew29 : τ29 = q_w τ27 (q_r (τ25.1 a0 1)) (Int32.ofInt (4)).toNatClampNeg (.int r27)) (h30 : 0 ≤ (Int32.ofInt (4)).toInt ∧ (Int32.ofInt (4)).toInt < (τ29.2.1 (q_r (τ29.1 a0 1)) : Int)) (h31 : (q_i (τ29.1 (q_r (τ29.1 a0 1)) (Int32.ofInt (4)).toNatClampNeg)).toInt ≠ (0 : Int)) (h32 : r1.toInt ≠ (-1 : Int)) (g33 : p_188 a0 τ29 r33 τ33) (h34 : r33.toInt ≠ r1.toInt) (g35 : p_264 a0 r1 τ33 r35 τ35) :
    p_265 (a0) (a1) σ r35 τ35 := by
  rintro rfl A nf nt Lo K I
  obtain ⟨hn, e4, hin⟩ := I.in
  have k6 := I.1.2.1
  have q1 : (Int32.ofInt (-1)).toInt = -1 := rfl
  obtain ⟨e1, g1⟩ := g1
  subst e1
  have x1 := g1 rfl A K.1 _ e4 hn
  exact absurd h2 h32
theorem sp_265_etftff (a0 : Nat) (a1 : Int32) (σ : zSg) (τ1 : zSg) (r1 : Int32) (τ6 : zSg) (τ25 : zSg) (τ27 : zSg) (r27 : Int32) (τ29 : zSg) (τ33 : zSg) (r33 : Int32) (g1 : p_188 a0 σ r1 τ1) (h2 : r1.toInt = (-1 : Int)) (h3 : 0 ≤ (Int32.ofInt (6)).toInt ∧ (Int32.ofInt (6)).toInt < (τ1.2.1 (q_r (τ1.1 a0 1)) : Int)) (h4 : 0 ≤ (Int32.ofInt (10)).toInt ∧ (Int32.ofInt (10)).toInt < (τ1.2.1 (q_r (τ1.1 a0 1)) : Int)) (h5 : 0 ≤ (Int32.ofInt (6)).toInt ∧ (Int32.ofInt (6)).toInt < (τ1.2.1 (q_r (τ1.1 a0 1)) : Int)) (ew6 : τ6 = q_w τ1 (q_r (τ1.1 a0 1)) (Int32.ofInt (6)).toNatClampNeg (.int (if (Int32.ofInt (0)) < ((q_i (τ1.1 (q_r (τ1.1 a0 1)) (Int32.ofInt (6)).toNatClampNeg)) - (q_i (τ1.1 (q_r (τ1.1 a0 1)) (Int32.ofInt (10)).toNatClampNeg))) then ((q_i (τ1.1 (q_r (τ1.1 a0 1)) (Int32.ofInt (6)).toNatClampNeg)) - (q_i (τ1.1 (q_r (τ1.1 a0 1)) (Int32.ofInt (10)).toNatClampNeg))) else (Int32.ofInt (0))))) (h7 : a1.toInt = (0 : Int)) (g25 : p_263 a0 r1 τ6 τ25) (h26 : 0 ≤ (Int32.ofInt (4)).toInt ∧ (Int32.ofInt (4)).toInt < (τ25.2.1 (q_r (τ25.1 a0 1)) : Int)) (g27 : p_187 (q_i (τ25.1 (q_r (τ25.1 a0 1)) (Int32.ofInt (4)).toNatClampNeg)) τ25 r27 τ27) (h28 : 0 ≤ (Int32.ofInt (4)).toInt ∧ (Int32.ofInt (4)).toInt < (τ27.2.1 (q_r (τ25.1 a0 1)) : Int)) (ew29 : τ29 = q_w τ27 (q_r (τ25.1 a0 1)) (Int32.ofInt (4)).toNatClampNeg (.int r27)) (h30 : 0 ≤ (Int32.ofInt (4)).toInt ∧ (Int32.ofInt (4)).toInt < (τ29.2.1 (q_r (τ29.1 a0 1)) : Int)) (h31 : (q_i (τ29.1 (q_r (τ29.1 a0 1)) (Int32.ofInt (4)).toNatClampNeg)).toInt ≠ (0 : Int)) (h32 : r1.toInt ≠ (-1 : Int)) (g33 : p_188 a0 τ29 r33 τ33) (h34 : r33.toInt = r1.toInt) :
    p_265 (a0) (a1) σ (Int32.ofInt (0)) τ33 := by
  rintro rfl A nf nt Lo K I
  obtain ⟨hn, e4, hin⟩ := I.in
  have k6 := I.1.2.1
  have q1 : (Int32.ofInt (-1)).toInt = -1 := rfl
  obtain ⟨e1, g1⟩ := g1
  subst e1
  have x1 := g1 rfl A K.1 _ e4 hn
  exact absurd h2 h32
theorem sp_265_etfft (a0 : Nat) (a1 : Int32) (σ : zSg) (τ1 : zSg) (r1 : Int32) (τ6 : zSg) (τ25 : zSg) (τ27 : zSg) (r27 : Int32) (τ29 : zSg) (τ38 : zSg) (g1 : p_188 a0 σ r1 τ1) (h2 : r1.toInt = (-1 : Int)) (h3 : 0 ≤ (Int32.ofInt (6)).toInt ∧ (Int32.ofInt (6)).toInt < (τ1.2.1 (q_r (τ1.1 a0 1)) : Int)) (h4 : 0 ≤ (Int32.ofInt (10)).toInt ∧ (Int32.ofInt (10)).toInt < (τ1.2.1 (q_r (τ1.1 a0 1)) : Int)) (h5 : 0 ≤ (Int32.ofInt (6)).toInt ∧ (Int32.ofInt (6)).toInt < (τ1.2.1 (q_r (τ1.1 a0 1)) : Int)) (ew6 : τ6 = q_w τ1 (q_r (τ1.1 a0 1)) (Int32.ofInt (6)).toNatClampNeg (.int (if (Int32.ofInt (0)) < ((q_i (τ1.1 (q_r (τ1.1 a0 1)) (Int32.ofInt (6)).toNatClampNeg)) - (q_i (τ1.1 (q_r (τ1.1 a0 1)) (Int32.ofInt (10)).toNatClampNeg))) then ((q_i (τ1.1 (q_r (τ1.1 a0 1)) (Int32.ofInt (6)).toNatClampNeg)) - (q_i (τ1.1 (q_r (τ1.1 a0 1)) (Int32.ofInt (10)).toNatClampNeg))) else (Int32.ofInt (0))))) (h7 : a1.toInt = (0 : Int)) (g25 : p_263 a0 r1 τ6 τ25) (h26 : 0 ≤ (Int32.ofInt (4)).toInt ∧ (Int32.ofInt (4)).toInt < (τ25.2.1 (q_r (τ25.1 a0 1)) : Int)) (g27 : p_187 (q_i (τ25.1 (q_r (τ25.1 a0 1)) (Int32.ofInt (4)).toNatClampNeg)) τ25 r27 τ27) (h28 : 0 ≤ (Int32.ofInt (4)).toInt ∧ (Int32.ofInt (4)).toInt < (τ27.2.1 (q_r (τ25.1 a0 1)) : Int)) (ew29 : τ29 = q_w τ27 (q_r (τ25.1 a0 1)) (Int32.ofInt (4)).toNatClampNeg (.int r27)) (h30 : 0 ≤ (Int32.ofInt (4)).toInt ∧ (Int32.ofInt (4)).toInt < (τ29.2.1 (q_r (τ29.1 a0 1)) : Int)) (h31 : (q_i (τ29.1 (q_r (τ29.1 a0 1)) (Int32.ofInt (4)).toNatClampNeg)).toInt = (0 : Int)) (h36 : 0 ≤ (Int32.ofInt (5)).toInt ∧ (Int32.ofInt (5)).toInt < (τ29.2.1 (q_r (τ29.1 a0 1)) : Int)) (h37 : 0 ≤ (Int32.ofInt (5)).toInt ∧ (Int32.ofInt (5)).toInt < (τ29.2.1 (q_r (τ29.1 a0 1)) : Int)) (ew38 : τ38 = q_w τ29 (q_r (τ29.1 a0 1)) (Int32.ofInt (5)).toNatClampNeg (.int (if ((q_i (τ29.1 (q_r (τ29.1 a0 1)) (Int32.ofInt (5)).toNatClampNeg)) + (Int32.ofInt (1))) < (Int32.ofInt (9999)) then ((q_i (τ29.1 (q_r (τ29.1 a0 1)) (Int32.ofInt (5)).toNatClampNeg)) + (Int32.ofInt (1))) else (Int32.ofInt (9999))))) (h39 : r1.toInt = (-1 : Int)) :
    p_265 (a0) (a1) σ (Int32.ofInt (0)) τ38 := by
  rintro rfl A nf nt Lo K I
  obtain ⟨hn, e4, hin⟩ := I.in
  have k6 := I.1.2.1
  have q1 : (Int32.ofInt (-1)).toInt = -1 := rfl
  obtain ⟨e1, g1⟩ := g1
  subst e1
  have x1 := g1 rfl A K.1 _ e4 hn
  have hA : A (16 + hN A) = Int32.ofInt (-1) := by rw [← x1]; exact Int32.toInt_inj.mp h2
  have hOn : hO (A (16 + hN A)) = none := by rw [hA]; exact hO_0
  have KM : rW τ1 (hWm Lo nt A (hN A) (hO (A (16 + hN A)))) := by rw [hOn]; exact K.1
  have fM : rHF τ1 τ1 := rHF.rf
  have y6' := KM.i (k := 6) (by omega)
  have y10 := KM.i (k := 10) (by omega)
  simp only [KM.q, kz6, kz10, y6', y10] at ew6
  have KC := KM.ww (k := 6) (v := aMa (Int32.ofInt 0) (hWm Lo nt A (hN A) (hO (A (16 + hN A))) 6 - hWm Lo nt A (hN A) (hO (A (16 + hN A))) 10))
  have fC := fM.w (k := 6) (v := .int (aMa (Int32.ofInt 0) (hWm Lo nt A (hN A) (hO (A (16 + hN A))) 6 - hWm Lo nt A (hN A) (hO (A (16 + hN A))) 10))) (by omega)
  have ew6 : τ6 = q_w τ1 206 6 (.int (aMa (Int32.ofInt 0) (hWm Lo nt A (hN A) (hO (A (16 + hN A))) 6 - hWm Lo nt A (hN A) (hO (A (16 + hN A))) 10))) := ew6
  rw [← ew6] at KC fC
  have KC : rW τ6 (hCd (hWm Lo nt A (hN A) (hO (A (16 + hN A))))) := KC
  have xm : r1 = Int32.ofInt (-1) := x1.trans hA
  obtain ⟨fV, KV⟩ := (g25 rfl _ KC).1 xm
  have fV := fC.tr fV
  have KV : rW τ25 (hMd Lo nt false A) := by
    show rW τ25 (hVi (hCd (hWm Lo nt A (hN A) (hO (A (16 + hN A))))) (hO (A (16 + hN A))))
    rw [show hO (A (16 + hN A)) = none from hOn] at KV ⊢
    exact KV
  have e4m : hMd Lo nt false A 4 = Int32.ofNat (hN A) := (hMd_4 I (by omega)).trans e4
  have v4 := (KV.i (k := 4) (by omega)).trans e4m
  obtain ⟨e5, g5⟩ := g27
  have x5 : r27 = Int32.ofNat ((hN A + 1) % 24) := g5 (hN A) (by simp only [KV.q, kz4, v4]) hn
  subst e5
  simp only [KV.q, kz4, x5] at ew29
  have KT := KV.ww (k := 4) (v := Int32.ofNat ((hN A + 1) % 24))
  have fT := fV.w (k := 4) (v := .int (Int32.ofNat ((hN A + 1) % 24))) (by omega)
  rw [← ew29] at KT fT
  have v4' := (KT.i (k := 4) (by omega)).trans aU_at
  simp only [KT.q, kz4, v4'] at h31
  rw [o32 (by omega)] at h31
  have h23 : hN A = 23 := by omega
  have v5 := (KT.i (k := 5) (by omega)).trans (aU_ne (by omega))
  simp only [KT.q, kz5, v5] at ew38
  have KT2 := KT.ww (k := 5) (v := aMi (Int32.ofInt 9999) (hMd Lo nt false A 5 + Int32.ofInt 1))
  have fT2 := fT.w (k := 5) (v := .int (aMi (Int32.ofInt 9999) (hMd Lo nt false A 5 + Int32.ofInt 1))) (by omega)
  have ew38 : τ38 = q_w τ29 206 5 (.int (aMi (Int32.ofInt 9999) (hMd Lo nt false A 5 + Int32.ofInt 1))) := ew38
  rw [← ew38] at KT2 fT2
  have fK := fT2
  have KK : rW τ38 (hCk (hMd Lo nt false A) (hN A)) := by
    have e : hCk (hMd Lo nt false A) (hN A) = aU (aU (hMd Lo nt false A) 4 (Int32.ofNat ((hN A + 1) % 24))) 5 (aMi (Int32.ofInt 9999) (hMd Lo nt false A 5 + Int32.ofInt 1)) := by
      unfold hCk
      rw [if_pos h23, h23]
      rfl
    rw [e]
    exact KT2
  have IT := (I.md (Lo := Lo) (calm := false)).ck hn
  obtain ⟨hn', e4', -⟩ := IT.in
  refine ⟨fun vz => ?_, fun vz => absurd h7 vz⟩
  have er : hHr Lo nt false A = (hCk (hMd Lo nt false A) (hN A), 0) := by
    unfold hHr hEd
    rw [if_pos (Or.inl hA)]
  rw [er]
  exact ⟨fK, KK, rfl⟩
theorem sp_265_etffft (a0 : Nat) (a1 : Int32) (σ : zSg) (τ1 : zSg) (r1 : Int32) (τ6 : zSg) (τ25 : zSg) (τ27 : zSg) (r27 : Int32) (τ29 : zSg) (τ38 : zSg) (τ40 : zSg) (r40 : Int32) (τ42 : zSg) (r42 : Int32) (g1 : p_188 a0 σ r1 τ1) (h2 : r1.toInt = (-1 : Int)) (h3 : 0 ≤ (Int32.ofInt (6)).toInt ∧ (Int32.ofInt (6)).toInt < (τ1.2.1 (q_r (τ1.1 a0 1)) : Int)) (h4 : 0 ≤ (Int32.ofInt (10)).toInt ∧ (Int32.ofInt (10)).toInt < (τ1.2.1 (q_r (τ1.1 a0 1)) : Int)) (h5 : 0 ≤ (Int32.ofInt (6)).toInt ∧ (Int32.ofInt (6)).toInt < (τ1.2.1 (q_r (τ1.1 a0 1)) : Int)) (ew6 : τ6 = q_w τ1 (q_r (τ1.1 a0 1)) (Int32.ofInt (6)).toNatClampNeg (.int (if (Int32.ofInt (0)) < ((q_i (τ1.1 (q_r (τ1.1 a0 1)) (Int32.ofInt (6)).toNatClampNeg)) - (q_i (τ1.1 (q_r (τ1.1 a0 1)) (Int32.ofInt (10)).toNatClampNeg))) then ((q_i (τ1.1 (q_r (τ1.1 a0 1)) (Int32.ofInt (6)).toNatClampNeg)) - (q_i (τ1.1 (q_r (τ1.1 a0 1)) (Int32.ofInt (10)).toNatClampNeg))) else (Int32.ofInt (0))))) (h7 : a1.toInt = (0 : Int)) (g25 : p_263 a0 r1 τ6 τ25) (h26 : 0 ≤ (Int32.ofInt (4)).toInt ∧ (Int32.ofInt (4)).toInt < (τ25.2.1 (q_r (τ25.1 a0 1)) : Int)) (g27 : p_187 (q_i (τ25.1 (q_r (τ25.1 a0 1)) (Int32.ofInt (4)).toNatClampNeg)) τ25 r27 τ27) (h28 : 0 ≤ (Int32.ofInt (4)).toInt ∧ (Int32.ofInt (4)).toInt < (τ27.2.1 (q_r (τ25.1 a0 1)) : Int)) (ew29 : τ29 = q_w τ27 (q_r (τ25.1 a0 1)) (Int32.ofInt (4)).toNatClampNeg (.int r27)) (h30 : 0 ≤ (Int32.ofInt (4)).toInt ∧ (Int32.ofInt (4)).toInt < (τ29.2.1 (q_r (τ29.1 a0 1)) : Int)) (h31 : (q_i (τ29.1 (q_r (τ29.1 a0 1)) (Int32.ofInt (4)).toNatClampNeg)).toInt = (0 : Int)) (h36 : 0 ≤ (Int32.ofInt (5)).toInt ∧ (Int32.ofInt (5)).toInt < (τ29.2.1 (q_r (τ29.1 a0 1)) : Int)) (h37 : 0 ≤ (Int32.ofInt (5)).toInt ∧ (Int32.ofInt (5)).toInt < (τ29.2.1 (q_r (τ29.1 a0 1)) : Int)) (ew38 : τ38 = q_w τ29 (q_r (τ29.1 a0 1)) (Int32.ofInt (5)).toNatClampNeg (.int (if ((q_i (τ29.1 (q_r (τ29.1 a0 1)) (Int32.ofInt (5)).toNatClampNeg)) + (Int32.ofInt (1))) < (Int32.ofInt (9999)) then ((q_i (τ29.1 (q_r (τ29.1 a0 1)) (Int32.ofInt (5)).toNatClampNeg)) + (Int32.ofInt (1))) else (Int32.ofInt (9999))))) (h39 : r1.toInt ≠ (-1 : Int)) (g40 : p_188 a0 τ38 r40 τ40) (h41 : r40.toInt ≠ r1.toInt) (g42 : p_264 a0 r1 τ40 r42 τ42) :
    p_265 (a0) (a1) σ r42 τ42 := by
  rintro rfl A nf nt Lo K I
  obtain ⟨hn, e4, hin⟩ := I.in
  have k6 := I.1.2.1
  have q1 : (Int32.ofInt (-1)).toInt = -1 := rfl
  obtain ⟨e1, g1⟩ := g1
  subst e1
  have x1 := g1 rfl A K.1 _ e4 hn
  exact absurd h2 h39
theorem sp_265_etffff (a0 : Nat) (a1 : Int32) (σ : zSg) (τ1 : zSg) (r1 : Int32) (τ6 : zSg) (τ25 : zSg) (τ27 : zSg) (r27 : Int32) (τ29 : zSg) (τ38 : zSg) (τ40 : zSg) (r40 : Int32) (g1 : p_188 a0 σ r1 τ1) (h2 : r1.toInt = (-1 : Int)) (h3 : 0 ≤ (Int32.ofInt (6)).toInt ∧ (Int32.ofInt (6)).toInt < (τ1.2.1 (q_r (τ1.1 a0 1)) : Int)) (h4 : 0 ≤ (Int32.ofInt (10)).toInt ∧ (Int32.ofInt (10)).toInt < (τ1.2.1 (q_r (τ1.1 a0 1)) : Int)) (h5 : 0 ≤ (Int32.ofInt (6)).toInt ∧ (Int32.ofInt (6)).toInt < (τ1.2.1 (q_r (τ1.1 a0 1)) : Int)) (ew6 : τ6 = q_w τ1 (q_r (τ1.1 a0 1)) (Int32.ofInt (6)).toNatClampNeg (.int (if (Int32.ofInt (0)) < ((q_i (τ1.1 (q_r (τ1.1 a0 1)) (Int32.ofInt (6)).toNatClampNeg)) - (q_i (τ1.1 (q_r (τ1.1 a0 1)) (Int32.ofInt (10)).toNatClampNeg))) then ((q_i (τ1.1 (q_r (τ1.1 a0 1)) (Int32.ofInt (6)).toNatClampNeg)) - (q_i (τ1.1 (q_r (τ1.1 a0 1)) (Int32.ofInt (10)).toNatClampNeg))) else (Int32.ofInt (0))))) (h7 : a1.toInt = (0 : Int)) (g25 : p_263 a0 r1 τ6 τ25) (h26 : 0 ≤ (Int32.ofInt (4)).toInt ∧ (Int32.ofInt (4)).toInt < (τ25.2.1 (q_r (τ25.1 a0 1)) : Int)) (g27 : p_187 (q_i (τ25.1 (q_r (τ25.1 a0 1)) (Int32.ofInt (4)).toNatClampNeg)) τ25 r27 τ27) (h28 : 0 ≤ (Int32.ofInt (4)).toInt ∧ (Int32.ofInt (4)).toInt < (τ27.2.1 (q_r (τ25.1 a0 1)) : Int)) (ew29 : τ29 = q_w τ27 (q_r (τ25.1 a0 1)) (Int32.ofInt (4)).toNatClampNeg (.int r27)) (h30 : 0 ≤ (Int32.ofInt (4)).toInt ∧ (Int32.ofInt (4)).toInt < (τ29.2.1 (q_r (τ29.1 a0 1)) : Int)) (h31 : (q_i (τ29.1 (q_r (τ29.1 a0 1)) (Int32.ofInt (4)).toNatClampNeg)).toInt = (0 : Int)) (h36 : 0 ≤ (Int32.ofInt (5)).toInt ∧ (Int32.ofInt (5)).toInt < (τ29.2.1 (q_r (τ29.1 a0 1)) : Int)) (h37 : 0 ≤ (Int32.ofInt (5)).toInt ∧ (Int32.ofInt (5)).toInt < (τ29.2.1 (q_r (τ29.1 a0 1)) : Int)) (ew38 : τ38 = q_w τ29 (q_r (τ29.1 a0 1)) (Int32.ofInt (5)).toNatClampNeg (.int (if ((q_i (τ29.1 (q_r (τ29.1 a0 1)) (Int32.ofInt (5)).toNatClampNeg)) + (Int32.ofInt (1))) < (Int32.ofInt (9999)) then ((q_i (τ29.1 (q_r (τ29.1 a0 1)) (Int32.ofInt (5)).toNatClampNeg)) + (Int32.ofInt (1))) else (Int32.ofInt (9999))))) (h39 : r1.toInt ≠ (-1 : Int)) (g40 : p_188 a0 τ38 r40 τ40) (h41 : r40.toInt = r1.toInt) :
    p_265 (a0) (a1) σ (Int32.ofInt (0)) τ40 := by
  rintro rfl A nf nt Lo K I
  obtain ⟨hn, e4, hin⟩ := I.in
  have k6 := I.1.2.1
  have q1 : (Int32.ofInt (-1)).toInt = -1 := rfl
  obtain ⟨e1, g1⟩ := g1
  subst e1
  have x1 := g1 rfl A K.1 _ e4 hn
  exact absurd h2 h39
theorem sp_265_efttt (a0 : Nat) (a1 : Int32) (σ : zSg) (τ1 : zSg) (r1 : Int32) (τ44 : zSg) (r44 : Int32) (τ46 : zSg) (r46 : Int32) (τ49 : zSg) (τ52 : zSg) (τ56 : zSg) (τ59 : zSg) (r59 : Int32) (τ61 : zSg) (g1 : p_188 a0 σ r1 τ1) (h2 : r1.toInt ≠ (-1 : Int)) (h43 : 0 ≤ (Int32.ofInt (4)).toInt ∧ (Int32.ofInt (4)).toInt < (τ1.2.1 (q_r (τ1.1 a0 1)) : Int)) (g44 : p_239 a0 r1 (q_i (τ1.1 (q_r (τ1.1 a0 1)) (Int32.ofInt (4)).toNatClampNeg)) τ1 r44 τ44) (h45 : 0 ≤ (Int32.ofInt (4)).toInt ∧ (Int32.ofInt (4)).toInt < (τ44.2.1 (q_r (τ44.1 a0 1)) : Int)) (g46 : p_240 a0 r1 (q_i (τ44.1 (q_r (τ44.1 a0 1)) (Int32.ofInt (4)).toNatClampNeg)) τ44 r46 τ46) (h47 : 0 ≤ (Int32.ofInt (6)).toInt ∧ (Int32.ofInt (6)).toInt < (τ46.2.1 (q_r (τ46.1 a0 1)) : Int)) (h48 : 0 ≤ (Int32.ofInt (6)).toInt ∧ (Int32.ofInt (6)).toInt < (τ46.2.1 (q_r (τ46.1 a0 1)) : Int)) (ew49 : τ49 = q_w τ46 (q_r (τ46.1 a0 1)) (Int32.ofInt (6)).toNatClampNeg (.int (if ((q_i (τ46.1 (q_r (τ46.1 a0 1)) (Int32.ofInt (6)).toNatClampNeg)) + r44) < (Int32.ofInt (99)) then ((q_i (τ46.1 (q_r (τ46.1 a0 1)) (Int32.ofInt (6)).toNatClampNeg)) + r44) else (Int32.ofInt (99))))) (h50 : 0 ≤ (Int32.ofInt (7)).toInt ∧ (Int32.ofInt (7)).toInt < (τ49.2.1 (q_r (τ49.1 a0 1)) : Int)) (h51 : 0 ≤ (Int32.ofInt (7)).toInt ∧ (Int32.ofInt (7)).toInt < (τ49.2.1 (q_r (τ49.1 a0 1)) : Int)) (ew52 : τ52 = q_w τ49 (q_r (τ49.1 a0 1)) (Int32.ofInt (7)).toNatClampNeg (.int (if ((q_i (τ49.1 (q_r (τ49.1 a0 1)) (Int32.ofInt (7)).toNatClampNeg)) + r46) < (Int32.ofInt (99)) then ((q_i (τ49.1 (q_r (τ49.1 a0 1)) (Int32.ofInt (7)).toNatClampNeg)) + r46) else (Int32.ofInt (99))))) (h53 : 0 ≤ (Int32.ofInt (6)).toInt ∧ (Int32.ofInt (6)).toInt < (τ52.2.1 (q_r (τ52.1 a0 1)) : Int)) (h54 : 0 ≤ (Int32.ofInt (10)).toInt ∧ (Int32.ofInt (10)).toInt < (τ52.2.1 (q_r (τ52.1 a0 1)) : Int)) (h55 : 0 ≤ (Int32.ofInt (6)).toInt ∧ (Int32.ofInt (6)).toInt < (τ52.2.1 (q_r (τ52.1 a0 1)) : Int)) (ew56 : τ56 = q_w τ52 (q_r (τ52.1 a0 1)) (Int32.ofInt (6)).toNatClampNeg (.int (if (Int32.ofInt (0)) < ((q_i (τ52.1 (q_r (τ52.1 a0 1)) (Int32.ofInt (6)).toNatClampNeg)) - (q_i (τ52.1 (q_r (τ52.1 a0 1)) (Int32.ofInt (10)).toNatClampNeg))) then ((q_i (τ52.1 (q_r (τ52.1 a0 1)) (Int32.ofInt (6)).toNatClampNeg)) - (q_i (τ52.1 (q_r (τ52.1 a0 1)) (Int32.ofInt (10)).toNatClampNeg))) else (Int32.ofInt (0))))) (h57 : a1.toInt ≠ (0 : Int)) (h58 : 0 ≤ (Int32.ofInt (4)).toInt ∧ (Int32.ofInt (4)).toInt < (τ56.2.1 (q_r (τ56.1 a0 1)) : Int)) (g59 : p_187 (q_i (τ56.1 (q_r (τ56.1 a0 1)) (Int32.ofInt (4)).toNatClampNeg)) τ56 r59 τ59) (h60 : 0 ≤ (Int32.ofInt (4)).toInt ∧ (Int32.ofInt (4)).toInt < (τ59.2.1 (q_r (τ56.1 a0 1)) : Int)) (ew61 : τ61 = q_w τ59 (q_r (τ56.1 a0 1)) (Int32.ofInt (4)).toNatClampNeg (.int r59)) (h62 : 0 ≤ (Int32.ofInt (4)).toInt ∧ (Int32.ofInt (4)).toInt < (τ61.2.1 (q_r (τ61.1 a0 1)) : Int)) (h63 : (q_i (τ61.1 (q_r (τ61.1 a0 1)) (Int32.ofInt (4)).toNatClampNeg)).toInt ≠ (0 : Int)) (h64 : r1.toInt = (-1 : Int)) :
    p_265 (a0) (a1) σ (Int32.ofInt (0)) τ61 := by
  rintro rfl A nf nt Lo K I
  obtain ⟨hn, e4, hin⟩ := I.in
  have k6 := I.1.2.1
  have q1 : (Int32.ofInt (-1)).toInt = -1 := rfl
  obtain ⟨e1, g1⟩ := g1
  subst e1
  have x1 := g1 rfl A K.1 _ e4 hn
  exact absurd h64 h2
theorem sp_265_efttft (a0 : Nat) (a1 : Int32) (σ : zSg) (τ1 : zSg) (r1 : Int32) (τ44 : zSg) (r44 : Int32) (τ46 : zSg) (r46 : Int32) (τ49 : zSg) (τ52 : zSg) (τ56 : zSg) (τ59 : zSg) (r59 : Int32) (τ61 : zSg) (τ65 : zSg) (r65 : Int32) (τ67 : zSg) (r67 : Int32) (g1 : p_188 a0 σ r1 τ1) (h2 : r1.toInt ≠ (-1 : Int)) (h43 : 0 ≤ (Int32.ofInt (4)).toInt ∧ (Int32.ofInt (4)).toInt < (τ1.2.1 (q_r (τ1.1 a0 1)) : Int)) (g44 : p_239 a0 r1 (q_i (τ1.1 (q_r (τ1.1 a0 1)) (Int32.ofInt (4)).toNatClampNeg)) τ1 r44 τ44) (h45 : 0 ≤ (Int32.ofInt (4)).toInt ∧ (Int32.ofInt (4)).toInt < (τ44.2.1 (q_r (τ44.1 a0 1)) : Int)) (g46 : p_240 a0 r1 (q_i (τ44.1 (q_r (τ44.1 a0 1)) (Int32.ofInt (4)).toNatClampNeg)) τ44 r46 τ46) (h47 : 0 ≤ (Int32.ofInt (6)).toInt ∧ (Int32.ofInt (6)).toInt < (τ46.2.1 (q_r (τ46.1 a0 1)) : Int)) (h48 : 0 ≤ (Int32.ofInt (6)).toInt ∧ (Int32.ofInt (6)).toInt < (τ46.2.1 (q_r (τ46.1 a0 1)) : Int)) (ew49 : τ49 = q_w τ46 (q_r (τ46.1 a0 1)) (Int32.ofInt (6)).toNatClampNeg (.int (if ((q_i (τ46.1 (q_r (τ46.1 a0 1)) (Int32.ofInt (6)).toNatClampNeg)) + r44) < (Int32.ofInt (99)) then ((q_i (τ46.1 (q_r (τ46.1 a0 1)) (Int32.ofInt (6)).toNatClampNeg)) + r44) else (Int32.ofInt (99))))) (h50 : 0 ≤ (Int32.ofInt (7)).toInt ∧ (Int32.ofInt (7)).toInt < (τ49.2.1 (q_r (τ49.1 a0 1)) : Int)) (h51 : 0 ≤ (Int32.ofInt (7)).toInt ∧ (Int32.ofInt (7)).toInt < (τ49.2.1 (q_r (τ49.1 a0 1)) : Int)) (ew52 : τ52 = q_w τ49 (q_r (τ49.1 a0 1)) (Int32.ofInt (7)).toNatClampNeg (.int (if ((q_i (τ49.1 (q_r (τ49.1 a0 1)) (Int32.ofInt (7)).toNatClampNeg)) + r46) < (Int32.ofInt (99)) then ((q_i (τ49.1 (q_r (τ49.1 a0 1)) (Int32.ofInt (7)).toNatClampNeg)) + r46) else (Int32.ofInt (99))))) (h53 : 0 ≤ (Int32.ofInt (6)).toInt ∧ (Int32.ofInt (6)).toInt < (τ52.2.1 (q_r (τ52.1 a0 1)) : Int)) (h54 : 0 ≤ (Int32.ofInt (10)).toInt ∧ (Int32.ofInt (10)).toInt < (τ52.2.1 (q_r (τ52.1 a0 1)) : Int)) (h55 : 0 ≤ (Int32.ofInt (6)).toInt ∧ (Int32.ofInt (6)).toInt < (τ52.2.1 (q_r (τ52.1 a0 1)) : Int)) (ew56 : τ56 = q_w τ52 (q_r (τ52.1 a0 1)) (Int32.ofInt (6)).toNatClampNeg (.int (if (Int32.ofInt (0)) < ((q_i (τ52.1 (q_r (τ52.1 a0 1)) (Int32.ofInt (6)).toNatClampNeg)) - (q_i (τ52.1 (q_r (τ52.1 a0 1)) (Int32.ofInt (10)).toNatClampNeg))) then ((q_i (τ52.1 (q_r (τ52.1 a0 1)) (Int32.ofInt (6)).toNatClampNeg)) - (q_i (τ52.1 (q_r (τ52.1 a0 1)) (Int32.ofInt (10)).toNatClampNeg))) else (Int32.ofInt (0))))) (h57 : a1.toInt ≠ (0 : Int)) (h58 : 0 ≤ (Int32.ofInt (4)).toInt ∧ (Int32.ofInt (4)).toInt < (τ56.2.1 (q_r (τ56.1 a0 1)) : Int)) (g59 : p_187 (q_i (τ56.1 (q_r (τ56.1 a0 1)) (Int32.ofInt (4)).toNatClampNeg)) τ56 r59 τ59) (h60 : 0 ≤ (Int32.ofInt (4)).toInt ∧ (Int32.ofInt (4)).toInt < (τ59.2.1 (q_r (τ56.1 a0 1)) : Int)) (ew61 : τ61 = q_w τ59 (q_r (τ56.1 a0 1)) (Int32.ofInt (4)).toNatClampNeg (.int r59)) (h62 : 0 ≤ (Int32.ofInt (4)).toInt ∧ (Int32.ofInt (4)).toInt < (τ61.2.1 (q_r (τ61.1 a0 1)) : Int)) (h63 : (q_i (τ61.1 (q_r (τ61.1 a0 1)) (Int32.ofInt (4)).toNatClampNeg)).toInt ≠ (0 : Int)) (h64 : r1.toInt ≠ (-1 : Int)) (g65 : p_188 a0 τ61 r65 τ65) (h66 : r65.toInt ≠ r1.toInt) (g67 : p_264 a0 r1 τ65 r67 τ67) :
    p_265 (a0) (a1) σ r67 τ67 := by
  rintro rfl A nf nt Lo K I
  obtain ⟨hn, e4, hin⟩ := I.in
  have k6 := I.1.2.1
  have q1 : (Int32.ofInt (-1)).toInt = -1 := rfl
  obtain ⟨e1, g1⟩ := g1
  subst e1
  have x1 := g1 rfl A K.1 _ e4 hn
  rcases hin with ⟨hA, -⟩ | ⟨F, hF, hA, hOn⟩
  · exact absurd (by rw [x1, hA]; rfl) h2
  have x1 := x1.trans hA
  subst x1
  have w4 := (K.1.i (k := 4) (by omega)).trans e4
  simp only [K.1.q, kz4, w4] at g44
  obtain ⟨f2, x2⟩ := g44 rfl A nt Lo F (hN A) K rfl (by omega) rfl hn
  have K2 := K.fr f2
  have w4' := (K2.1.i (k := 4) (by omega)).trans e4
  simp only [K2.1.q, kz4, w4'] at g46
  obtain ⟨f3, x3⟩ := g46 rfl A nt Lo F (hN A) K2 rfl (by omega) rfl hn
  have K3 := K2.fr f3
  have y6 := K3.1.i (k := 6) (by omega)
  simp only [K3.1.q, kz6, y6, x2] at ew49
  have K4 := K3.1.ww (k := 6) (v := aMi (Int32.ofInt 99) (A 6 + (A (42 + 4 * F) + eSm Lo (eFa A nt F (hN A)) 0)))
  have f4 := (f2.h.tr f3.h).w (k := 6) (v := .int (aMi (Int32.ofInt 99) (A 6 + (A (42 + 4 * F) + eSm Lo (eFa A nt F (hN A)) 0)))) (by omega)
  have ew49 : τ49 = q_w τ46 206 6 (.int (aMi (Int32.ofInt 99) (A 6 + (A (42 + 4 * F) + eSm Lo (eFa A nt F (hN A)) 0)))) := ew49
  rw [← ew49] at K4 f4
  have y7 := (K4.i (k := 7) (by omega)).trans (aU_ne (by omega))
  simp only [K4.q, kz7, y7, x3] at ew52
  have K5 := K4.ww (k := 7) (v := aMi (Int32.ofInt 99) (A 7 + (A (41 + 4 * F) + eSm Lo (eFa A nt F (hN A)) 1)))
  have f5 := f4.w (k := 7) (v := .int (aMi (Int32.ofInt 99) (A 7 + (A (41 + 4 * F) + eSm Lo (eFa A nt F (hN A)) 1)))) (by omega)
  have ew52 : τ52 = q_w τ49 206 7 (.int (aMi (Int32.ofInt 99) (A 7 + (A (41 + 4 * F) + eSm Lo (eFa A nt F (hN A)) 1)))) := ew52
  rw [← ew52] at K5 f5
  have KM : rW τ52 (hWm Lo nt A (hN A) (hO (A (16 + hN A)))) := by rw [hOn]; exact K5
  have fM := f5
  have y6' := KM.i (k := 6) (by omega)
  have y10 := KM.i (k := 10) (by omega)
  simp only [KM.q, kz6, kz10, y6', y10] at ew56
  have KC := KM.ww (k := 6) (v := aMa (Int32.ofInt 0) (hWm Lo nt A (hN A) (hO (A (16 + hN A))) 6 - hWm Lo nt A (hN A) (hO (A (16 + hN A))) 10))
  have fC := fM.w (k := 6) (v := .int (aMa (Int32.ofInt 0) (hWm Lo nt A (hN A) (hO (A (16 + hN A))) 6 - hWm Lo nt A (hN A) (hO (A (16 + hN A))) 10))) (by omega)
  have ew56 : τ56 = q_w τ52 206 6 (.int (aMa (Int32.ofInt 0) (hWm Lo nt A (hN A) (hO (A (16 + hN A))) 6 - hWm Lo nt A (hN A) (hO (A (16 + hN A))) 10))) := ew56
  rw [← ew56] at KC fC
  have KC : rW τ56 (hCd (hWm Lo nt A (hN A) (hO (A (16 + hN A))))) := KC
  have fV := fC
  have KV : rW τ56 (hMd Lo nt true A) := KC
  have e4m : hMd Lo nt true A 4 = Int32.ofNat (hN A) := (hMd_4 I (by omega)).trans e4
  have v4 := (KV.i (k := 4) (by omega)).trans e4m
  obtain ⟨e5, g5⟩ := g59
  have x5 : r59 = Int32.ofNat ((hN A + 1) % 24) := g5 (hN A) (by simp only [KV.q, kz4, v4]) hn
  subst e5
  simp only [KV.q, kz4, x5] at ew61
  have KT := KV.ww (k := 4) (v := Int32.ofNat ((hN A + 1) % 24))
  have fT := fV.w (k := 4) (v := .int (Int32.ofNat ((hN A + 1) % 24))) (by omega)
  rw [← ew61] at KT fT
  have v4' := (KT.i (k := 4) (by omega)).trans aU_at
  simp only [KT.q, kz4, v4'] at h63
  rw [o32 (by omega)] at h63
  have h23 : hN A ≠ 23 := by omega
  have fK := fT
  have KK : rW τ61 (hCk (hMd Lo nt true A) (hN A)) := by
    have e : hCk (hMd Lo nt true A) (hN A) = aU (hMd Lo nt true A) 4 (Int32.ofNat ((hN A + 1) % 24)) := by
      unfold hCk
      rw [if_neg h23, show (hN A + 1) % 24 = hN A + 1 by omega]
    rw [e]
    exact KT
  have IT := (I.md (Lo := Lo) (calm := true)).ck hn
  obtain ⟨hn', e4', -⟩ := IT.in
  obtain ⟨e9, g9⟩ := g65
  subst e9
  have x9 := g9 rfl _ KK _ e4' hn'
  rw [x9] at h66
  refine ⟨fun vz => absurd vz h57, fun vz => ?_⟩
  have er : hHr Lo nt true A = hFi Lo nt (hCk (hMd Lo nt true A) (hN A)) F (hN (hCk (hMd Lo nt true A) (hN A))) nt := by
    unfold hHr hEd
    rw [if_neg, hA, o32n (by omega)]
    rintro (q | q)
    · rw [hA] at q
      have := congrArg Int32.toInt q
      rw [o32 (by omega), q1] at this
      omega
    · rw [hA] at q
      exact h66 (by rw [q])
  rw [er]
  have e3 : hCk (hMd Lo nt true A) (hN A) 3 = A 3 := (hCk_k (by omega) (by omega)).trans (hMd_4 I (by omega))
  obtain ⟨fF, KF, xF⟩ := g67 rfl _ nf nt F _ Lo (K.hr fK KK IT e3) IT rfl hF e4' hn'
  exact ⟨fK.tr fF, KF, xF⟩
theorem sp_265_efttff (a0 : Nat) (a1 : Int32) (σ : zSg) (τ1 : zSg) (r1 : Int32) (τ44 : zSg) (r44 : Int32) (τ46 : zSg) (r46 : Int32) (τ49 : zSg) (τ52 : zSg) (τ56 : zSg) (τ59 : zSg) (r59 : Int32) (τ61 : zSg) (τ65 : zSg) (r65 : Int32) (g1 : p_188 a0 σ r1 τ1) (h2 : r1.toInt ≠ (-1 : Int)) (h43 : 0 ≤ (Int32.ofInt (4)).toInt ∧ (Int32.ofInt (4)).toInt < (τ1.2.1 (q_r (τ1.1 a0 1)) : Int)) (g44 : p_239 a0 r1 (q_i (τ1.1 (q_r (τ1.1 a0 1)) (Int32.ofInt (4)).toNatClampNeg)) τ1 r44 τ44) (h45 : 0 ≤ (Int32.ofInt (4)).toInt ∧ (Int32.ofInt (4)).toInt < (τ44.2.1 (q_r (τ44.1 a0 1)) : Int)) (g46 : p_240 a0 r1 (q_i (τ44.1 (q_r (τ44.1 a0 1)) (Int32.ofInt (4)).toNatClampNeg)) τ44 r46 τ46) (h47 : 0 ≤ (Int32.ofInt (6)).toInt ∧ (Int32.ofInt (6)).toInt < (τ46.2.1 (q_r (τ46.1 a0 1)) : Int)) (h48 : 0 ≤ (Int32.ofInt (6)).toInt ∧ (Int32.ofInt (6)).toInt < (τ46.2.1 (q_r (τ46.1 a0 1)) : Int)) (ew49 : τ49 = q_w τ46 (q_r (τ46.1 a0 1)) (Int32.ofInt (6)).toNatClampNeg (.int (if ((q_i (τ46.1 (q_r (τ46.1 a0 1)) (Int32.ofInt (6)).toNatClampNeg)) + r44) < (Int32.ofInt (99)) then ((q_i (τ46.1 (q_r (τ46.1 a0 1)) (Int32.ofInt (6)).toNatClampNeg)) + r44) else (Int32.ofInt (99))))) (h50 : 0 ≤ (Int32.ofInt (7)).toInt ∧ (Int32.ofInt (7)).toInt < (τ49.2.1 (q_r (τ49.1 a0 1)) : Int)) (h51 : 0 ≤ (Int32.ofInt (7)).toInt ∧ (Int32.ofInt (7)).toInt < (τ49.2.1 (q_r (τ49.1 a0 1)) : Int)) (ew52 : τ52 = q_w τ49 (q_r (τ49.1 a0 1)) (Int32.ofInt (7)).toNatClampNeg (.int (if ((q_i (τ49.1 (q_r (τ49.1 a0 1)) (Int32.ofInt (7)).toNatClampNeg)) + r46) < (Int32.ofInt (99)) then ((q_i (τ49.1 (q_r (τ49.1 a0 1)) (Int32.ofInt (7)).toNatClampNeg)) + r46) else (Int32.ofInt (99))))) (h53 : 0 ≤ (Int32.ofInt (6)).toInt ∧ (Int32.ofInt (6)).toInt < (τ52.2.1 (q_r (τ52.1 a0 1)) : Int)) (h54 : 0 ≤ (Int32.ofInt (10)).toInt ∧ (Int32.ofInt (10)).toInt < (τ52.2.1 (q_r (τ52.1 a0 1)) : Int)) (h55 : 0 ≤ (Int32.ofInt (6)).toInt ∧ (Int32.ofInt (6)).toInt < (τ52.2.1 (q_r (τ52.1 a0 1)) : Int)) (ew56 : τ56 = q_w τ52 (q_r (τ52.1 a0 1)) (Int32.ofInt (6)).toNatClampNeg (.int (if (Int32.ofInt (0)) < ((q_i (τ52.1 (q_r (τ52.1 a0 1)) (Int32.ofInt (6)).toNatClampNeg)) - (q_i (τ52.1 (q_r (τ52.1 a0 1)) (Int32.ofInt (10)).toNatClampNeg))) then ((q_i (τ52.1 (q_r (τ52.1 a0 1)) (Int32.ofInt (6)).toNatClampNeg)) - (q_i (τ52.1 (q_r (τ52.1 a0 1)) (Int32.ofInt (10)).toNatClampNeg))) else (Int32.ofInt (0))))) (h57 : a1.toInt ≠ (0 : Int)) (h58 : 0 ≤ (Int32.ofInt (4)).toInt ∧ (Int32.ofInt (4)).toInt < (τ56.2.1 (q_r (τ56.1 a0 1)) : Int)) (g59 : p_187 (q_i (τ56.1 (q_r (τ56.1 a0 1)) (Int32.ofInt (4)).toNatClampNeg)) τ56 r59 τ59) (h60 : 0 ≤ (Int32.ofInt (4)).toInt ∧ (Int32.ofInt (4)).toInt < (τ59.2.1 (q_r (τ56.1 a0 1)) : Int)) (ew61 : τ61 = q_w τ59 (q_r (τ56.1 a0 1)) (Int32.ofInt (4)).toNatClampNeg (.int r59)) (h62 : 0 ≤ (Int32.ofInt (4)).toInt ∧ (Int32.ofInt (4)).toInt < (τ61.2.1 (q_r (τ61.1 a0 1)) : Int)) (h63 : (q_i (τ61.1 (q_r (τ61.1 a0 1)) (Int32.ofInt (4)).toNatClampNeg)).toInt ≠ (0 : Int)) (h64 : r1.toInt ≠ (-1 : Int)) (g65 : p_188 a0 τ61 r65 τ65) (h66 : r65.toInt = r1.toInt) :
    p_265 (a0) (a1) σ (Int32.ofInt (0)) τ65 := by
  rintro rfl A nf nt Lo K I
  obtain ⟨hn, e4, hin⟩ := I.in
  have k6 := I.1.2.1
  have q1 : (Int32.ofInt (-1)).toInt = -1 := rfl
  obtain ⟨e1, g1⟩ := g1
  subst e1
  have x1 := g1 rfl A K.1 _ e4 hn
  rcases hin with ⟨hA, -⟩ | ⟨F, hF, hA, hOn⟩
  · exact absurd (by rw [x1, hA]; rfl) h2
  have x1 := x1.trans hA
  subst x1
  have w4 := (K.1.i (k := 4) (by omega)).trans e4
  simp only [K.1.q, kz4, w4] at g44
  obtain ⟨f2, x2⟩ := g44 rfl A nt Lo F (hN A) K rfl (by omega) rfl hn
  have K2 := K.fr f2
  have w4' := (K2.1.i (k := 4) (by omega)).trans e4
  simp only [K2.1.q, kz4, w4'] at g46
  obtain ⟨f3, x3⟩ := g46 rfl A nt Lo F (hN A) K2 rfl (by omega) rfl hn
  have K3 := K2.fr f3
  have y6 := K3.1.i (k := 6) (by omega)
  simp only [K3.1.q, kz6, y6, x2] at ew49
  have K4 := K3.1.ww (k := 6) (v := aMi (Int32.ofInt 99) (A 6 + (A (42 + 4 * F) + eSm Lo (eFa A nt F (hN A)) 0)))
  have f4 := (f2.h.tr f3.h).w (k := 6) (v := .int (aMi (Int32.ofInt 99) (A 6 + (A (42 + 4 * F) + eSm Lo (eFa A nt F (hN A)) 0)))) (by omega)
  have ew49 : τ49 = q_w τ46 206 6 (.int (aMi (Int32.ofInt 99) (A 6 + (A (42 + 4 * F) + eSm Lo (eFa A nt F (hN A)) 0)))) := ew49
  rw [← ew49] at K4 f4
  have y7 := (K4.i (k := 7) (by omega)).trans (aU_ne (by omega))
  simp only [K4.q, kz7, y7, x3] at ew52
  have K5 := K4.ww (k := 7) (v := aMi (Int32.ofInt 99) (A 7 + (A (41 + 4 * F) + eSm Lo (eFa A nt F (hN A)) 1)))
  have f5 := f4.w (k := 7) (v := .int (aMi (Int32.ofInt 99) (A 7 + (A (41 + 4 * F) + eSm Lo (eFa A nt F (hN A)) 1)))) (by omega)
  have ew52 : τ52 = q_w τ49 206 7 (.int (aMi (Int32.ofInt 99) (A 7 + (A (41 + 4 * F) + eSm Lo (eFa A nt F (hN A)) 1)))) := ew52
  rw [← ew52] at K5 f5
  have KM : rW τ52 (hWm Lo nt A (hN A) (hO (A (16 + hN A)))) := by rw [hOn]; exact K5
  have fM := f5
  have y6' := KM.i (k := 6) (by omega)
  have y10 := KM.i (k := 10) (by omega)
  simp only [KM.q, kz6, kz10, y6', y10] at ew56
  have KC := KM.ww (k := 6) (v := aMa (Int32.ofInt 0) (hWm Lo nt A (hN A) (hO (A (16 + hN A))) 6 - hWm Lo nt A (hN A) (hO (A (16 + hN A))) 10))
  have fC := fM.w (k := 6) (v := .int (aMa (Int32.ofInt 0) (hWm Lo nt A (hN A) (hO (A (16 + hN A))) 6 - hWm Lo nt A (hN A) (hO (A (16 + hN A))) 10))) (by omega)
  have ew56 : τ56 = q_w τ52 206 6 (.int (aMa (Int32.ofInt 0) (hWm Lo nt A (hN A) (hO (A (16 + hN A))) 6 - hWm Lo nt A (hN A) (hO (A (16 + hN A))) 10))) := ew56
  rw [← ew56] at KC fC
  have KC : rW τ56 (hCd (hWm Lo nt A (hN A) (hO (A (16 + hN A))))) := KC
  have fV := fC
  have KV : rW τ56 (hMd Lo nt true A) := KC
  have e4m : hMd Lo nt true A 4 = Int32.ofNat (hN A) := (hMd_4 I (by omega)).trans e4
  have v4 := (KV.i (k := 4) (by omega)).trans e4m
  obtain ⟨e5, g5⟩ := g59
  have x5 : r59 = Int32.ofNat ((hN A + 1) % 24) := g5 (hN A) (by simp only [KV.q, kz4, v4]) hn
  subst e5
  simp only [KV.q, kz4, x5] at ew61
  have KT := KV.ww (k := 4) (v := Int32.ofNat ((hN A + 1) % 24))
  have fT := fV.w (k := 4) (v := .int (Int32.ofNat ((hN A + 1) % 24))) (by omega)
  rw [← ew61] at KT fT
  have v4' := (KT.i (k := 4) (by omega)).trans aU_at
  simp only [KT.q, kz4, v4'] at h63
  rw [o32 (by omega)] at h63
  have h23 : hN A ≠ 23 := by omega
  have fK := fT
  have KK : rW τ61 (hCk (hMd Lo nt true A) (hN A)) := by
    have e : hCk (hMd Lo nt true A) (hN A) = aU (hMd Lo nt true A) 4 (Int32.ofNat ((hN A + 1) % 24)) := by
      unfold hCk
      rw [if_neg h23, show (hN A + 1) % 24 = hN A + 1 by omega]
    rw [e]
    exact KT
  have IT := (I.md (Lo := Lo) (calm := true)).ck hn
  obtain ⟨hn', e4', -⟩ := IT.in
  obtain ⟨e9, g9⟩ := g65
  subst e9
  have x9 := g9 rfl _ KK _ e4' hn'
  rw [x9] at h66
  refine ⟨fun vz => absurd vz h57, fun vz => ?_⟩
  have er : hHr Lo nt true A = (hCk (hMd Lo nt true A) (hN A), 0) := by
    unfold hHr hEd
    rw [if_pos (Or.inr ?_)]
    rw [hA]
    exact Int32.toInt_inj.mp h66
  rw [er]
  exact ⟨fK, KK, rfl⟩
theorem sp_265_eftft (a0 : Nat) (a1 : Int32) (σ : zSg) (τ1 : zSg) (r1 : Int32) (τ44 : zSg) (r44 : Int32) (τ46 : zSg) (r46 : Int32) (τ49 : zSg) (τ52 : zSg) (τ56 : zSg) (τ59 : zSg) (r59 : Int32) (τ61 : zSg) (τ70 : zSg) (g1 : p_188 a0 σ r1 τ1) (h2 : r1.toInt ≠ (-1 : Int)) (h43 : 0 ≤ (Int32.ofInt (4)).toInt ∧ (Int32.ofInt (4)).toInt < (τ1.2.1 (q_r (τ1.1 a0 1)) : Int)) (g44 : p_239 a0 r1 (q_i (τ1.1 (q_r (τ1.1 a0 1)) (Int32.ofInt (4)).toNatClampNeg)) τ1 r44 τ44) (h45 : 0 ≤ (Int32.ofInt (4)).toInt ∧ (Int32.ofInt (4)).toInt < (τ44.2.1 (q_r (τ44.1 a0 1)) : Int)) (g46 : p_240 a0 r1 (q_i (τ44.1 (q_r (τ44.1 a0 1)) (Int32.ofInt (4)).toNatClampNeg)) τ44 r46 τ46) (h47 : 0 ≤ (Int32.ofInt (6)).toInt ∧ (Int32.ofInt (6)).toInt < (τ46.2.1 (q_r (τ46.1 a0 1)) : Int)) (h48 : 0 ≤ (Int32.ofInt (6)).toInt ∧ (Int32.ofInt (6)).toInt < (τ46.2.1 (q_r (τ46.1 a0 1)) : Int)) (ew49 : τ49 = q_w τ46 (q_r (τ46.1 a0 1)) (Int32.ofInt (6)).toNatClampNeg (.int (if ((q_i (τ46.1 (q_r (τ46.1 a0 1)) (Int32.ofInt (6)).toNatClampNeg)) + r44) < (Int32.ofInt (99)) then ((q_i (τ46.1 (q_r (τ46.1 a0 1)) (Int32.ofInt (6)).toNatClampNeg)) + r44) else (Int32.ofInt (99))))) (h50 : 0 ≤ (Int32.ofInt (7)).toInt ∧ (Int32.ofInt (7)).toInt < (τ49.2.1 (q_r (τ49.1 a0 1)) : Int)) (h51 : 0 ≤ (Int32.ofInt (7)).toInt ∧ (Int32.ofInt (7)).toInt < (τ49.2.1 (q_r (τ49.1 a0 1)) : Int)) (ew52 : τ52 = q_w τ49 (q_r (τ49.1 a0 1)) (Int32.ofInt (7)).toNatClampNeg (.int (if ((q_i (τ49.1 (q_r (τ49.1 a0 1)) (Int32.ofInt (7)).toNatClampNeg)) + r46) < (Int32.ofInt (99)) then ((q_i (τ49.1 (q_r (τ49.1 a0 1)) (Int32.ofInt (7)).toNatClampNeg)) + r46) else (Int32.ofInt (99))))) (h53 : 0 ≤ (Int32.ofInt (6)).toInt ∧ (Int32.ofInt (6)).toInt < (τ52.2.1 (q_r (τ52.1 a0 1)) : Int)) (h54 : 0 ≤ (Int32.ofInt (10)).toInt ∧ (Int32.ofInt (10)).toInt < (τ52.2.1 (q_r (τ52.1 a0 1)) : Int)) (h55 : 0 ≤ (Int32.ofInt (6)).toInt ∧ (Int32.ofInt (6)).toInt < (τ52.2.1 (q_r (τ52.1 a0 1)) : Int)) (ew56 : τ56 = q_w τ52 (q_r (τ52.1 a0 1)) (Int32.ofInt (6)).toNatClampNeg (.int (if (Int32.ofInt (0)) < ((q_i (τ52.1 (q_r (τ52.1 a0 1)) (Int32.ofInt (6)).toNatClampNeg)) - (q_i (τ52.1 (q_r (τ52.1 a0 1)) (Int32.ofInt (10)).toNatClampNeg))) then ((q_i (τ52.1 (q_r (τ52.1 a0 1)) (Int32.ofInt (6)).toNatClampNeg)) - (q_i (τ52.1 (q_r (τ52.1 a0 1)) (Int32.ofInt (10)).toNatClampNeg))) else (Int32.ofInt (0))))) (h57 : a1.toInt ≠ (0 : Int)) (h58 : 0 ≤ (Int32.ofInt (4)).toInt ∧ (Int32.ofInt (4)).toInt < (τ56.2.1 (q_r (τ56.1 a0 1)) : Int)) (g59 : p_187 (q_i (τ56.1 (q_r (τ56.1 a0 1)) (Int32.ofInt (4)).toNatClampNeg)) τ56 r59 τ59) (h60 : 0 ≤ (Int32.ofInt (4)).toInt ∧ (Int32.ofInt (4)).toInt < (τ59.2.1 (q_r (τ56.1 a0 1)) : Int)) (ew61 : τ61 = q_w τ59 (q_r (τ56.1 a0 1)) (Int32.ofInt (4)).toNatClampNeg (.int r59)) (h62 : 0 ≤ (Int32.ofInt (4)).toInt ∧ (Int32.ofInt (4)).toInt < (τ61.2.1 (q_r (τ61.1 a0 1)) : Int)) (h63 : (q_i (τ61.1 (q_r (τ61.1 a0 1)) (Int32.ofInt (4)).toNatClampNeg)).toInt = (0 : Int)) (h68 : 0 ≤ (Int32.ofInt (5)).toInt ∧ (Int32.ofInt (5)).toInt < (τ61.2.1 (q_r (τ61.1 a0 1)) : Int)) (h69 : 0 ≤ (Int32.ofInt (5)).toInt ∧ (Int32.ofInt (5)).toInt < (τ61.2.1 (q_r (τ61.1 a0 1)) : Int)) (ew70 : τ70 = q_w τ61 (q_r (τ61.1 a0 1)) (Int32.ofInt (5)).toNatClampNeg (.int (if ((q_i (τ61.1 (q_r (τ61.1 a0 1)) (Int32.ofInt (5)).toNatClampNeg)) + (Int32.ofInt (1))) < (Int32.ofInt (9999)) then ((q_i (τ61.1 (q_r (τ61.1 a0 1)) (Int32.ofInt (5)).toNatClampNeg)) + (Int32.ofInt (1))) else (Int32.ofInt (9999))))) (h71 : r1.toInt = (-1 : Int)) :
    p_265 (a0) (a1) σ (Int32.ofInt (0)) τ70 := by
  rintro rfl A nf nt Lo K I
  obtain ⟨hn, e4, hin⟩ := I.in
  have k6 := I.1.2.1
  have q1 : (Int32.ofInt (-1)).toInt = -1 := rfl
  obtain ⟨e1, g1⟩ := g1
  subst e1
  have x1 := g1 rfl A K.1 _ e4 hn
  exact absurd h71 h2
theorem sp_265_eftfft (a0 : Nat) (a1 : Int32) (σ : zSg) (τ1 : zSg) (r1 : Int32) (τ44 : zSg) (r44 : Int32) (τ46 : zSg) (r46 : Int32) (τ49 : zSg) (τ52 : zSg) (τ56 : zSg) (τ59 : zSg) (r59 : Int32) (τ61 : zSg) (τ70 : zSg) (τ72 : zSg) (r72 : Int32) (τ74 : zSg) (r74 : Int32) (g1 : p_188 a0 σ r1 τ1) (h2 : r1.toInt ≠ (-1 : Int)) (h43 : 0 ≤ (Int32.ofInt (4)).toInt ∧ (Int32.ofInt (4)).toInt < (τ1.2.1 (q_r (τ1.1 a0 1)) : Int)) (g44 : p_239 a0 r1 (q_i (τ1.1 (q_r (τ1.1 a0 1)) (Int32.ofInt (4)).toNatClampNeg)) τ1 r44 τ44) (h45 : 0 ≤ (Int32.ofInt (4)).toInt ∧ (Int32.ofInt (4)).toInt < (τ44.2.1 (q_r (τ44.1 a0 1)) : Int)) (g46 : p_240 a0 r1 (q_i (τ44.1 (q_r (τ44.1 a0 1)) (Int32.ofInt (4)).toNatClampNeg)) τ44 r46 τ46) (h47 : 0 ≤ (Int32.ofInt (6)).toInt ∧ (Int32.ofInt (6)).toInt < (τ46.2.1 (q_r (τ46.1 a0 1)) : Int)) (h48 : 0 ≤ (Int32.ofInt (6)).toInt ∧ (Int32.ofInt (6)).toInt < (τ46.2.1 (q_r (τ46.1 a0 1)) : Int)) (ew49 : τ49 = q_w τ46 (q_r (τ46.1 a0 1)) (Int32.ofInt (6)).toNatClampNeg (.int (if ((q_i (τ46.1 (q_r (τ46.1 a0 1)) (Int32.ofInt (6)).toNatClampNeg)) + r44) < (Int32.ofInt (99)) then ((q_i (τ46.1 (q_r (τ46.1 a0 1)) (Int32.ofInt (6)).toNatClampNeg)) + r44) else (Int32.ofInt (99))))) (h50 : 0 ≤ (Int32.ofInt (7)).toInt ∧ (Int32.ofInt (7)).toInt < (τ49.2.1 (q_r (τ49.1 a0 1)) : Int)) (h51 : 0 ≤ (Int32.ofInt (7)).toInt ∧ (Int32.ofInt (7)).toInt < (τ49.2.1 (q_r (τ49.1 a0 1)) : Int)) (ew52 : τ52 = q_w τ49 (q_r (τ49.1 a0 1)) (Int32.ofInt (7)).toNatClampNeg (.int (if ((q_i (τ49.1 (q_r (τ49.1 a0 1)) (Int32.ofInt (7)).toNatClampNeg)) + r46) < (Int32.ofInt (99)) then ((q_i (τ49.1 (q_r (τ49.1 a0 1)) (Int32.ofInt (7)).toNatClampNeg)) + r46) else (Int32.ofInt (99))))) (h53 : 0 ≤ (Int32.ofInt (6)).toInt ∧ (Int32.ofInt (6)).toInt < (τ52.2.1 (q_r (τ52.1 a0 1)) : Int)) (h54 : 0 ≤ (Int32.ofInt (10)).toInt ∧ (Int32.ofInt (10)).toInt < (τ52.2.1 (q_r (τ52.1 a0 1)) : Int)) (h55 : 0 ≤ (Int32.ofInt (6)).toInt ∧ (Int32.ofInt (6)).toInt < (τ52.2.1 (q_r (τ52.1 a0 1)) : Int)) (ew56 : τ56 = q_w τ52 (q_r (τ52.1 a0 1)) (Int32.ofInt (6)).toNatClampNeg (.int (if (Int32.ofInt (0)) < ((q_i (τ52.1 (q_r (τ52.1 a0 1)) (Int32.ofInt (6)).toNatClampNeg)) - (q_i (τ52.1 (q_r (τ52.1 a0 1)) (Int32.ofInt (10)).toNatClampNeg))) then ((q_i (τ52.1 (q_r (τ52.1 a0 1)) (Int32.ofInt (6)).toNatClampNeg)) - (q_i (τ52.1 (q_r (τ52.1 a0 1)) (Int32.ofInt (10)).toNatClampNeg))) else (Int32.ofInt (0))))) (h57 : a1.toInt ≠ (0 : Int)) (h58 : 0 ≤ (Int32.ofInt (4)).toInt ∧ (Int32.ofInt (4)).toInt < (τ56.2.1 (q_r (τ56.1 a0 1)) : Int)) (g59 : p_187 (q_i (τ56.1 (q_r (τ56.1 a0 1)) (Int32.ofInt (4)).toNatClampNeg)) τ56 r59 τ59) (h60 : 0 ≤ (Int32.ofInt (4)).toInt ∧ (Int32.ofInt (4)).toInt < (τ59.2.1 (q_r (τ56.1 a0 1)) : Int)) (ew61 : τ61 = q_w τ59 (q_r (τ56.1 a0 1)) (Int32.ofInt (4)).toNatClampNeg (.int r59)) (h62 : 0 ≤ (Int32.ofInt (4)).toInt ∧ (Int32.ofInt (4)).toInt < (τ61.2.1 (q_r (τ61.1 a0 1)) : Int)) (h63 : (q_i (τ61.1 (q_r (τ61.1 a0 1)) (Int32.ofInt (4)).toNatClampNeg)).toInt = (0 : Int)) (h68 : 0 ≤ (Int32.ofInt (5)).toInt ∧ (Int32.ofInt (5)).toInt < (τ61.2.1 (q_r (τ61.1 a0 1)) : Int)) (h69 : 0 ≤ (Int32.ofInt (5)).toInt ∧ (Int32.ofInt (5)).toInt < (τ61.2.1 (q_r (τ61.1 a0 1)) : Int)) (ew70 : τ70 = q_w τ61 (q_r (τ61.1 a0 1)) (Int32.ofInt (5)).toNatClampNeg (.int (if ((q_i (τ61.1 (q_r (τ61.1 a0 1)) (Int32.ofInt (5)).toNatClampNeg)) + (Int32.ofInt (1))) < (Int32.ofInt (9999)) then ((q_i (τ61.1 (q_r (τ61.1 a0 1)) (Int32.ofInt (5)).toNatClampNeg)) + (Int32.ofInt (1))) else (Int32.ofInt (9999))))) (h71 : r1.toInt ≠ (-1 : Int)) (g72 : p_188 a0 τ70 r72 τ72) (h73 : r72.toInt ≠ r1.toInt) (g74 : p_264 a0 r1 τ72 r74 τ74) :
    p_265 (a0) (a1) σ r74 τ74 := by
  rintro rfl A nf nt Lo K I
  obtain ⟨hn, e4, hin⟩ := I.in
  have k6 := I.1.2.1
  have q1 : (Int32.ofInt (-1)).toInt = -1 := rfl
  obtain ⟨e1, g1⟩ := g1
  subst e1
  have x1 := g1 rfl A K.1 _ e4 hn
  rcases hin with ⟨hA, -⟩ | ⟨F, hF, hA, hOn⟩
  · exact absurd (by rw [x1, hA]; rfl) h2
  have x1 := x1.trans hA
  subst x1
  have w4 := (K.1.i (k := 4) (by omega)).trans e4
  simp only [K.1.q, kz4, w4] at g44
  obtain ⟨f2, x2⟩ := g44 rfl A nt Lo F (hN A) K rfl (by omega) rfl hn
  have K2 := K.fr f2
  have w4' := (K2.1.i (k := 4) (by omega)).trans e4
  simp only [K2.1.q, kz4, w4'] at g46
  obtain ⟨f3, x3⟩ := g46 rfl A nt Lo F (hN A) K2 rfl (by omega) rfl hn
  have K3 := K2.fr f3
  have y6 := K3.1.i (k := 6) (by omega)
  simp only [K3.1.q, kz6, y6, x2] at ew49
  have K4 := K3.1.ww (k := 6) (v := aMi (Int32.ofInt 99) (A 6 + (A (42 + 4 * F) + eSm Lo (eFa A nt F (hN A)) 0)))
  have f4 := (f2.h.tr f3.h).w (k := 6) (v := .int (aMi (Int32.ofInt 99) (A 6 + (A (42 + 4 * F) + eSm Lo (eFa A nt F (hN A)) 0)))) (by omega)
  have ew49 : τ49 = q_w τ46 206 6 (.int (aMi (Int32.ofInt 99) (A 6 + (A (42 + 4 * F) + eSm Lo (eFa A nt F (hN A)) 0)))) := ew49
  rw [← ew49] at K4 f4
  have y7 := (K4.i (k := 7) (by omega)).trans (aU_ne (by omega))
  simp only [K4.q, kz7, y7, x3] at ew52
  have K5 := K4.ww (k := 7) (v := aMi (Int32.ofInt 99) (A 7 + (A (41 + 4 * F) + eSm Lo (eFa A nt F (hN A)) 1)))
  have f5 := f4.w (k := 7) (v := .int (aMi (Int32.ofInt 99) (A 7 + (A (41 + 4 * F) + eSm Lo (eFa A nt F (hN A)) 1)))) (by omega)
  have ew52 : τ52 = q_w τ49 206 7 (.int (aMi (Int32.ofInt 99) (A 7 + (A (41 + 4 * F) + eSm Lo (eFa A nt F (hN A)) 1)))) := ew52
  rw [← ew52] at K5 f5
  have KM : rW τ52 (hWm Lo nt A (hN A) (hO (A (16 + hN A)))) := by rw [hOn]; exact K5
  have fM := f5
  have y6' := KM.i (k := 6) (by omega)
  have y10 := KM.i (k := 10) (by omega)
  simp only [KM.q, kz6, kz10, y6', y10] at ew56
  have KC := KM.ww (k := 6) (v := aMa (Int32.ofInt 0) (hWm Lo nt A (hN A) (hO (A (16 + hN A))) 6 - hWm Lo nt A (hN A) (hO (A (16 + hN A))) 10))
  have fC := fM.w (k := 6) (v := .int (aMa (Int32.ofInt 0) (hWm Lo nt A (hN A) (hO (A (16 + hN A))) 6 - hWm Lo nt A (hN A) (hO (A (16 + hN A))) 10))) (by omega)
  have ew56 : τ56 = q_w τ52 206 6 (.int (aMa (Int32.ofInt 0) (hWm Lo nt A (hN A) (hO (A (16 + hN A))) 6 - hWm Lo nt A (hN A) (hO (A (16 + hN A))) 10))) := ew56
  rw [← ew56] at KC fC
  have KC : rW τ56 (hCd (hWm Lo nt A (hN A) (hO (A (16 + hN A))))) := KC
  have fV := fC
  have KV : rW τ56 (hMd Lo nt true A) := KC
  have e4m : hMd Lo nt true A 4 = Int32.ofNat (hN A) := (hMd_4 I (by omega)).trans e4
  have v4 := (KV.i (k := 4) (by omega)).trans e4m
  obtain ⟨e5, g5⟩ := g59
  have x5 : r59 = Int32.ofNat ((hN A + 1) % 24) := g5 (hN A) (by simp only [KV.q, kz4, v4]) hn
  subst e5
  simp only [KV.q, kz4, x5] at ew61
  have KT := KV.ww (k := 4) (v := Int32.ofNat ((hN A + 1) % 24))
  have fT := fV.w (k := 4) (v := .int (Int32.ofNat ((hN A + 1) % 24))) (by omega)
  rw [← ew61] at KT fT
  have v4' := (KT.i (k := 4) (by omega)).trans aU_at
  simp only [KT.q, kz4, v4'] at h63
  rw [o32 (by omega)] at h63
  have h23 : hN A = 23 := by omega
  have v5 := (KT.i (k := 5) (by omega)).trans (aU_ne (by omega))
  simp only [KT.q, kz5, v5] at ew70
  have KT2 := KT.ww (k := 5) (v := aMi (Int32.ofInt 9999) (hMd Lo nt true A 5 + Int32.ofInt 1))
  have fT2 := fT.w (k := 5) (v := .int (aMi (Int32.ofInt 9999) (hMd Lo nt true A 5 + Int32.ofInt 1))) (by omega)
  have ew70 : τ70 = q_w τ61 206 5 (.int (aMi (Int32.ofInt 9999) (hMd Lo nt true A 5 + Int32.ofInt 1))) := ew70
  rw [← ew70] at KT2 fT2
  have fK := fT2
  have KK : rW τ70 (hCk (hMd Lo nt true A) (hN A)) := by
    have e : hCk (hMd Lo nt true A) (hN A) = aU (aU (hMd Lo nt true A) 4 (Int32.ofNat ((hN A + 1) % 24))) 5 (aMi (Int32.ofInt 9999) (hMd Lo nt true A 5 + Int32.ofInt 1)) := by
      unfold hCk
      rw [if_pos h23, h23]
      rfl
    rw [e]
    exact KT2
  have IT := (I.md (Lo := Lo) (calm := true)).ck hn
  obtain ⟨hn', e4', -⟩ := IT.in
  obtain ⟨e9, g9⟩ := g72
  subst e9
  have x9 := g9 rfl _ KK _ e4' hn'
  rw [x9] at h73
  refine ⟨fun vz => absurd vz h57, fun vz => ?_⟩
  have er : hHr Lo nt true A = hFi Lo nt (hCk (hMd Lo nt true A) (hN A)) F (hN (hCk (hMd Lo nt true A) (hN A))) nt := by
    unfold hHr hEd
    rw [if_neg, hA, o32n (by omega)]
    rintro (q | q)
    · rw [hA] at q
      have := congrArg Int32.toInt q
      rw [o32 (by omega), q1] at this
      omega
    · rw [hA] at q
      exact h73 (by rw [q])
  rw [er]
  have e3 : hCk (hMd Lo nt true A) (hN A) 3 = A 3 := (hCk_k (by omega) (by omega)).trans (hMd_4 I (by omega))
  obtain ⟨fF, KF, xF⟩ := g74 rfl _ nf nt F _ Lo (K.hr fK KK IT e3) IT rfl hF e4' hn'
  exact ⟨fK.tr fF, KF, xF⟩
theorem sp_265_eftfff (a0 : Nat) (a1 : Int32) (σ : zSg) (τ1 : zSg) (r1 : Int32) (τ44 : zSg) (r44 : Int32) (τ46 : zSg) (r46 : Int32) (τ49 : zSg) (τ52 : zSg) (τ56 : zSg) (τ59 : zSg) (r59 : Int32) (τ61 : zSg) (τ70 : zSg) (τ72 : zSg) (r72 : Int32) (g1 : p_188 a0 σ r1 τ1) (h2 : r1.toInt ≠ (-1 : Int)) (h43 : 0 ≤ (Int32.ofInt (4)).toInt ∧ (Int32.ofInt (4)).toInt < (τ1.2.1 (q_r (τ1.1 a0 1)) : Int)) (g44 : p_239 a0 r1 (q_i (τ1.1 (q_r (τ1.1 a0 1)) (Int32.ofInt (4)).toNatClampNeg)) τ1 r44 τ44) (h45 : 0 ≤ (Int32.ofInt (4)).toInt ∧ (Int32.ofInt (4)).toInt < (τ44.2.1 (q_r (τ44.1 a0 1)) : Int)) (g46 : p_240 a0 r1 (q_i (τ44.1 (q_r (τ44.1 a0 1)) (Int32.ofInt (4)).toNatClampNeg)) τ44 r46 τ46) (h47 : 0 ≤ (Int32.ofInt (6)).toInt ∧ (Int32.ofInt (6)).toInt < (τ46.2.1 (q_r (τ46.1 a0 1)) : Int)) (h48 : 0 ≤ (Int32.ofInt (6)).toInt ∧ (Int32.ofInt (6)).toInt < (τ46.2.1 (q_r (τ46.1 a0 1)) : Int)) (ew49 : τ49 = q_w τ46 (q_r (τ46.1 a0 1)) (Int32.ofInt (6)).toNatClampNeg (.int (if ((q_i (τ46.1 (q_r (τ46.1 a0 1)) (Int32.ofInt (6)).toNatClampNeg)) + r44) < (Int32.ofInt (99)) then ((q_i (τ46.1 (q_r (τ46.1 a0 1)) (Int32.ofInt (6)).toNatClampNeg)) + r44) else (Int32.ofInt (99))))) (h50 : 0 ≤ (Int32.ofInt (7)).toInt ∧ (Int32.ofInt (7)).toInt < (τ49.2.1 (q_r (τ49.1 a0 1)) : Int)) (h51 : 0 ≤ (Int32.ofInt (7)).toInt ∧ (Int32.ofInt (7)).toInt < (τ49.2.1 (q_r (τ49.1 a0 1)) : Int)) (ew52 : τ52 = q_w τ49 (q_r (τ49.1 a0 1)) (Int32.ofInt (7)).toNatClampNeg (.int (if ((q_i (τ49.1 (q_r (τ49.1 a0 1)) (Int32.ofInt (7)).toNatClampNeg)) + r46) < (Int32.ofInt (99)) then ((q_i (τ49.1 (q_r (τ49.1 a0 1)) (Int32.ofInt (7)).toNatClampNeg)) + r46) else (Int32.ofInt (99))))) (h53 : 0 ≤ (Int32.ofInt (6)).toInt ∧ (Int32.ofInt (6)).toInt < (τ52.2.1 (q_r (τ52.1 a0 1)) : Int)) (h54 : 0 ≤ (Int32.ofInt (10)).toInt ∧ (Int32.ofInt (10)).toInt < (τ52.2.1 (q_r (τ52.1 a0 1)) : Int)) (h55 : 0 ≤ (Int32.ofInt (6)).toInt ∧ (Int32.ofInt (6)).toInt < (τ52.2.1 (q_r (τ52.1 a0 1)) : Int)) (ew56 : τ56 = q_w τ52 (q_r (τ52.1 a0 1)) (Int32.ofInt (6)).toNatClampNeg (.int (if (Int32.ofInt (0)) < ((q_i (τ52.1 (q_r (τ52.1 a0 1)) (Int32.ofInt (6)).toNatClampNeg)) - (q_i (τ52.1 (q_r (τ52.1 a0 1)) (Int32.ofInt (10)).toNatClampNeg))) then ((q_i (τ52.1 (q_r (τ52.1 a0 1)) (Int32.ofInt (6)).toNatClampNeg)) - (q_i (τ52.1 (q_r (τ52.1 a0 1)) (Int32.ofInt (10)).toNatClampNeg))) else (Int32.ofInt (0))))) (h57 : a1.toInt ≠ (0 : Int)) (h58 : 0 ≤ (Int32.ofInt (4)).toInt ∧ (Int32.ofInt (4)).toInt < (τ56.2.1 (q_r (τ56.1 a0 1)) : Int)) (g59 : p_187 (q_i (τ56.1 (q_r (τ56.1 a0 1)) (Int32.ofInt (4)).toNatClampNeg)) τ56 r59 τ59) (h60 : 0 ≤ (Int32.ofInt (4)).toInt ∧ (Int32.ofInt (4)).toInt < (τ59.2.1 (q_r (τ56.1 a0 1)) : Int)) (ew61 : τ61 = q_w τ59 (q_r (τ56.1 a0 1)) (Int32.ofInt (4)).toNatClampNeg (.int r59)) (h62 : 0 ≤ (Int32.ofInt (4)).toInt ∧ (Int32.ofInt (4)).toInt < (τ61.2.1 (q_r (τ61.1 a0 1)) : Int)) (h63 : (q_i (τ61.1 (q_r (τ61.1 a0 1)) (Int32.ofInt (4)).toNatClampNeg)).toInt = (0 : Int)) (h68 : 0 ≤ (Int32.ofInt (5)).toInt ∧ (Int32.ofInt (5)).toInt < (τ61.2.1 (q_r (τ61.1 a0 1)) : Int)) (h69 : 0 ≤ (Int32.ofInt (5)).toInt ∧ (Int32.ofInt (5)).toInt < (τ61.2.1 (q_r (τ61.1 a0 1)) : Int)) (ew70 : τ70 = q_w τ61 (q_r (τ61.1 a0 1)) (Int32.ofInt (5)).toNatClampNeg (.int (if ((q_i (τ61.1 (q_r (τ61.1 a0 1)) (Int32.ofInt (5)).toNatClampNeg)) + (Int32.ofInt (1))) < (Int32.ofInt (9999)) then ((q_i (τ61.1 (q_r (τ61.1 a0 1)) (Int32.ofInt (5)).toNatClampNeg)) + (Int32.ofInt (1))) else (Int32.ofInt (9999))))) (h71 : r1.toInt ≠ (-1 : Int)) (g72 : p_188 a0 τ70 r72 τ72) (h73 : r72.toInt = r1.toInt) :
    p_265 (a0) (a1) σ (Int32.ofInt (0)) τ72 := by
  rintro rfl A nf nt Lo K I
  obtain ⟨hn, e4, hin⟩ := I.in
  have k6 := I.1.2.1
  have q1 : (Int32.ofInt (-1)).toInt = -1 := rfl
  obtain ⟨e1, g1⟩ := g1
  subst e1
  have x1 := g1 rfl A K.1 _ e4 hn
  rcases hin with ⟨hA, -⟩ | ⟨F, hF, hA, hOn⟩
  · exact absurd (by rw [x1, hA]; rfl) h2
  have x1 := x1.trans hA
  subst x1
  have w4 := (K.1.i (k := 4) (by omega)).trans e4
  simp only [K.1.q, kz4, w4] at g44
  obtain ⟨f2, x2⟩ := g44 rfl A nt Lo F (hN A) K rfl (by omega) rfl hn
  have K2 := K.fr f2
  have w4' := (K2.1.i (k := 4) (by omega)).trans e4
  simp only [K2.1.q, kz4, w4'] at g46
  obtain ⟨f3, x3⟩ := g46 rfl A nt Lo F (hN A) K2 rfl (by omega) rfl hn
  have K3 := K2.fr f3
  have y6 := K3.1.i (k := 6) (by omega)
  simp only [K3.1.q, kz6, y6, x2] at ew49
  have K4 := K3.1.ww (k := 6) (v := aMi (Int32.ofInt 99) (A 6 + (A (42 + 4 * F) + eSm Lo (eFa A nt F (hN A)) 0)))
  have f4 := (f2.h.tr f3.h).w (k := 6) (v := .int (aMi (Int32.ofInt 99) (A 6 + (A (42 + 4 * F) + eSm Lo (eFa A nt F (hN A)) 0)))) (by omega)
  have ew49 : τ49 = q_w τ46 206 6 (.int (aMi (Int32.ofInt 99) (A 6 + (A (42 + 4 * F) + eSm Lo (eFa A nt F (hN A)) 0)))) := ew49
  rw [← ew49] at K4 f4
  have y7 := (K4.i (k := 7) (by omega)).trans (aU_ne (by omega))
  simp only [K4.q, kz7, y7, x3] at ew52
  have K5 := K4.ww (k := 7) (v := aMi (Int32.ofInt 99) (A 7 + (A (41 + 4 * F) + eSm Lo (eFa A nt F (hN A)) 1)))
  have f5 := f4.w (k := 7) (v := .int (aMi (Int32.ofInt 99) (A 7 + (A (41 + 4 * F) + eSm Lo (eFa A nt F (hN A)) 1)))) (by omega)
  have ew52 : τ52 = q_w τ49 206 7 (.int (aMi (Int32.ofInt 99) (A 7 + (A (41 + 4 * F) + eSm Lo (eFa A nt F (hN A)) 1)))) := ew52
  rw [← ew52] at K5 f5
  have KM : rW τ52 (hWm Lo nt A (hN A) (hO (A (16 + hN A)))) := by rw [hOn]; exact K5
  have fM := f5
  have y6' := KM.i (k := 6) (by omega)
  have y10 := KM.i (k := 10) (by omega)
  simp only [KM.q, kz6, kz10, y6', y10] at ew56
  have KC := KM.ww (k := 6) (v := aMa (Int32.ofInt 0) (hWm Lo nt A (hN A) (hO (A (16 + hN A))) 6 - hWm Lo nt A (hN A) (hO (A (16 + hN A))) 10))
  have fC := fM.w (k := 6) (v := .int (aMa (Int32.ofInt 0) (hWm Lo nt A (hN A) (hO (A (16 + hN A))) 6 - hWm Lo nt A (hN A) (hO (A (16 + hN A))) 10))) (by omega)
  have ew56 : τ56 = q_w τ52 206 6 (.int (aMa (Int32.ofInt 0) (hWm Lo nt A (hN A) (hO (A (16 + hN A))) 6 - hWm Lo nt A (hN A) (hO (A (16 + hN A))) 10))) := ew56
  rw [← ew56] at KC fC
  have KC : rW τ56 (hCd (hWm Lo nt A (hN A) (hO (A (16 + hN A))))) := KC
  have fV := fC
  have KV : rW τ56 (hMd Lo nt true A) := KC
  have e4m : hMd Lo nt true A 4 = Int32.ofNat (hN A) := (hMd_4 I (by omega)).trans e4
  have v4 := (KV.i (k := 4) (by omega)).trans e4m
  obtain ⟨e5, g5⟩ := g59
  have x5 : r59 = Int32.ofNat ((hN A + 1) % 24) := g5 (hN A) (by simp only [KV.q, kz4, v4]) hn
  subst e5
  simp only [KV.q, kz4, x5] at ew61
  have KT := KV.ww (k := 4) (v := Int32.ofNat ((hN A + 1) % 24))
  have fT := fV.w (k := 4) (v := .int (Int32.ofNat ((hN A + 1) % 24))) (by omega)
  rw [← ew61] at KT fT
  have v4' := (KT.i (k := 4) (by omega)).trans aU_at
  simp only [KT.q, kz4, v4'] at h63
  rw [o32 (by omega)] at h63
  have h23 : hN A = 23 := by omega
  have v5 := (KT.i (k := 5) (by omega)).trans (aU_ne (by omega))
  simp only [KT.q, kz5, v5] at ew70
  have KT2 := KT.ww (k := 5) (v := aMi (Int32.ofInt 9999) (hMd Lo nt true A 5 + Int32.ofInt 1))
  have fT2 := fT.w (k := 5) (v := .int (aMi (Int32.ofInt 9999) (hMd Lo nt true A 5 + Int32.ofInt 1))) (by omega)
  have ew70 : τ70 = q_w τ61 206 5 (.int (aMi (Int32.ofInt 9999) (hMd Lo nt true A 5 + Int32.ofInt 1))) := ew70
  rw [← ew70] at KT2 fT2
  have fK := fT2
  have KK : rW τ70 (hCk (hMd Lo nt true A) (hN A)) := by
    have e : hCk (hMd Lo nt true A) (hN A) = aU (aU (hMd Lo nt true A) 4 (Int32.ofNat ((hN A + 1) % 24))) 5 (aMi (Int32.ofInt 9999) (hMd Lo nt true A 5 + Int32.ofInt 1)) := by
      unfold hCk
      rw [if_pos h23, h23]
      rfl
    rw [e]
    exact KT2
  have IT := (I.md (Lo := Lo) (calm := true)).ck hn
  obtain ⟨hn', e4', -⟩ := IT.in
  obtain ⟨e9, g9⟩ := g72
  subst e9
  have x9 := g9 rfl _ KK _ e4' hn'
  rw [x9] at h73
  refine ⟨fun vz => absurd vz h57, fun vz => ?_⟩
  have er : hHr Lo nt true A = (hCk (hMd Lo nt true A) (hN A), 0) := by
    unfold hHr hEd
    rw [if_pos (Or.inr ?_)]
    rw [hA]
    exact Int32.toInt_inj.mp h73
  rw [er]
  exact ⟨fK, KK, rfl⟩
theorem sp_265_efftt (a0 : Nat) (a1 : Int32) (σ : zSg) (τ1 : zSg) (r1 : Int32) (τ44 : zSg) (r44 : Int32) (τ46 : zSg) (r46 : Int32) (τ49 : zSg) (τ52 : zSg) (τ56 : zSg) (τ75 : zSg) (τ77 : zSg) (r77 : Int32) (τ79 : zSg) (g1 : p_188 a0 σ r1 τ1) (h2 : r1.toInt ≠ (-1 : Int)) (h43 : 0 ≤ (Int32.ofInt (4)).toInt ∧ (Int32.ofInt (4)).toInt < (τ1.2.1 (q_r (τ1.1 a0 1)) : Int)) (g44 : p_239 a0 r1 (q_i (τ1.1 (q_r (τ1.1 a0 1)) (Int32.ofInt (4)).toNatClampNeg)) τ1 r44 τ44) (h45 : 0 ≤ (Int32.ofInt (4)).toInt ∧ (Int32.ofInt (4)).toInt < (τ44.2.1 (q_r (τ44.1 a0 1)) : Int)) (g46 : p_240 a0 r1 (q_i (τ44.1 (q_r (τ44.1 a0 1)) (Int32.ofInt (4)).toNatClampNeg)) τ44 r46 τ46) (h47 : 0 ≤ (Int32.ofInt (6)).toInt ∧ (Int32.ofInt (6)).toInt < (τ46.2.1 (q_r (τ46.1 a0 1)) : Int)) (h48 : 0 ≤ (Int32.ofInt (6)).toInt ∧ (Int32.ofInt (6)).toInt < (τ46.2.1 (q_r (τ46.1 a0 1)) : Int)) (ew49 : τ49 = q_w τ46 (q_r (τ46.1 a0 1)) (Int32.ofInt (6)).toNatClampNeg (.int (if ((q_i (τ46.1 (q_r (τ46.1 a0 1)) (Int32.ofInt (6)).toNatClampNeg)) + r44) < (Int32.ofInt (99)) then ((q_i (τ46.1 (q_r (τ46.1 a0 1)) (Int32.ofInt (6)).toNatClampNeg)) + r44) else (Int32.ofInt (99))))) (h50 : 0 ≤ (Int32.ofInt (7)).toInt ∧ (Int32.ofInt (7)).toInt < (τ49.2.1 (q_r (τ49.1 a0 1)) : Int)) (h51 : 0 ≤ (Int32.ofInt (7)).toInt ∧ (Int32.ofInt (7)).toInt < (τ49.2.1 (q_r (τ49.1 a0 1)) : Int)) (ew52 : τ52 = q_w τ49 (q_r (τ49.1 a0 1)) (Int32.ofInt (7)).toNatClampNeg (.int (if ((q_i (τ49.1 (q_r (τ49.1 a0 1)) (Int32.ofInt (7)).toNatClampNeg)) + r46) < (Int32.ofInt (99)) then ((q_i (τ49.1 (q_r (τ49.1 a0 1)) (Int32.ofInt (7)).toNatClampNeg)) + r46) else (Int32.ofInt (99))))) (h53 : 0 ≤ (Int32.ofInt (6)).toInt ∧ (Int32.ofInt (6)).toInt < (τ52.2.1 (q_r (τ52.1 a0 1)) : Int)) (h54 : 0 ≤ (Int32.ofInt (10)).toInt ∧ (Int32.ofInt (10)).toInt < (τ52.2.1 (q_r (τ52.1 a0 1)) : Int)) (h55 : 0 ≤ (Int32.ofInt (6)).toInt ∧ (Int32.ofInt (6)).toInt < (τ52.2.1 (q_r (τ52.1 a0 1)) : Int)) (ew56 : τ56 = q_w τ52 (q_r (τ52.1 a0 1)) (Int32.ofInt (6)).toNatClampNeg (.int (if (Int32.ofInt (0)) < ((q_i (τ52.1 (q_r (τ52.1 a0 1)) (Int32.ofInt (6)).toNatClampNeg)) - (q_i (τ52.1 (q_r (τ52.1 a0 1)) (Int32.ofInt (10)).toNatClampNeg))) then ((q_i (τ52.1 (q_r (τ52.1 a0 1)) (Int32.ofInt (6)).toNatClampNeg)) - (q_i (τ52.1 (q_r (τ52.1 a0 1)) (Int32.ofInt (10)).toNatClampNeg))) else (Int32.ofInt (0))))) (h57 : a1.toInt = (0 : Int)) (g75 : p_263 a0 r1 τ56 τ75) (h76 : 0 ≤ (Int32.ofInt (4)).toInt ∧ (Int32.ofInt (4)).toInt < (τ75.2.1 (q_r (τ75.1 a0 1)) : Int)) (g77 : p_187 (q_i (τ75.1 (q_r (τ75.1 a0 1)) (Int32.ofInt (4)).toNatClampNeg)) τ75 r77 τ77) (h78 : 0 ≤ (Int32.ofInt (4)).toInt ∧ (Int32.ofInt (4)).toInt < (τ77.2.1 (q_r (τ75.1 a0 1)) : Int)) (ew79 : τ79 = q_w τ77 (q_r (τ75.1 a0 1)) (Int32.ofInt (4)).toNatClampNeg (.int r77)) (h80 : 0 ≤ (Int32.ofInt (4)).toInt ∧ (Int32.ofInt (4)).toInt < (τ79.2.1 (q_r (τ79.1 a0 1)) : Int)) (h81 : (q_i (τ79.1 (q_r (τ79.1 a0 1)) (Int32.ofInt (4)).toNatClampNeg)).toInt ≠ (0 : Int)) (h82 : r1.toInt = (-1 : Int)) :
    p_265 (a0) (a1) σ (Int32.ofInt (0)) τ79 := by
  rintro rfl A nf nt Lo K I
  obtain ⟨hn, e4, hin⟩ := I.in
  have k6 := I.1.2.1
  have q1 : (Int32.ofInt (-1)).toInt = -1 := rfl
  obtain ⟨e1, g1⟩ := g1
  subst e1
  have x1 := g1 rfl A K.1 _ e4 hn
  exact absurd h82 h2
theorem sp_265_efftft (a0 : Nat) (a1 : Int32) (σ : zSg) (τ1 : zSg) (r1 : Int32) (τ44 : zSg) (r44 : Int32) (τ46 : zSg) (r46 : Int32) (τ49 : zSg) (τ52 : zSg) (τ56 : zSg) (τ75 : zSg) (τ77 : zSg) (r77 : Int32) (τ79 : zSg) (τ83 : zSg) (r83 : Int32) (τ85 : zSg) (r85 : Int32) (g1 : p_188 a0 σ r1 τ1) (h2 : r1.toInt ≠ (-1 : Int)) (h43 : 0 ≤ (Int32.ofInt (4)).toInt ∧ (Int32.ofInt (4)).toInt < (τ1.2.1 (q_r (τ1.1 a0 1)) : Int)) (g44 : p_239 a0 r1 (q_i (τ1.1 (q_r (τ1.1 a0 1)) (Int32.ofInt (4)).toNatClampNeg)) τ1 r44 τ44) (h45 : 0 ≤ (Int32.ofInt (4)).toInt ∧ (Int32.ofInt (4)).toInt < (τ44.2.1 (q_r (τ44.1 a0 1)) : Int)) (g46 : p_240 a0 r1 (q_i (τ44.1 (q_r (τ44.1 a0 1)) (Int32.ofInt (4)).toNatClampNeg)) τ44 r46 τ46) (h47 : 0 ≤ (Int32.ofInt (6)).toInt ∧ (Int32.ofInt (6)).toInt < (τ46.2.1 (q_r (τ46.1 a0 1)) : Int)) (h48 : 0 ≤ (Int32.ofInt (6)).toInt ∧ (Int32.ofInt (6)).toInt < (τ46.2.1 (q_r (τ46.1 a0 1)) : Int)) (ew49 : τ49 = q_w τ46 (q_r (τ46.1 a0 1)) (Int32.ofInt (6)).toNatClampNeg (.int (if ((q_i (τ46.1 (q_r (τ46.1 a0 1)) (Int32.ofInt (6)).toNatClampNeg)) + r44) < (Int32.ofInt (99)) then ((q_i (τ46.1 (q_r (τ46.1 a0 1)) (Int32.ofInt (6)).toNatClampNeg)) + r44) else (Int32.ofInt (99))))) (h50 : 0 ≤ (Int32.ofInt (7)).toInt ∧ (Int32.ofInt (7)).toInt < (τ49.2.1 (q_r (τ49.1 a0 1)) : Int)) (h51 : 0 ≤ (Int32.ofInt (7)).toInt ∧ (Int32.ofInt (7)).toInt < (τ49.2.1 (q_r (τ49.1 a0 1)) : Int)) (ew52 : τ52 = q_w τ49 (q_r (τ49.1 a0 1)) (Int32.ofInt (7)).toNatClampNeg (.int (if ((q_i (τ49.1 (q_r (τ49.1 a0 1)) (Int32.ofInt (7)).toNatClampNeg)) + r46) < (Int32.ofInt (99)) then ((q_i (τ49.1 (q_r (τ49.1 a0 1)) (Int32.ofInt (7)).toNatClampNeg)) + r46) else (Int32.ofInt (99))))) (h53 : 0 ≤ (Int32.ofInt (6)).toInt ∧ (Int32.ofInt (6)).toInt < (τ52.2.1 (q_r (τ52.1 a0 1)) : Int)) (h54 : 0 ≤ (Int32.ofInt (10)).toInt ∧ (Int32.ofInt (10)).toInt < (τ52.2.1 (q_r (τ52.1 a0 1)) : Int)) (h55 : 0 ≤ (Int32.ofInt (6)).toInt ∧ (Int32.ofInt (6)).toInt < (τ52.2.1 (q_r (τ52.1 a0 1)) : Int)) (ew56 : τ56 = q_w τ52 (q_r (τ52.1 a0 1)) (Int32.ofInt (6)).toNatClampNeg (.int (if (Int32.ofInt (0)) < ((q_i (τ52.1 (q_r (τ52.1 a0 1)) (Int32.ofInt (6)).toNatClampNeg)) - (q_i (τ52.1 (q_r (τ52.1 a0 1)) (Int32.ofInt (10)).toNatClampNeg))) then ((q_i (τ52.1 (q_r (τ52.1 a0 1)) (Int32.ofInt (6)).toNatClampNeg)) - (q_i (τ52.1 (q_r (τ52.1 a0 1)) (Int32.ofInt (10)).toNatClampNeg))) else (Int32.ofInt (0))))) (h57 : a1.toInt = (0 : Int)) (g75 : p_263 a0 r1 τ56 τ75) (h76 : 0 ≤ (Int32.ofInt (4)).toInt ∧ (Int32.ofInt (4)).toInt < (τ75.2.1 (q_r (τ75.1 a0 1)) : Int)) (g77 : p_187 (q_i (τ75.1 (q_r (τ75.1 a0 1)) (Int32.ofInt (4)).toNatClampNeg)) τ75 r77 τ77) (h78 : 0 ≤ (Int32.ofInt (4)).toInt ∧ (Int32.ofInt (4)).toInt < (τ77.2.1 (q_r (τ75.1 a0 1)) : Int)) (ew79 : τ79 = q_w τ77 (q_r (τ75.1 a0 1)) (Int32.ofInt (4)).toNatClampNeg (.int r77)) (h80 : 0 ≤ (Int32.ofInt (4)).toInt ∧ (Int32.ofInt (4)).toInt < (τ79.2.1 (q_r (τ79.1 a0 1)) : Int)) (h81 : (q_i (τ79.1 (q_r (τ79.1 a0 1)) (Int32.ofInt (4)).toNatClampNeg)).toInt ≠ (0 : Int)) (h82 : r1.toInt ≠ (-1 : Int)) (g83 : p_188 a0 τ79 r83 τ83) (h84 : r83.toInt ≠ r1.toInt) (g85 : p_264 a0 r1 τ83 r85 τ85) :
    p_265 (a0) (a1) σ r85 τ85 := by
  rintro rfl A nf nt Lo K I
  obtain ⟨hn, e4, hin⟩ := I.in
  have k6 := I.1.2.1
  have q1 : (Int32.ofInt (-1)).toInt = -1 := rfl
  obtain ⟨e1, g1⟩ := g1
  subst e1
  have x1 := g1 rfl A K.1 _ e4 hn
  rcases hin with ⟨hA, -⟩ | ⟨F, hF, hA, hOn⟩
  · exact absurd (by rw [x1, hA]; rfl) h2
  have x1 := x1.trans hA
  subst x1
  have w4 := (K.1.i (k := 4) (by omega)).trans e4
  simp only [K.1.q, kz4, w4] at g44
  obtain ⟨f2, x2⟩ := g44 rfl A nt Lo F (hN A) K rfl (by omega) rfl hn
  have K2 := K.fr f2
  have w4' := (K2.1.i (k := 4) (by omega)).trans e4
  simp only [K2.1.q, kz4, w4'] at g46
  obtain ⟨f3, x3⟩ := g46 rfl A nt Lo F (hN A) K2 rfl (by omega) rfl hn
  have K3 := K2.fr f3
  have y6 := K3.1.i (k := 6) (by omega)
  simp only [K3.1.q, kz6, y6, x2] at ew49
  have K4 := K3.1.ww (k := 6) (v := aMi (Int32.ofInt 99) (A 6 + (A (42 + 4 * F) + eSm Lo (eFa A nt F (hN A)) 0)))
  have f4 := (f2.h.tr f3.h).w (k := 6) (v := .int (aMi (Int32.ofInt 99) (A 6 + (A (42 + 4 * F) + eSm Lo (eFa A nt F (hN A)) 0)))) (by omega)
  have ew49 : τ49 = q_w τ46 206 6 (.int (aMi (Int32.ofInt 99) (A 6 + (A (42 + 4 * F) + eSm Lo (eFa A nt F (hN A)) 0)))) := ew49
  rw [← ew49] at K4 f4
  have y7 := (K4.i (k := 7) (by omega)).trans (aU_ne (by omega))
  simp only [K4.q, kz7, y7, x3] at ew52
  have K5 := K4.ww (k := 7) (v := aMi (Int32.ofInt 99) (A 7 + (A (41 + 4 * F) + eSm Lo (eFa A nt F (hN A)) 1)))
  have f5 := f4.w (k := 7) (v := .int (aMi (Int32.ofInt 99) (A 7 + (A (41 + 4 * F) + eSm Lo (eFa A nt F (hN A)) 1)))) (by omega)
  have ew52 : τ52 = q_w τ49 206 7 (.int (aMi (Int32.ofInt 99) (A 7 + (A (41 + 4 * F) + eSm Lo (eFa A nt F (hN A)) 1)))) := ew52
  rw [← ew52] at K5 f5
  have KM : rW τ52 (hWm Lo nt A (hN A) (hO (A (16 + hN A)))) := by rw [hOn]; exact K5
  have fM := f5
  have y6' := KM.i (k := 6) (by omega)
  have y10 := KM.i (k := 10) (by omega)
  simp only [KM.q, kz6, kz10, y6', y10] at ew56
  have KC := KM.ww (k := 6) (v := aMa (Int32.ofInt 0) (hWm Lo nt A (hN A) (hO (A (16 + hN A))) 6 - hWm Lo nt A (hN A) (hO (A (16 + hN A))) 10))
  have fC := fM.w (k := 6) (v := .int (aMa (Int32.ofInt 0) (hWm Lo nt A (hN A) (hO (A (16 + hN A))) 6 - hWm Lo nt A (hN A) (hO (A (16 + hN A))) 10))) (by omega)
  have ew56 : τ56 = q_w τ52 206 6 (.int (aMa (Int32.ofInt 0) (hWm Lo nt A (hN A) (hO (A (16 + hN A))) 6 - hWm Lo nt A (hN A) (hO (A (16 + hN A))) 10))) := ew56
  rw [← ew56] at KC fC
  have KC : rW τ56 (hCd (hWm Lo nt A (hN A) (hO (A (16 + hN A))))) := KC
  obtain ⟨fV, KV⟩ := (g75 rfl _ KC).2 F (by omega) rfl
  have fV := fC.tr fV
  have KV : rW τ75 (hMd Lo nt false A) := by
    show rW τ75 (hVi (hCd (hWm Lo nt A (hN A) (hO (A (16 + hN A))))) (hO (A (16 + hN A))))
    rw [show hO (A (16 + hN A)) = some F from hOn] at KV ⊢
    exact KV
  have e4m : hMd Lo nt false A 4 = Int32.ofNat (hN A) := (hMd_4 I (by omega)).trans e4
  have v4 := (KV.i (k := 4) (by omega)).trans e4m
  obtain ⟨e5, g5⟩ := g77
  have x5 : r77 = Int32.ofNat ((hN A + 1) % 24) := g5 (hN A) (by simp only [KV.q, kz4, v4]) hn
  subst e5
  simp only [KV.q, kz4, x5] at ew79
  have KT := KV.ww (k := 4) (v := Int32.ofNat ((hN A + 1) % 24))
  have fT := fV.w (k := 4) (v := .int (Int32.ofNat ((hN A + 1) % 24))) (by omega)
  rw [← ew79] at KT fT
  have v4' := (KT.i (k := 4) (by omega)).trans aU_at
  simp only [KT.q, kz4, v4'] at h81
  rw [o32 (by omega)] at h81
  have h23 : hN A ≠ 23 := by omega
  have fK := fT
  have KK : rW τ79 (hCk (hMd Lo nt false A) (hN A)) := by
    have e : hCk (hMd Lo nt false A) (hN A) = aU (hMd Lo nt false A) 4 (Int32.ofNat ((hN A + 1) % 24)) := by
      unfold hCk
      rw [if_neg h23, show (hN A + 1) % 24 = hN A + 1 by omega]
    rw [e]
    exact KT
  have IT := (I.md (Lo := Lo) (calm := false)).ck hn
  obtain ⟨hn', e4', -⟩ := IT.in
  obtain ⟨e9, g9⟩ := g83
  subst e9
  have x9 := g9 rfl _ KK _ e4' hn'
  rw [x9] at h84
  refine ⟨fun vz => ?_, fun vz => absurd h57 vz⟩
  have er : hHr Lo nt false A = hFi Lo nt (hCk (hMd Lo nt false A) (hN A)) F (hN (hCk (hMd Lo nt false A) (hN A))) nt := by
    unfold hHr hEd
    rw [if_neg, hA, o32n (by omega)]
    rintro (q | q)
    · rw [hA] at q
      have := congrArg Int32.toInt q
      rw [o32 (by omega), q1] at this
      omega
    · rw [hA] at q
      exact h84 (by rw [q])
  rw [er]
  have e3 : hCk (hMd Lo nt false A) (hN A) 3 = A 3 := (hCk_k (by omega) (by omega)).trans (hMd_4 I (by omega))
  obtain ⟨fF, KF, xF⟩ := g85 rfl _ nf nt F _ Lo (K.hr fK KK IT e3) IT rfl hF e4' hn'
  exact ⟨fK.tr fF, KF, xF⟩
theorem sp_265_efftff (a0 : Nat) (a1 : Int32) (σ : zSg) (τ1 : zSg) (r1 : Int32) (τ44 : zSg) (r44 : Int32) (τ46 : zSg) (r46 : Int32) (τ49 : zSg) (τ52 : zSg) (τ56 : zSg) (τ75 : zSg) (τ77 : zSg) (r77 : Int32) (τ79 : zSg) (τ83 : zSg) (r83 : Int32) (g1 : p_188 a0 σ r1 τ1) (h2 : r1.toInt ≠ (-1 : Int)) (h43 : 0 ≤ (Int32.ofInt (4)).toInt ∧ (Int32.ofInt (4)).toInt < (τ1.2.1 (q_r (τ1.1 a0 1)) : Int)) (g44 : p_239 a0 r1 (q_i (τ1.1 (q_r (τ1.1 a0 1)) (Int32.ofInt (4)).toNatClampNeg)) τ1 r44 τ44) (h45 : 0 ≤ (Int32.ofInt (4)).toInt ∧ (Int32.ofInt (4)).toInt < (τ44.2.1 (q_r (τ44.1 a0 1)) : Int)) (g46 : p_240 a0 r1 (q_i (τ44.1 (q_r (τ44.1 a0 1)) (Int32.ofInt (4)).toNatClampNeg)) τ44 r46 τ46) (h47 : 0 ≤ (Int32.ofInt (6)).toInt ∧ (Int32.ofInt (6)).toInt < (τ46.2.1 (q_r (τ46.1 a0 1)) : Int)) (h48 : 0 ≤ (Int32.ofInt (6)).toInt ∧ (Int32.ofInt (6)).toInt < (τ46.2.1 (q_r (τ46.1 a0 1)) : Int)) (ew49 : τ49 = q_w τ46 (q_r (τ46.1 a0 1)) (Int32.ofInt (6)).toNatClampNeg (.int (if ((q_i (τ46.1 (q_r (τ46.1 a0 1)) (Int32.ofInt (6)).toNatClampNeg)) + r44) < (Int32.ofInt (99)) then ((q_i (τ46.1 (q_r (τ46.1 a0 1)) (Int32.ofInt (6)).toNatClampNeg)) + r44) else (Int32.ofInt (99))))) (h50 : 0 ≤ (Int32.ofInt (7)).toInt ∧ (Int32.ofInt (7)).toInt < (τ49.2.1 (q_r (τ49.1 a0 1)) : Int)) (h51 : 0 ≤ (Int32.ofInt (7)).toInt ∧ (Int32.ofInt (7)).toInt < (τ49.2.1 (q_r (τ49.1 a0 1)) : Int)) (ew52 : τ52 = q_w τ49 (q_r (τ49.1 a0 1)) (Int32.ofInt (7)).toNatClampNeg (.int (if ((q_i (τ49.1 (q_r (τ49.1 a0 1)) (Int32.ofInt (7)).toNatClampNeg)) + r46) < (Int32.ofInt (99)) then ((q_i (τ49.1 (q_r (τ49.1 a0 1)) (Int32.ofInt (7)).toNatClampNeg)) + r46) else (Int32.ofInt (99))))) (h53 : 0 ≤ (Int32.ofInt (6)).toInt ∧ (Int32.ofInt (6)).toInt < (τ52.2.1 (q_r (τ52.1 a0 1)) : Int)) (h54 : 0 ≤ (Int32.ofInt (10)).toInt ∧ (Int32.ofInt (10)).toInt < (τ52.2.1 (q_r (τ52.1 a0 1)) : Int)) (h55 : 0 ≤ (Int32.ofInt (6)).toInt ∧ (Int32.ofInt (6)).toInt < (τ52.2.1 (q_r (τ52.1 a0 1)) : Int)) (ew56 : τ56 = q_w τ52 (q_r (τ52.1 a0 1)) (Int32.ofInt (6)).toNatClampNeg (.int (if (Int32.ofInt (0)) < ((q_i (τ52.1 (q_r (τ52.1 a0 1)) (Int32.ofInt (6)).toNatClampNeg)) - (q_i (τ52.1 (q_r (τ52.1 a0 1)) (Int32.ofInt (10)).toNatClampNeg))) then ((q_i (τ52.1 (q_r (τ52.1 a0 1)) (Int32.ofInt (6)).toNatClampNeg)) - (q_i (τ52.1 (q_r (τ52.1 a0 1)) (Int32.ofInt (10)).toNatClampNeg))) else (Int32.ofInt (0))))) (h57 : a1.toInt = (0 : Int)) (g75 : p_263 a0 r1 τ56 τ75) (h76 : 0 ≤ (Int32.ofInt (4)).toInt ∧ (Int32.ofInt (4)).toInt < (τ75.2.1 (q_r (τ75.1 a0 1)) : Int)) (g77 : p_187 (q_i (τ75.1 (q_r (τ75.1 a0 1)) (Int32.ofInt (4)).toNatClampNeg)) τ75 r77 τ77) (h78 : 0 ≤ (Int32.ofInt (4)).toInt ∧ (Int32.ofInt (4)).toInt < (τ77.2.1 (q_r (τ75.1 a0 1)) : Int)) (ew79 : τ79 = q_w τ77 (q_r (τ75.1 a0 1)) (Int32.ofInt (4)).toNatClampNeg (.int r77)) (h80 : 0 ≤ (Int32.ofInt (4)).toInt ∧ (Int32.ofInt (4)).toInt < (τ79.2.1 (q_r (τ79.1 a0 1)) : Int)) (h81 : (q_i (τ79.1 (q_r (τ79.1 a0 1)) (Int32.ofInt (4)).toNatClampNeg)).toInt ≠ (0 : Int)) (h82 : r1.toInt ≠ (-1 : Int)) (g83 : p_188 a0 τ79 r83 τ83) (h84 : r83.toInt = r1.toInt) :
    p_265 (a0) (a1) σ (Int32.ofInt (0)) τ83 := by
  rintro rfl A nf nt Lo K I
  obtain ⟨hn, e4, hin⟩ := I.in
  have k6 := I.1.2.1
  have q1 : (Int32.ofInt (-1)).toInt = -1 := rfl
  obtain ⟨e1, g1⟩ := g1
  subst e1
  have x1 := g1 rfl A K.1 _ e4 hn
  rcases hin with ⟨hA, -⟩ | ⟨F, hF, hA, hOn⟩
  · exact absurd (by rw [x1, hA]; rfl) h2
  have x1 := x1.trans hA
  subst x1
  have w4 := (K.1.i (k := 4) (by omega)).trans e4
  simp only [K.1.q, kz4, w4] at g44
  obtain ⟨f2, x2⟩ := g44 rfl A nt Lo F (hN A) K rfl (by omega) rfl hn
  have K2 := K.fr f2
  have w4' := (K2.1.i (k := 4) (by omega)).trans e4
  simp only [K2.1.q, kz4, w4'] at g46
  obtain ⟨f3, x3⟩ := g46 rfl A nt Lo F (hN A) K2 rfl (by omega) rfl hn
  have K3 := K2.fr f3
  have y6 := K3.1.i (k := 6) (by omega)
  simp only [K3.1.q, kz6, y6, x2] at ew49
  have K4 := K3.1.ww (k := 6) (v := aMi (Int32.ofInt 99) (A 6 + (A (42 + 4 * F) + eSm Lo (eFa A nt F (hN A)) 0)))
  have f4 := (f2.h.tr f3.h).w (k := 6) (v := .int (aMi (Int32.ofInt 99) (A 6 + (A (42 + 4 * F) + eSm Lo (eFa A nt F (hN A)) 0)))) (by omega)
  have ew49 : τ49 = q_w τ46 206 6 (.int (aMi (Int32.ofInt 99) (A 6 + (A (42 + 4 * F) + eSm Lo (eFa A nt F (hN A)) 0)))) := ew49
  rw [← ew49] at K4 f4
  have y7 := (K4.i (k := 7) (by omega)).trans (aU_ne (by omega))
  simp only [K4.q, kz7, y7, x3] at ew52
  have K5 := K4.ww (k := 7) (v := aMi (Int32.ofInt 99) (A 7 + (A (41 + 4 * F) + eSm Lo (eFa A nt F (hN A)) 1)))
  have f5 := f4.w (k := 7) (v := .int (aMi (Int32.ofInt 99) (A 7 + (A (41 + 4 * F) + eSm Lo (eFa A nt F (hN A)) 1)))) (by omega)
  have ew52 : τ52 = q_w τ49 206 7 (.int (aMi (Int32.ofInt 99) (A 7 + (A (41 + 4 * F) + eSm Lo (eFa A nt F (hN A)) 1)))) := ew52
  rw [← ew52] at K5 f5
  have KM : rW τ52 (hWm Lo nt A (hN A) (hO (A (16 + hN A)))) := by rw [hOn]; exact K5
  have fM := f5
  have y6' := KM.i (k := 6) (by omega)
  have y10 := KM.i (k := 10) (by omega)
  simp only [KM.q, kz6, kz10, y6', y10] at ew56
  have KC := KM.ww (k := 6) (v := aMa (Int32.ofInt 0) (hWm Lo nt A (hN A) (hO (A (16 + hN A))) 6 - hWm Lo nt A (hN A) (hO (A (16 + hN A))) 10))
  have fC := fM.w (k := 6) (v := .int (aMa (Int32.ofInt 0) (hWm Lo nt A (hN A) (hO (A (16 + hN A))) 6 - hWm Lo nt A (hN A) (hO (A (16 + hN A))) 10))) (by omega)
  have ew56 : τ56 = q_w τ52 206 6 (.int (aMa (Int32.ofInt 0) (hWm Lo nt A (hN A) (hO (A (16 + hN A))) 6 - hWm Lo nt A (hN A) (hO (A (16 + hN A))) 10))) := ew56
  rw [← ew56] at KC fC
  have KC : rW τ56 (hCd (hWm Lo nt A (hN A) (hO (A (16 + hN A))))) := KC
  obtain ⟨fV, KV⟩ := (g75 rfl _ KC).2 F (by omega) rfl
  have fV := fC.tr fV
  have KV : rW τ75 (hMd Lo nt false A) := by
    show rW τ75 (hVi (hCd (hWm Lo nt A (hN A) (hO (A (16 + hN A))))) (hO (A (16 + hN A))))
    rw [show hO (A (16 + hN A)) = some F from hOn] at KV ⊢
    exact KV
  have e4m : hMd Lo nt false A 4 = Int32.ofNat (hN A) := (hMd_4 I (by omega)).trans e4
  have v4 := (KV.i (k := 4) (by omega)).trans e4m
  obtain ⟨e5, g5⟩ := g77
  have x5 : r77 = Int32.ofNat ((hN A + 1) % 24) := g5 (hN A) (by simp only [KV.q, kz4, v4]) hn
  subst e5
  simp only [KV.q, kz4, x5] at ew79
  have KT := KV.ww (k := 4) (v := Int32.ofNat ((hN A + 1) % 24))
  have fT := fV.w (k := 4) (v := .int (Int32.ofNat ((hN A + 1) % 24))) (by omega)
  rw [← ew79] at KT fT
  have v4' := (KT.i (k := 4) (by omega)).trans aU_at
  simp only [KT.q, kz4, v4'] at h81
  rw [o32 (by omega)] at h81
  have h23 : hN A ≠ 23 := by omega
  have fK := fT
  have KK : rW τ79 (hCk (hMd Lo nt false A) (hN A)) := by
    have e : hCk (hMd Lo nt false A) (hN A) = aU (hMd Lo nt false A) 4 (Int32.ofNat ((hN A + 1) % 24)) := by
      unfold hCk
      rw [if_neg h23, show (hN A + 1) % 24 = hN A + 1 by omega]
    rw [e]
    exact KT
  have IT := (I.md (Lo := Lo) (calm := false)).ck hn
  obtain ⟨hn', e4', -⟩ := IT.in
  obtain ⟨e9, g9⟩ := g83
  subst e9
  have x9 := g9 rfl _ KK _ e4' hn'
  rw [x9] at h84
  refine ⟨fun vz => ?_, fun vz => absurd h57 vz⟩
  have er : hHr Lo nt false A = (hCk (hMd Lo nt false A) (hN A), 0) := by
    unfold hHr hEd
    rw [if_pos (Or.inr ?_)]
    rw [hA]
    exact Int32.toInt_inj.mp h84
  rw [er]
  exact ⟨fK, KK, rfl⟩
theorem sp_265_effft (a0 : Nat) (a1 : Int32) (σ : zSg) (τ1 : zSg) (r1 : Int32) (τ44 : zSg) (r44 : Int32) (τ46 : zSg) (r46 : Int32) (τ49 : zSg) (τ52 : zSg) (τ56 : zSg) (τ75 : zSg) (τ77 : zSg) (r77 : Int32) (τ79 : zSg) (τ88 : zSg) (g1 : p_188 a0 σ r1 τ1) (h2 : r1.toInt ≠ (-1 : Int)) (h43 : 0 ≤ (Int32.ofInt (4)).toInt ∧ (Int32.ofInt (4)).toInt < (τ1.2.1 (q_r (τ1.1 a0 1)) : Int)) (g44 : p_239 a0 r1 (q_i (τ1.1 (q_r (τ1.1 a0 1)) (Int32.ofInt (4)).toNatClampNeg)) τ1 r44 τ44) (h45 : 0 ≤ (Int32.ofInt (4)).toInt ∧ (Int32.ofInt (4)).toInt < (τ44.2.1 (q_r (τ44.1 a0 1)) : Int)) (g46 : p_240 a0 r1 (q_i (τ44.1 (q_r (τ44.1 a0 1)) (Int32.ofInt (4)).toNatClampNeg)) τ44 r46 τ46) (h47 : 0 ≤ (Int32.ofInt (6)).toInt ∧ (Int32.ofInt (6)).toInt < (τ46.2.1 (q_r (τ46.1 a0 1)) : Int)) (h48 : 0 ≤ (Int32.ofInt (6)).toInt ∧ (Int32.ofInt (6)).toInt < (τ46.2.1 (q_r (τ46.1 a0 1)) : Int)) (ew49 : τ49 = q_w τ46 (q_r (τ46.1 a0 1)) (Int32.ofInt (6)).toNatClampNeg (.int (if ((q_i (τ46.1 (q_r (τ46.1 a0 1)) (Int32.ofInt (6)).toNatClampNeg)) + r44) < (Int32.ofInt (99)) then ((q_i (τ46.1 (q_r (τ46.1 a0 1)) (Int32.ofInt (6)).toNatClampNeg)) + r44) else (Int32.ofInt (99))))) (h50 : 0 ≤ (Int32.ofInt (7)).toInt ∧ (Int32.ofInt (7)).toInt < (τ49.2.1 (q_r (τ49.1 a0 1)) : Int)) (h51 : 0 ≤ (Int32.ofInt (7)).toInt ∧ (Int32.ofInt (7)).toInt < (τ49.2.1 (q_r (τ49.1 a0 1)) : Int)) (ew52 : τ52 = q_w τ49 (q_r (τ49.1 a0 1)) (Int32.ofInt (7)).toNatClampNeg (.int (if ((q_i (τ49.1 (q_r (τ49.1 a0 1)) (Int32.ofInt (7)).toNatClampNeg)) + r46) < (Int32.ofInt (99)) then ((q_i (τ49.1 (q_r (τ49.1 a0 1)) (Int32.ofInt (7)).toNatClampNeg)) + r46) else (Int32.ofInt (99))))) (h53 : 0 ≤ (Int32.ofInt (6)).toInt ∧ (Int32.ofInt (6)).toInt < (τ52.2.1 (q_r (τ52.1 a0 1)) : Int)) (h54 : 0 ≤ (Int32.ofInt (10)).toInt ∧ (Int32.ofInt (10)).toInt < (τ52.2.1 (q_r (τ52.1 a0 1)) : Int)) (h55 : 0 ≤ (Int32.ofInt (6)).toInt ∧ (Int32.ofInt (6)).toInt < (τ52.2.1 (q_r (τ52.1 a0 1)) : Int)) (ew56 : τ56 = q_w τ52 (q_r (τ52.1 a0 1)) (Int32.ofInt (6)).toNatClampNeg (.int (if (Int32.ofInt (0)) < ((q_i (τ52.1 (q_r (τ52.1 a0 1)) (Int32.ofInt (6)).toNatClampNeg)) - (q_i (τ52.1 (q_r (τ52.1 a0 1)) (Int32.ofInt (10)).toNatClampNeg))) then ((q_i (τ52.1 (q_r (τ52.1 a0 1)) (Int32.ofInt (6)).toNatClampNeg)) - (q_i (τ52.1 (q_r (τ52.1 a0 1)) (Int32.ofInt (10)).toNatClampNeg))) else (Int32.ofInt (0))))) (h57 : a1.toInt = (0 : Int)) (g75 : p_263 a0 r1 τ56 τ75) (h76 : 0 ≤ (Int32.ofInt (4)).toInt ∧ (Int32.ofInt (4)).toInt < (τ75.2.1 (q_r (τ75.1 a0 1)) : Int)) (g77 : p_187 (q_i (τ75.1 (q_r (τ75.1 a0 1)) (Int32.ofInt (4)).toNatClampNeg)) τ75 r77 τ77) (h78 : 0 ≤ (Int32.ofInt (4)).toInt ∧ (Int32.ofInt (4)).toInt < (τ77.2.1 (q_r (τ75.1 a0 1)) : Int)) (ew79 : τ79 = q_w τ77 (q_r (τ75.1 a0 1)) (Int32.ofInt (4)).toNatClampNeg (.int r77)) (h80 : 0 ≤ (Int32.ofInt (4)).toInt ∧ (Int32.ofInt (4)).toInt < (τ79.2.1 (q_r (τ79.1 a0 1)) : Int)) (h81 : (q_i (τ79.1 (q_r (τ79.1 a0 1)) (Int32.ofInt (4)).toNatClampNeg)).toInt = (0 : Int)) (h86 : 0 ≤ (Int32.ofInt (5)).toInt ∧ (Int32.ofInt (5)).toInt < (τ79.2.1 (q_r (τ79.1 a0 1)) : Int)) (h87 : 0 ≤ (Int32.ofInt (5)).toInt ∧ (Int32.ofInt (5)).toInt < (τ79.2.1 (q_r (τ79.1 a0 1)) : Int)) (ew88 : τ88 = q_w τ79 (q_r (τ79.1 a0 1)) (Int32.ofInt (5)).toNatClampNeg (.int (if ((q_i (τ79.1 (q_r (τ79.1 a0 1)) (Int32.ofInt (5)).toNatClampNeg)) + (Int32.ofInt (1))) < (Int32.ofInt (9999)) then ((q_i (τ79.1 (q_r (τ79.1 a0 1)) (Int32.ofInt (5)).toNatClampNeg)) + (Int32.ofInt (1))) else (Int32.ofInt (9999))))) (h89 : r1.toInt = (-1 : Int)) :
    p_265 (a0) (a1) σ (Int32.ofInt (0)) τ88 := by
  rintro rfl A nf nt Lo K I
  obtain ⟨hn, e4, hin⟩ := I.in
  have k6 := I.1.2.1
  have q1 : (Int32.ofInt (-1)).toInt = -1 := rfl
  obtain ⟨e1, g1⟩ := g1
  subst e1
  have x1 := g1 rfl A K.1 _ e4 hn
  exact absurd h89 h2
theorem sp_265_efffft (a0 : Nat) (a1 : Int32) (σ : zSg) (τ1 : zSg) (r1 : Int32) (τ44 : zSg) (r44 : Int32) (τ46 : zSg) (r46 : Int32) (τ49 : zSg) (τ52 : zSg) (τ56 : zSg) (τ75 : zSg) (τ77 : zSg) (r77 : Int32) (τ79 : zSg) (τ88 : zSg) (τ90 : zSg) (r90 : Int32) (τ92 : zSg) (r92 : Int32) (g1 : p_188 a0 σ r1 τ1) (h2 : r1.toInt ≠ (-1 : Int)) (h43 : 0 ≤ (Int32.ofInt (4)).toInt ∧ (Int32.ofInt (4)).toInt < (τ1.2.1 (q_r (τ1.1 a0 1)) : Int)) (g44 : p_239 a0 r1 (q_i (τ1.1 (q_r (τ1.1 a0 1)) (Int32.ofInt (4)).toNatClampNeg)) τ1 r44 τ44) (h45 : 0 ≤ (Int32.ofInt (4)).toInt ∧ (Int32.ofInt (4)).toInt < (τ44.2.1 (q_r (τ44.1 a0 1)) : Int)) (g46 : p_240 a0 r1 (q_i (τ44.1 (q_r (τ44.1 a0 1)) (Int32.ofInt (4)).toNatClampNeg)) τ44 r46 τ46) (h47 : 0 ≤ (Int32.ofInt (6)).toInt ∧ (Int32.ofInt (6)).toInt < (τ46.2.1 (q_r (τ46.1 a0 1)) : Int)) (h48 : 0 ≤ (Int32.ofInt (6)).toInt ∧ (Int32.ofInt (6)).toInt < (τ46.2.1 (q_r (τ46.1 a0 1)) : Int)) (ew49 : τ49 = q_w τ46 (q_r (τ46.1 a0 1)) (Int32.ofInt (6)).toNatClampNeg (.int (if ((q_i (τ46.1 (q_r (τ46.1 a0 1)) (Int32.ofInt (6)).toNatClampNeg)) + r44) < (Int32.ofInt (99)) then ((q_i (τ46.1 (q_r (τ46.1 a0 1)) (Int32.ofInt (6)).toNatClampNeg)) + r44) else (Int32.ofInt (99))))) (h50 : 0 ≤ (Int32.ofInt (7)).toInt ∧ (Int32.ofInt (7)).toInt < (τ49.2.1 (q_r (τ49.1 a0 1)) : Int)) (h51 : 0 ≤ (Int32.ofInt (7)).toInt ∧ (Int32.ofInt (7)).toInt < (τ49.2.1 (q_r (τ49.1 a0 1)) : Int)) (ew52 : τ52 = q_w τ49 (q_r (τ49.1 a0 1)) (Int32.ofInt (7)).toNatClampNeg (.int (if ((q_i (τ49.1 (q_r (τ49.1 a0 1)) (Int32.ofInt (7)).toNatClampNeg)) + r46) < (Int32.ofInt (99)) then ((q_i (τ49.1 (q_r (τ49.1 a0 1)) (Int32.ofInt (7)).toNatClampNeg)) + r46) else (Int32.ofInt (99))))) (h53 : 0 ≤ (Int32.ofInt (6)).toInt ∧ (Int32.ofInt (6)).toInt < (τ52.2.1 (q_r (τ52.1 a0 1)) : Int)) (h54 : 0 ≤ (Int32.ofInt (10)).toInt ∧ (Int32.ofInt (10)).toInt < (τ52.2.1 (q_r (τ52.1 a0 1)) : Int)) (h55 : 0 ≤ (Int32.ofInt (6)).toInt ∧ (Int32.ofInt (6)).toInt < (τ52.2.1 (q_r (τ52.1 a0 1)) : Int)) (ew56 : τ56 = q_w τ52 (q_r (τ52.1 a0 1)) (Int32.ofInt (6)).toNatClampNeg (.int (if (Int32.ofInt (0)) < ((q_i (τ52.1 (q_r (τ52.1 a0 1)) (Int32.ofInt (6)).toNatClampNeg)) - (q_i (τ52.1 (q_r (τ52.1 a0 1)) (Int32.ofInt (10)).toNatClampNeg))) then ((q_i (τ52.1 (q_r (τ52.1 a0 1)) (Int32.ofInt (6)).toNatClampNeg)) - (q_i (τ52.1 (q_r (τ52.1 a0 1)) (Int32.ofInt (10)).toNatClampNeg))) else (Int32.ofInt (0))))) (h57 : a1.toInt = (0 : Int)) (g75 : p_263 a0 r1 τ56 τ75) (h76 : 0 ≤ (Int32.ofInt (4)).toInt ∧ (Int32.ofInt (4)).toInt < (τ75.2.1 (q_r (τ75.1 a0 1)) : Int)) (g77 : p_187 (q_i (τ75.1 (q_r (τ75.1 a0 1)) (Int32.ofInt (4)).toNatClampNeg)) τ75 r77 τ77) (h78 : 0 ≤ (Int32.ofInt (4)).toInt ∧ (Int32.ofInt (4)).toInt < (τ77.2.1 (q_r (τ75.1 a0 1)) : Int)) (ew79 : τ79 = q_w τ77 (q_r (τ75.1 a0 1)) (Int32.ofInt (4)).toNatClampNeg (.int r77)) (h80 : 0 ≤ (Int32.ofInt (4)).toInt ∧ (Int32.ofInt (4)).toInt < (τ79.2.1 (q_r (τ79.1 a0 1)) : Int)) (h81 : (q_i (τ79.1 (q_r (τ79.1 a0 1)) (Int32.ofInt (4)).toNatClampNeg)).toInt = (0 : Int)) (h86 : 0 ≤ (Int32.ofInt (5)).toInt ∧ (Int32.ofInt (5)).toInt < (τ79.2.1 (q_r (τ79.1 a0 1)) : Int)) (h87 : 0 ≤ (Int32.ofInt (5)).toInt ∧ (Int32.ofInt (5)).toInt < (τ79.2.1 (q_r (τ79.1 a0 1)) : Int)) (ew88 : τ88 = q_w τ79 (q_r (τ79.1 a0 1)) (Int32.ofInt (5)).toNatClampNeg (.int (if ((q_i (τ79.1 (q_r (τ79.1 a0 1)) (Int32.ofInt (5)).toNatClampNeg)) + (Int32.ofInt (1))) < (Int32.ofInt (9999)) then ((q_i (τ79.1 (q_r (τ79.1 a0 1)) (Int32.ofInt (5)).toNatClampNeg)) + (Int32.ofInt (1))) else (Int32.ofInt (9999))))) (h89 : r1.toInt ≠ (-1 : Int)) (g90 : p_188 a0 τ88 r90 τ90) (h91 : r90.toInt ≠ r1.toInt) (g92 : p_264 a0 r1 τ90 r92 τ92) :
    p_265 (a0) (a1) σ r92 τ92 := by
  rintro rfl A nf nt Lo K I
  obtain ⟨hn, e4, hin⟩ := I.in
  have k6 := I.1.2.1
  have q1 : (Int32.ofInt (-1)).toInt = -1 := rfl
  obtain ⟨e1, g1⟩ := g1
  subst e1
  have x1 := g1 rfl A K.1 _ e4 hn
  rcases hin with ⟨hA, -⟩ | ⟨F, hF, hA, hOn⟩
  · exact absurd (by rw [x1, hA]; rfl) h2
  have x1 := x1.trans hA
  subst x1
  have w4 := (K.1.i (k := 4) (by omega)).trans e4
  simp only [K.1.q, kz4, w4] at g44
  obtain ⟨f2, x2⟩ := g44 rfl A nt Lo F (hN A) K rfl (by omega) rfl hn
  have K2 := K.fr f2
  have w4' := (K2.1.i (k := 4) (by omega)).trans e4
  simp only [K2.1.q, kz4, w4'] at g46
  obtain ⟨f3, x3⟩ := g46 rfl A nt Lo F (hN A) K2 rfl (by omega) rfl hn
  have K3 := K2.fr f3
  have y6 := K3.1.i (k := 6) (by omega)
  simp only [K3.1.q, kz6, y6, x2] at ew49
  have K4 := K3.1.ww (k := 6) (v := aMi (Int32.ofInt 99) (A 6 + (A (42 + 4 * F) + eSm Lo (eFa A nt F (hN A)) 0)))
  have f4 := (f2.h.tr f3.h).w (k := 6) (v := .int (aMi (Int32.ofInt 99) (A 6 + (A (42 + 4 * F) + eSm Lo (eFa A nt F (hN A)) 0)))) (by omega)
  have ew49 : τ49 = q_w τ46 206 6 (.int (aMi (Int32.ofInt 99) (A 6 + (A (42 + 4 * F) + eSm Lo (eFa A nt F (hN A)) 0)))) := ew49
  rw [← ew49] at K4 f4
  have y7 := (K4.i (k := 7) (by omega)).trans (aU_ne (by omega))
  simp only [K4.q, kz7, y7, x3] at ew52
  have K5 := K4.ww (k := 7) (v := aMi (Int32.ofInt 99) (A 7 + (A (41 + 4 * F) + eSm Lo (eFa A nt F (hN A)) 1)))
  have f5 := f4.w (k := 7) (v := .int (aMi (Int32.ofInt 99) (A 7 + (A (41 + 4 * F) + eSm Lo (eFa A nt F (hN A)) 1)))) (by omega)
  have ew52 : τ52 = q_w τ49 206 7 (.int (aMi (Int32.ofInt 99) (A 7 + (A (41 + 4 * F) + eSm Lo (eFa A nt F (hN A)) 1)))) := ew52
  rw [← ew52] at K5 f5
  have KM : rW τ52 (hWm Lo nt A (hN A) (hO (A (16 + hN A)))) := by rw [hOn]; exact K5
  have fM := f5
  have y6' := KM.i (k := 6) (by omega)
  have y10 := KM.i (k := 10) (by omega)
  simp only [KM.q, kz6, kz10, y6', y10] at ew56
  have KC := KM.ww (k := 6) (v := aMa (Int32.ofInt 0) (hWm Lo nt A (hN A) (hO (A (16 + hN A))) 6 - hWm Lo nt A (hN A) (hO (A (16 + hN A))) 10))
  have fC := fM.w (k := 6) (v := .int (aMa (Int32.ofInt 0) (hWm Lo nt A (hN A) (hO (A (16 + hN A))) 6 - hWm Lo nt A (hN A) (hO (A (16 + hN A))) 10))) (by omega)
  have ew56 : τ56 = q_w τ52 206 6 (.int (aMa (Int32.ofInt 0) (hWm Lo nt A (hN A) (hO (A (16 + hN A))) 6 - hWm Lo nt A (hN A) (hO (A (16 + hN A))) 10))) := ew56
  rw [← ew56] at KC fC
  have KC : rW τ56 (hCd (hWm Lo nt A (hN A) (hO (A (16 + hN A))))) := KC
  obtain ⟨fV, KV⟩ := (g75 rfl _ KC).2 F (by omega) rfl
  have fV := fC.tr fV
  have KV : rW τ75 (hMd Lo nt false A) := by
    show rW τ75 (hVi (hCd (hWm Lo nt A (hN A) (hO (A (16 + hN A))))) (hO (A (16 + hN A))))
    rw [show hO (A (16 + hN A)) = some F from hOn] at KV ⊢
    exact KV
  have e4m : hMd Lo nt false A 4 = Int32.ofNat (hN A) := (hMd_4 I (by omega)).trans e4
  have v4 := (KV.i (k := 4) (by omega)).trans e4m
  obtain ⟨e5, g5⟩ := g77
  have x5 : r77 = Int32.ofNat ((hN A + 1) % 24) := g5 (hN A) (by simp only [KV.q, kz4, v4]) hn
  subst e5
  simp only [KV.q, kz4, x5] at ew79
  have KT := KV.ww (k := 4) (v := Int32.ofNat ((hN A + 1) % 24))
  have fT := fV.w (k := 4) (v := .int (Int32.ofNat ((hN A + 1) % 24))) (by omega)
  rw [← ew79] at KT fT
  have v4' := (KT.i (k := 4) (by omega)).trans aU_at
  simp only [KT.q, kz4, v4'] at h81
  rw [o32 (by omega)] at h81
  have h23 : hN A = 23 := by omega
  have v5 := (KT.i (k := 5) (by omega)).trans (aU_ne (by omega))
  simp only [KT.q, kz5, v5] at ew88
  have KT2 := KT.ww (k := 5) (v := aMi (Int32.ofInt 9999) (hMd Lo nt false A 5 + Int32.ofInt 1))
  have fT2 := fT.w (k := 5) (v := .int (aMi (Int32.ofInt 9999) (hMd Lo nt false A 5 + Int32.ofInt 1))) (by omega)
  have ew88 : τ88 = q_w τ79 206 5 (.int (aMi (Int32.ofInt 9999) (hMd Lo nt false A 5 + Int32.ofInt 1))) := ew88
  rw [← ew88] at KT2 fT2
  have fK := fT2
  have KK : rW τ88 (hCk (hMd Lo nt false A) (hN A)) := by
    have e : hCk (hMd Lo nt false A) (hN A) = aU (aU (hMd Lo nt false A) 4 (Int32.ofNat ((hN A + 1) % 24))) 5 (aMi (Int32.ofInt 9999) (hMd Lo nt false A 5 + Int32.ofInt 1)) := by
      unfold hCk
      rw [if_pos h23, h23]
      rfl
    rw [e]
    exact KT2
  have IT := (I.md (Lo := Lo) (calm := false)).ck hn
  obtain ⟨hn', e4', -⟩ := IT.in
  obtain ⟨e9, g9⟩ := g90
  subst e9
  have x9 := g9 rfl _ KK _ e4' hn'
  rw [x9] at h91
  refine ⟨fun vz => ?_, fun vz => absurd h57 vz⟩
  have er : hHr Lo nt false A = hFi Lo nt (hCk (hMd Lo nt false A) (hN A)) F (hN (hCk (hMd Lo nt false A) (hN A))) nt := by
    unfold hHr hEd
    rw [if_neg, hA, o32n (by omega)]
    rintro (q | q)
    · rw [hA] at q
      have := congrArg Int32.toInt q
      rw [o32 (by omega), q1] at this
      omega
    · rw [hA] at q
      exact h91 (by rw [q])
  rw [er]
  have e3 : hCk (hMd Lo nt false A) (hN A) 3 = A 3 := (hCk_k (by omega) (by omega)).trans (hMd_4 I (by omega))
  obtain ⟨fF, KF, xF⟩ := g92 rfl _ nf nt F _ Lo (K.hr fK KK IT e3) IT rfl hF e4' hn'
  exact ⟨fK.tr fF, KF, xF⟩
theorem sp_265_efffff (a0 : Nat) (a1 : Int32) (σ : zSg) (τ1 : zSg) (r1 : Int32) (τ44 : zSg) (r44 : Int32) (τ46 : zSg) (r46 : Int32) (τ49 : zSg) (τ52 : zSg) (τ56 : zSg) (τ75 : zSg) (τ77 : zSg) (r77 : Int32) (τ79 : zSg) (τ88 : zSg) (τ90 : zSg) (r90 : Int32) (g1 : p_188 a0 σ r1 τ1) (h2 : r1.toInt ≠ (-1 : Int)) (h43 : 0 ≤ (Int32.ofInt (4)).toInt ∧ (Int32.ofInt (4)).toInt < (τ1.2.1 (q_r (τ1.1 a0 1)) : Int)) (g44 : p_239 a0 r1 (q_i (τ1.1 (q_r (τ1.1 a0 1)) (Int32.ofInt (4)).toNatClampNeg)) τ1 r44 τ44) (h45 : 0 ≤ (Int32.ofInt (4)).toInt ∧ (Int32.ofInt (4)).toInt < (τ44.2.1 (q_r (τ44.1 a0 1)) : Int)) (g46 : p_240 a0 r1 (q_i (τ44.1 (q_r (τ44.1 a0 1)) (Int32.ofInt (4)).toNatClampNeg)) τ44 r46 τ46) (h47 : 0 ≤ (Int32.ofInt (6)).toInt ∧ (Int32.ofInt (6)).toInt < (τ46.2.1 (q_r (τ46.1 a0 1)) : Int)) (h48 : 0 ≤ (Int32.ofInt (6)).toInt ∧ (Int32.ofInt (6)).toInt < (τ46.2.1 (q_r (τ46.1 a0 1)) : Int)) (ew49 : τ49 = q_w τ46 (q_r (τ46.1 a0 1)) (Int32.ofInt (6)).toNatClampNeg (.int (if ((q_i (τ46.1 (q_r (τ46.1 a0 1)) (Int32.ofInt (6)).toNatClampNeg)) + r44) < (Int32.ofInt (99)) then ((q_i (τ46.1 (q_r (τ46.1 a0 1)) (Int32.ofInt (6)).toNatClampNeg)) + r44) else (Int32.ofInt (99))))) (h50 : 0 ≤ (Int32.ofInt (7)).toInt ∧ (Int32.ofInt (7)).toInt < (τ49.2.1 (q_r (τ49.1 a0 1)) : Int)) (h51 : 0 ≤ (Int32.ofInt (7)).toInt ∧ (Int32.ofInt (7)).toInt < (τ49.2.1 (q_r (τ49.1 a0 1)) : Int)) (ew52 : τ52 = q_w τ49 (q_r (τ49.1 a0 1)) (Int32.ofInt (7)).toNatClampNeg (.int (if ((q_i (τ49.1 (q_r (τ49.1 a0 1)) (Int32.ofInt (7)).toNatClampNeg)) + r46) < (Int32.ofInt (99)) then ((q_i (τ49.1 (q_r (τ49.1 a0 1)) (Int32.ofInt (7)).toNatClampNeg)) + r46) else (Int32.ofInt (99))))) (h53 : 0 ≤ (Int32.ofInt (6)).toInt ∧ (Int32.ofInt (6)).toInt < (τ52.2.1 (q_r (τ52.1 a0 1)) : Int)) (h54 : 0 ≤ (Int32.ofInt (10)).toInt ∧ (Int32.ofInt (10)).toInt < (τ52.2.1 (q_r (τ52.1 a0 1)) : Int)) (h55 : 0 ≤ (Int32.ofInt (6)).toInt ∧ (Int32.ofInt (6)).toInt < (τ52.2.1 (q_r (τ52.1 a0 1)) : Int)) (ew56 : τ56 = q_w τ52 (q_r (τ52.1 a0 1)) (Int32.ofInt (6)).toNatClampNeg (.int (if (Int32.ofInt (0)) < ((q_i (τ52.1 (q_r (τ52.1 a0 1)) (Int32.ofInt (6)).toNatClampNeg)) - (q_i (τ52.1 (q_r (τ52.1 a0 1)) (Int32.ofInt (10)).toNatClampNeg))) then ((q_i (τ52.1 (q_r (τ52.1 a0 1)) (Int32.ofInt (6)).toNatClampNeg)) - (q_i (τ52.1 (q_r (τ52.1 a0 1)) (Int32.ofInt (10)).toNatClampNeg))) else (Int32.ofInt (0))))) (h57 : a1.toInt = (0 : Int)) (g75 : p_263 a0 r1 τ56 τ75) (h76 : 0 ≤ (Int32.ofInt (4)).toInt ∧ (Int32.ofInt (4)).toInt < (τ75.2.1 (q_r (τ75.1 a0 1)) : Int)) (g77 : p_187 (q_i (τ75.1 (q_r (τ75.1 a0 1)) (Int32.ofInt (4)).toNatClampNeg)) τ75 r77 τ77) (h78 : 0 ≤ (Int32.ofInt (4)).toInt ∧ (Int32.ofInt (4)).toInt < (τ77.2.1 (q_r (τ75.1 a0 1)) : Int)) (ew79 : τ79 = q_w τ77 (q_r (τ75.1 a0 1)) (Int32.ofInt (4)).toNatClampNeg (.int r77)) (h80 : 0 ≤ (Int32.ofInt (4)).toInt ∧ (Int32.ofInt (4)).toInt < (τ79.2.1 (q_r (τ79.1 a0 1)) : Int)) (h81 : (q_i (τ79.1 (q_r (τ79.1 a0 1)) (Int32.ofInt (4)).toNatClampNeg)).toInt = (0 : Int)) (h86 : 0 ≤ (Int32.ofInt (5)).toInt ∧ (Int32.ofInt (5)).toInt < (τ79.2.1 (q_r (τ79.1 a0 1)) : Int)) (h87 : 0 ≤ (Int32.ofInt (5)).toInt ∧ (Int32.ofInt (5)).toInt < (τ79.2.1 (q_r (τ79.1 a0 1)) : Int)) (ew88 : τ88 = q_w τ79 (q_r (τ79.1 a0 1)) (Int32.ofInt (5)).toNatClampNeg (.int (if ((q_i (τ79.1 (q_r (τ79.1 a0 1)) (Int32.ofInt (5)).toNatClampNeg)) + (Int32.ofInt (1))) < (Int32.ofInt (9999)) then ((q_i (τ79.1 (q_r (τ79.1 a0 1)) (Int32.ofInt (5)).toNatClampNeg)) + (Int32.ofInt (1))) else (Int32.ofInt (9999))))) (h89 : r1.toInt ≠ (-1 : Int)) (g90 : p_188 a0 τ88 r90 τ90) (h91 : r90.toInt = r1.toInt) :
    p_265 (a0) (a1) σ (Int32.ofInt (0)) τ90 := by
  rintro rfl A nf nt Lo K I
  obtain ⟨hn, e4, hin⟩ := I.in
  have k6 := I.1.2.1
  have q1 : (Int32.ofInt (-1)).toInt = -1 := rfl
  obtain ⟨e1, g1⟩ := g1
  subst e1
  have x1 := g1 rfl A K.1 _ e4 hn
  rcases hin with ⟨hA, -⟩ | ⟨F, hF, hA, hOn⟩
  · exact absurd (by rw [x1, hA]; rfl) h2
  have x1 := x1.trans hA
  subst x1
  have w4 := (K.1.i (k := 4) (by omega)).trans e4
  simp only [K.1.q, kz4, w4] at g44
  obtain ⟨f2, x2⟩ := g44 rfl A nt Lo F (hN A) K rfl (by omega) rfl hn
  have K2 := K.fr f2
  have w4' := (K2.1.i (k := 4) (by omega)).trans e4
  simp only [K2.1.q, kz4, w4'] at g46
  obtain ⟨f3, x3⟩ := g46 rfl A nt Lo F (hN A) K2 rfl (by omega) rfl hn
  have K3 := K2.fr f3
  have y6 := K3.1.i (k := 6) (by omega)
  simp only [K3.1.q, kz6, y6, x2] at ew49
  have K4 := K3.1.ww (k := 6) (v := aMi (Int32.ofInt 99) (A 6 + (A (42 + 4 * F) + eSm Lo (eFa A nt F (hN A)) 0)))
  have f4 := (f2.h.tr f3.h).w (k := 6) (v := .int (aMi (Int32.ofInt 99) (A 6 + (A (42 + 4 * F) + eSm Lo (eFa A nt F (hN A)) 0)))) (by omega)
  have ew49 : τ49 = q_w τ46 206 6 (.int (aMi (Int32.ofInt 99) (A 6 + (A (42 + 4 * F) + eSm Lo (eFa A nt F (hN A)) 0)))) := ew49
  rw [← ew49] at K4 f4
  have y7 := (K4.i (k := 7) (by omega)).trans (aU_ne (by omega))
  simp only [K4.q, kz7, y7, x3] at ew52
  have K5 := K4.ww (k := 7) (v := aMi (Int32.ofInt 99) (A 7 + (A (41 + 4 * F) + eSm Lo (eFa A nt F (hN A)) 1)))
  have f5 := f4.w (k := 7) (v := .int (aMi (Int32.ofInt 99) (A 7 + (A (41 + 4 * F) + eSm Lo (eFa A nt F (hN A)) 1)))) (by omega)
  have ew52 : τ52 = q_w τ49 206 7 (.int (aMi (Int32.ofInt 99) (A 7 + (A (41 + 4 * F) + eSm Lo (eFa A nt F (hN A)) 1)))) := ew52
  rw [← ew52] at K5 f5
  have KM : rW τ52 (hWm Lo nt A (hN A) (hO (A (16 + hN A)))) := by rw [hOn]; exact K5
  have fM := f5
  have y6' := KM.i (k := 6) (by omega)
  have y10 := KM.i (k := 10) (by omega)
  simp only [KM.q, kz6, kz10, y6', y10] at ew56
  have KC := KM.ww (k := 6) (v := aMa (Int32.ofInt 0) (hWm Lo nt A (hN A) (hO (A (16 + hN A))) 6 - hWm Lo nt A (hN A) (hO (A (16 + hN A))) 10))
  have fC := fM.w (k := 6) (v := .int (aMa (Int32.ofInt 0) (hWm Lo nt A (hN A) (hO (A (16 + hN A))) 6 - hWm Lo nt A (hN A) (hO (A (16 + hN A))) 10))) (by omega)
  have ew56 : τ56 = q_w τ52 206 6 (.int (aMa (Int32.ofInt 0) (hWm Lo nt A (hN A) (hO (A (16 + hN A))) 6 - hWm Lo nt A (hN A) (hO (A (16 + hN A))) 10))) := ew56
  rw [← ew56] at KC fC
  have KC : rW τ56 (hCd (hWm Lo nt A (hN A) (hO (A (16 + hN A))))) := KC
  obtain ⟨fV, KV⟩ := (g75 rfl _ KC).2 F (by omega) rfl
  have fV := fC.tr fV
  have KV : rW τ75 (hMd Lo nt false A) := by
    show rW τ75 (hVi (hCd (hWm Lo nt A (hN A) (hO (A (16 + hN A))))) (hO (A (16 + hN A))))
    rw [show hO (A (16 + hN A)) = some F from hOn] at KV ⊢
    exact KV
  have e4m : hMd Lo nt false A 4 = Int32.ofNat (hN A) := (hMd_4 I (by omega)).trans e4
  have v4 := (KV.i (k := 4) (by omega)).trans e4m
  obtain ⟨e5, g5⟩ := g77
  have x5 : r77 = Int32.ofNat ((hN A + 1) % 24) := g5 (hN A) (by simp only [KV.q, kz4, v4]) hn
  subst e5
  simp only [KV.q, kz4, x5] at ew79
  have KT := KV.ww (k := 4) (v := Int32.ofNat ((hN A + 1) % 24))
  have fT := fV.w (k := 4) (v := .int (Int32.ofNat ((hN A + 1) % 24))) (by omega)
  rw [← ew79] at KT fT
  have v4' := (KT.i (k := 4) (by omega)).trans aU_at
  simp only [KT.q, kz4, v4'] at h81
  rw [o32 (by omega)] at h81
  have h23 : hN A = 23 := by omega
  have v5 := (KT.i (k := 5) (by omega)).trans (aU_ne (by omega))
  simp only [KT.q, kz5, v5] at ew88
  have KT2 := KT.ww (k := 5) (v := aMi (Int32.ofInt 9999) (hMd Lo nt false A 5 + Int32.ofInt 1))
  have fT2 := fT.w (k := 5) (v := .int (aMi (Int32.ofInt 9999) (hMd Lo nt false A 5 + Int32.ofInt 1))) (by omega)
  have ew88 : τ88 = q_w τ79 206 5 (.int (aMi (Int32.ofInt 9999) (hMd Lo nt false A 5 + Int32.ofInt 1))) := ew88
  rw [← ew88] at KT2 fT2
  have fK := fT2
  have KK : rW τ88 (hCk (hMd Lo nt false A) (hN A)) := by
    have e : hCk (hMd Lo nt false A) (hN A) = aU (aU (hMd Lo nt false A) 4 (Int32.ofNat ((hN A + 1) % 24))) 5 (aMi (Int32.ofInt 9999) (hMd Lo nt false A 5 + Int32.ofInt 1)) := by
      unfold hCk
      rw [if_pos h23, h23]
      rfl
    rw [e]
    exact KT2
  have IT := (I.md (Lo := Lo) (calm := false)).ck hn
  obtain ⟨hn', e4', -⟩ := IT.in
  obtain ⟨e9, g9⟩ := g90
  subst e9
  have x9 := g9 rfl _ KK _ e4' hn'
  rw [x9] at h91
  refine ⟨fun vz => ?_, fun vz => absurd h57 vz⟩
  have er : hHr Lo nt false A = (hCk (hMd Lo nt false A) (hN A), 0) := by
    unfold hHr hEd
    rw [if_pos (Or.inr ?_)]
    rw [hA]
    exact Int32.toInt_inj.mp h91
  rw [er]
  exact ⟨fK, KK, rfl⟩
noncomputable def qP_265 : zPp := fun as σ o σ' => match as with
  | [a0, a1] => ∃ r, o = .inl (some (.int r)) ∧ p_265 (q_r a0) (q_i a1) σ r σ'
  | _ => True
set_option maxRecDepth 100000 in
theorem sp_265 {sx : zX} (S188 : zEe sx 188 1 qP_188) (S187 : zEe sx 187 1 qP_187) (S264 : zEe sx 264 2 qP_264) (S263 : zEe sx 263 2 qP_263) (S239 : zEe sx 239 3 qP_239) (S240 : zEe sx 240 3 qP_240) : zEe sx 265 2 qP_265 := by
  refine zfle zJ_265 (sps := [(188, 1, qP_188), (187, 1, qP_187), (264, 2, qP_264), (263, 2, qP_263), (239, 3, qP_239), (240, 3, qP_240)]) (fun q hq => by
    simp only [List.mem_cons, List.not_mem_nil, or_false] at hq
    rcases hq with rfl | rfl | rfl | rfl | rfl | rfl
    · exact S188
    · exact S187
    · exact S264
    · exact S263
    · exact S239
    · exact S240) (fun as σ hl => ?_)
  match as, hl with
  | [a0, a1], _ =>
  refine ⟨[], 400, ?_, ?_⟩
  · exact fun q hq => absurd hq List.not_mem_nil
  · refine fun o1 τ1 g1 => ?_
    obtain ⟨r1, rfl, g1⟩ := g1
    refine And.intro (fun h2 => ?_) (fun h2 => ?_)
    · refine fun h3 => ?_
      refine fun h4 => ?_
      refine fun h5 => ?_
      refine And.intro (fun h7 => ?_) (fun h7 => ?_)
      · refine fun h8 => ?_
        refine fun o9 τ9 g9 => ?_
        obtain ⟨r9, rfl, g9⟩ := g9
        refine fun h10 => ?_
        refine fun h12 => ?_
        refine And.intro (fun h13 => ?_) (fun h13 => ?_)
        · refine And.intro (fun h14 => ?_) (fun h14 => ?_)
          · exact ⟨_, rfl, sp_265_etttt (q_r a0) (q_i a1) σ τ1 r1 _ τ9 r9 _ g1 (cm0t h2) (q_inp h3) (q_inp h4) (q_inp h5) rfl (cm1t h7) (q_inp h8) g9 (q_inp h10) rfl (q_inp h12) (cm1t h13) (cm0t h14)⟩
          · refine fun o15 τ15 g15 => ?_
            obtain ⟨r15, rfl, g15⟩ := g15
            refine And.intro (fun h16 => ?_) (fun h16 => ?_)
            · refine fun o17 τ17 g17 => ?_
              obtain ⟨r17, rfl, g17⟩ := g17
              exact ⟨_, rfl, sp_265_etttft (q_r a0) (q_i a1) σ τ1 r1 _ τ9 r9 _ τ15 r15 τ17 r17 g1 (cm0t h2) (q_inp h3) (q_inp h4) (q_inp h5) rfl (cm1t h7) (q_inp h8) g9 (q_inp h10) rfl (q_inp h12) (cm1t h13) (cm0f h14) g15 (cm1t h16) g17⟩
            · exact ⟨_, rfl, sp_265_etttff (q_r a0) (q_i a1) σ τ1 r1 _ τ9 r9 _ τ15 r15 g1 (cm0t h2) (q_inp h3) (q_inp h4) (q_inp h5) rfl (cm1t h7) (q_inp h8) g9 (q_inp h10) rfl (q_inp h12) (cm1t h13) (cm0f h14) g15 (cm1f h16)⟩
        · refine fun h18 => ?_
          refine fun h19 => ?_
          refine And.intro (fun h21 => ?_) (fun h21 => ?_)
          · exact ⟨_, rfl, sp_265_ettft (q_r a0) (q_i a1) σ τ1 r1 _ τ9 r9 _ _ g1 (cm0t h2) (q_inp h3) (q_inp h4) (q_inp h5) rfl (cm1t h7) (q_inp h8) g9 (q_inp h10) rfl (q_inp h12) (cm1f h13) (q_inp h18) (q_inp h19) rfl (cm0t h21)⟩
          · refine fun o22 τ22 g22 => ?_
            obtain ⟨r22, rfl, g22⟩ := g22
            refine And.intro (fun h23 => ?_) (fun h23 => ?_)
            · refine fun o24 τ24 g24 => ?_
              obtain ⟨r24, rfl, g24⟩ := g24
              exact ⟨_, rfl, sp_265_ettfft (q_r a0) (q_i a1) σ τ1 r1 _ τ9 r9 _ _ τ22 r22 τ24 r24 g1 (cm0t h2) (q_inp h3) (q_inp h4) (q_inp h5) rfl (cm1t h7) (q_inp h8) g9 (q_inp h10) rfl (q_inp h12) (cm1f h13) (q_inp h18) (q_inp h19) rfl (cm0f h21) g22 (cm1t h23) g24⟩
            · exact ⟨_, rfl, sp_265_ettfff (q_r a0) (q_i a1) σ τ1 r1 _ τ9 r9 _ _ τ22 r22 g1 (cm0t h2) (q_inp h3) (q_inp h4) (q_inp h5) rfl (cm1t h7) (q_inp h8) g9 (q_inp h10) rfl (q_inp h12) (cm1f h13) (q_inp h18) (q_inp h19) rfl (cm0f h21) g22 (cm1f h23)⟩
      · refine fun o25 τ25 g25 => ?_
        obtain ⟨rfl, g25⟩ := g25
        refine fun h26 => ?_
        refine fun o27 τ27 g27 => ?_
        obtain ⟨r27, rfl, g27⟩ := g27
        refine fun h28 => ?_
        refine fun h30 => ?_
        refine And.intro (fun h31 => ?_) (fun h31 => ?_)
        · refine And.intro (fun h32 => ?_) (fun h32 => ?_)
          · exact ⟨_, rfl, sp_265_etftt (q_r a0) (q_i a1) σ τ1 r1 _ τ25 τ27 r27 _ g1 (cm0t h2) (q_inp h3) (q_inp h4) (q_inp h5) rfl (cm1f h7) g25 (q_inp h26) g27 (q_inp h28) rfl (q_inp h30) (cm1t h31) (cm0t h32)⟩
          · refine fun o33 τ33 g33 => ?_
            obtain ⟨r33, rfl, g33⟩ := g33
            refine And.intro (fun h34 => ?_) (fun h34 => ?_)
            · refine fun o35 τ35 g35 => ?_
              obtain ⟨r35, rfl, g35⟩ := g35
              exact ⟨_, rfl, sp_265_etftft (q_r a0) (q_i a1) σ τ1 r1 _ τ25 τ27 r27 _ τ33 r33 τ35 r35 g1 (cm0t h2) (q_inp h3) (q_inp h4) (q_inp h5) rfl (cm1f h7) g25 (q_inp h26) g27 (q_inp h28) rfl (q_inp h30) (cm1t h31) (cm0f h32) g33 (cm1t h34) g35⟩
            · exact ⟨_, rfl, sp_265_etftff (q_r a0) (q_i a1) σ τ1 r1 _ τ25 τ27 r27 _ τ33 r33 g1 (cm0t h2) (q_inp h3) (q_inp h4) (q_inp h5) rfl (cm1f h7) g25 (q_inp h26) g27 (q_inp h28) rfl (q_inp h30) (cm1t h31) (cm0f h32) g33 (cm1f h34)⟩
        · refine fun h36 => ?_
          refine fun h37 => ?_
          refine And.intro (fun h39 => ?_) (fun h39 => ?_)
          · exact ⟨_, rfl, sp_265_etfft (q_r a0) (q_i a1) σ τ1 r1 _ τ25 τ27 r27 _ _ g1 (cm0t h2) (q_inp h3) (q_inp h4) (q_inp h5) rfl (cm1f h7) g25 (q_inp h26) g27 (q_inp h28) rfl (q_inp h30) (cm1f h31) (q_inp h36) (q_inp h37) rfl (cm0t h39)⟩
          · refine fun o40 τ40 g40 => ?_
            obtain ⟨r40, rfl, g40⟩ := g40
            refine And.intro (fun h41 => ?_) (fun h41 => ?_)
            · refine fun o42 τ42 g42 => ?_
              obtain ⟨r42, rfl, g42⟩ := g42
              exact ⟨_, rfl, sp_265_etffft (q_r a0) (q_i a1) σ τ1 r1 _ τ25 τ27 r27 _ _ τ40 r40 τ42 r42 g1 (cm0t h2) (q_inp h3) (q_inp h4) (q_inp h5) rfl (cm1f h7) g25 (q_inp h26) g27 (q_inp h28) rfl (q_inp h30) (cm1f h31) (q_inp h36) (q_inp h37) rfl (cm0f h39) g40 (cm1t h41) g42⟩
            · exact ⟨_, rfl, sp_265_etffff (q_r a0) (q_i a1) σ τ1 r1 _ τ25 τ27 r27 _ _ τ40 r40 g1 (cm0t h2) (q_inp h3) (q_inp h4) (q_inp h5) rfl (cm1f h7) g25 (q_inp h26) g27 (q_inp h28) rfl (q_inp h30) (cm1f h31) (q_inp h36) (q_inp h37) rfl (cm0f h39) g40 (cm1f h41)⟩
    · refine fun h43 => ?_
      refine fun o44 τ44 g44 => ?_
      obtain ⟨r44, rfl, g44⟩ := g44
      refine fun h45 => ?_
      refine fun o46 τ46 g46 => ?_
      obtain ⟨r46, rfl, g46⟩ := g46
      refine fun h47 => ?_
      refine fun h48 => ?_
      refine fun h50 => ?_
      refine fun h51 => ?_
      refine fun h53 => ?_
      refine fun h54 => ?_
      refine fun h55 => ?_
      refine And.intro (fun h57 => ?_) (fun h57 => ?_)
      · refine fun h58 => ?_
        refine fun o59 τ59 g59 => ?_
        obtain ⟨r59, rfl, g59⟩ := g59
        refine fun h60 => ?_
        refine fun h62 => ?_
        refine And.intro (fun h63 => ?_) (fun h63 => ?_)
        · refine And.intro (fun h64 => ?_) (fun h64 => ?_)
          · exact ⟨_, rfl, sp_265_efttt (q_r a0) (q_i a1) σ τ1 r1 τ44 r44 τ46 r46 _ _ _ τ59 r59 _ g1 (cm0f h2) (q_inp h43) g44 (q_inp h45) g46 (q_inp h47) (q_inp h48) rfl (q_inp h50) (q_inp h51) rfl (q_inp h53) (q_inp h54) (q_inp h55) rfl (cm1t h57) (q_inp h58) g59 (q_inp h60) rfl (q_inp h62) (cm1t h63) (cm0t h64)⟩
          · refine fun o65 τ65 g65 => ?_
            obtain ⟨r65, rfl, g65⟩ := g65
            refine And.intro (fun h66 => ?_) (fun h66 => ?_)
            · refine fun o67 τ67 g67 => ?_
              obtain ⟨r67, rfl, g67⟩ := g67
              exact ⟨_, rfl, sp_265_efttft (q_r a0) (q_i a1) σ τ1 r1 τ44 r44 τ46 r46 _ _ _ τ59 r59 _ τ65 r65 τ67 r67 g1 (cm0f h2) (q_inp h43) g44 (q_inp h45) g46 (q_inp h47) (q_inp h48) rfl (q_inp h50) (q_inp h51) rfl (q_inp h53) (q_inp h54) (q_inp h55) rfl (cm1t h57) (q_inp h58) g59 (q_inp h60) rfl (q_inp h62) (cm1t h63) (cm0f h64) g65 (cm1t h66) g67⟩
            · exact ⟨_, rfl, sp_265_efttff (q_r a0) (q_i a1) σ τ1 r1 τ44 r44 τ46 r46 _ _ _ τ59 r59 _ τ65 r65 g1 (cm0f h2) (q_inp h43) g44 (q_inp h45) g46 (q_inp h47) (q_inp h48) rfl (q_inp h50) (q_inp h51) rfl (q_inp h53) (q_inp h54) (q_inp h55) rfl (cm1t h57) (q_inp h58) g59 (q_inp h60) rfl (q_inp h62) (cm1t h63) (cm0f h64) g65 (cm1f h66)⟩
        · refine fun h68 => ?_
          refine fun h69 => ?_
          refine And.intro (fun h71 => ?_) (fun h71 => ?_)
          · exact ⟨_, rfl, sp_265_eftft (q_r a0) (q_i a1) σ τ1 r1 τ44 r44 τ46 r46 _ _ _ τ59 r59 _ _ g1 (cm0f h2) (q_inp h43) g44 (q_inp h45) g46 (q_inp h47) (q_inp h48) rfl (q_inp h50) (q_inp h51) rfl (q_inp h53) (q_inp h54) (q_inp h55) rfl (cm1t h57) (q_inp h58) g59 (q_inp h60) rfl (q_inp h62) (cm1f h63) (q_inp h68) (q_inp h69) rfl (cm0t h71)⟩
          · refine fun o72 τ72 g72 => ?_
            obtain ⟨r72, rfl, g72⟩ := g72
            refine And.intro (fun h73 => ?_) (fun h73 => ?_)
            · refine fun o74 τ74 g74 => ?_
              obtain ⟨r74, rfl, g74⟩ := g74
              exact ⟨_, rfl, sp_265_eftfft (q_r a0) (q_i a1) σ τ1 r1 τ44 r44 τ46 r46 _ _ _ τ59 r59 _ _ τ72 r72 τ74 r74 g1 (cm0f h2) (q_inp h43) g44 (q_inp h45) g46 (q_inp h47) (q_inp h48) rfl (q_inp h50) (q_inp h51) rfl (q_inp h53) (q_inp h54) (q_inp h55) rfl (cm1t h57) (q_inp h58) g59 (q_inp h60) rfl (q_inp h62) (cm1f h63) (q_inp h68) (q_inp h69) rfl (cm0f h71) g72 (cm1t h73) g74⟩
            · exact ⟨_, rfl, sp_265_eftfff (q_r a0) (q_i a1) σ τ1 r1 τ44 r44 τ46 r46 _ _ _ τ59 r59 _ _ τ72 r72 g1 (cm0f h2) (q_inp h43) g44 (q_inp h45) g46 (q_inp h47) (q_inp h48) rfl (q_inp h50) (q_inp h51) rfl (q_inp h53) (q_inp h54) (q_inp h55) rfl (cm1t h57) (q_inp h58) g59 (q_inp h60) rfl (q_inp h62) (cm1f h63) (q_inp h68) (q_inp h69) rfl (cm0f h71) g72 (cm1f h73)⟩
      · refine fun o75 τ75 g75 => ?_
        obtain ⟨rfl, g75⟩ := g75
        refine fun h76 => ?_
        refine fun o77 τ77 g77 => ?_
        obtain ⟨r77, rfl, g77⟩ := g77
        refine fun h78 => ?_
        refine fun h80 => ?_
        refine And.intro (fun h81 => ?_) (fun h81 => ?_)
        · refine And.intro (fun h82 => ?_) (fun h82 => ?_)
          · exact ⟨_, rfl, sp_265_efftt (q_r a0) (q_i a1) σ τ1 r1 τ44 r44 τ46 r46 _ _ _ τ75 τ77 r77 _ g1 (cm0f h2) (q_inp h43) g44 (q_inp h45) g46 (q_inp h47) (q_inp h48) rfl (q_inp h50) (q_inp h51) rfl (q_inp h53) (q_inp h54) (q_inp h55) rfl (cm1f h57) g75 (q_inp h76) g77 (q_inp h78) rfl (q_inp h80) (cm1t h81) (cm0t h82)⟩
          · refine fun o83 τ83 g83 => ?_
            obtain ⟨r83, rfl, g83⟩ := g83
            refine And.intro (fun h84 => ?_) (fun h84 => ?_)
            · refine fun o85 τ85 g85 => ?_
              obtain ⟨r85, rfl, g85⟩ := g85
              exact ⟨_, rfl, sp_265_efftft (q_r a0) (q_i a1) σ τ1 r1 τ44 r44 τ46 r46 _ _ _ τ75 τ77 r77 _ τ83 r83 τ85 r85 g1 (cm0f h2) (q_inp h43) g44 (q_inp h45) g46 (q_inp h47) (q_inp h48) rfl (q_inp h50) (q_inp h51) rfl (q_inp h53) (q_inp h54) (q_inp h55) rfl (cm1f h57) g75 (q_inp h76) g77 (q_inp h78) rfl (q_inp h80) (cm1t h81) (cm0f h82) g83 (cm1t h84) g85⟩
            · exact ⟨_, rfl, sp_265_efftff (q_r a0) (q_i a1) σ τ1 r1 τ44 r44 τ46 r46 _ _ _ τ75 τ77 r77 _ τ83 r83 g1 (cm0f h2) (q_inp h43) g44 (q_inp h45) g46 (q_inp h47) (q_inp h48) rfl (q_inp h50) (q_inp h51) rfl (q_inp h53) (q_inp h54) (q_inp h55) rfl (cm1f h57) g75 (q_inp h76) g77 (q_inp h78) rfl (q_inp h80) (cm1t h81) (cm0f h82) g83 (cm1f h84)⟩
        · refine fun h86 => ?_
          refine fun h87 => ?_
          refine And.intro (fun h89 => ?_) (fun h89 => ?_)
          · exact ⟨_, rfl, sp_265_effft (q_r a0) (q_i a1) σ τ1 r1 τ44 r44 τ46 r46 _ _ _ τ75 τ77 r77 _ _ g1 (cm0f h2) (q_inp h43) g44 (q_inp h45) g46 (q_inp h47) (q_inp h48) rfl (q_inp h50) (q_inp h51) rfl (q_inp h53) (q_inp h54) (q_inp h55) rfl (cm1f h57) g75 (q_inp h76) g77 (q_inp h78) rfl (q_inp h80) (cm1f h81) (q_inp h86) (q_inp h87) rfl (cm0t h89)⟩
          · refine fun o90 τ90 g90 => ?_
            obtain ⟨r90, rfl, g90⟩ := g90
            refine And.intro (fun h91 => ?_) (fun h91 => ?_)
            · refine fun o92 τ92 g92 => ?_
              obtain ⟨r92, rfl, g92⟩ := g92
              exact ⟨_, rfl, sp_265_efffft (q_r a0) (q_i a1) σ τ1 r1 τ44 r44 τ46 r46 _ _ _ τ75 τ77 r77 _ _ τ90 r90 τ92 r92 g1 (cm0f h2) (q_inp h43) g44 (q_inp h45) g46 (q_inp h47) (q_inp h48) rfl (q_inp h50) (q_inp h51) rfl (q_inp h53) (q_inp h54) (q_inp h55) rfl (cm1f h57) g75 (q_inp h76) g77 (q_inp h78) rfl (q_inp h80) (cm1f h81) (q_inp h86) (q_inp h87) rfl (cm0f h89) g90 (cm1t h91) g92⟩
            · exact ⟨_, rfl, sp_265_efffff (q_r a0) (q_i a1) σ τ1 r1 τ44 r44 τ46 r46 _ _ _ τ75 τ77 r77 _ _ τ90 r90 g1 (cm0f h2) (q_inp h43) g44 (q_inp h45) g46 (q_inp h47) (q_inp h48) rfl (q_inp h50) (q_inp h51) rfl (q_inp h53) (q_inp h54) (q_inp h55) rfl (cm1f h57) g75 (q_inp h76) g77 (q_inp h78) rfl (q_inp h80) (cm1f h81) (q_inp h86) (q_inp h87) rfl (cm0f h89) g90 (cm1f h91)⟩
theorem zJ_268 : zJ3 268 z_m268 z_c268 z_h268 := ⟨rfl, rfl, rfl⟩
noncomputable def p_268 (a : Nat) (n v : Int32) (σ : zSg) (r : Int32) (σ' : zSg) : Prop := a = 205 → ∀ A nf nt Lo N b, rEv σ A nt Lo → aI nf nt A → n = Int32.ofNat N → N ≤ 200 → ((v.toInt = 0 ∧ b = false) ∨ (v.toInt ≠ 0 ∧ b = true)) → rHF σ σ' ∧ rW σ' (hHs Lo nt b A N).1 ∧ r = Int32.ofNat (hHs Lo nt b A N).2
noncomputable def i_268 (a : Nat) (n v : Int32) (σ : zSg) (l0 : Nat) (l1 l2 l3 l4 : Int32) (τ : zSg) : Prop := l0 = a ∧ l1 = n ∧ l2 = v ∧ (a = 205 → ∀ A nf nt Lo N b, rEv σ A nt Lo → aI nf nt A → n = Int32.ofNat N → N ≤ 200 → ((v.toInt = 0 ∧ b = false) ∨ (v.toInt ≠ 0 ∧ b = true)) → rHF σ τ ∧ ∃ i, i ≤ N ∧ l4 = Int32.ofNat i ∧ l3 = Int32.ofNat (hHs Lo nt b A i).2 ∧ rW τ (hHs Lo nt b A i).1)
theorem sp_268_e (a0 : Nat) (a1 : Int32) (a2 : Int32) (σ : zSg)  :
    i_268 a0 a1 a2 σ a0 a1 a2 (Int32.ofInt (0)) (Int32.ofInt (0)) σ := by
  exact ⟨rfl, rfl, rfl, fun ea A nf nt Lo N b K I en hN0 hv => ⟨rHF.rf, 0, Nat.zero_le _, rfl, rfl, K.1⟩⟩
theorem sp_268_c4_t (a0 : Nat) (a1 : Int32) (a2 : Int32) (σ : zSg) (l0 : Nat) (l1 : Int32) (l2 : Int32) (l3 : Int32) (l4 : Int32) (τ : zSg) (hI : i_268 a0 a1 a2 σ l0 l1 l2 l3 l4 τ) (h1 : l4.toInt ≥ l1.toInt) :
    p_268 (a0) (a1) (a2) σ l3 τ := by
  obtain ⟨rfl, rfl, rfl, hI⟩ := hI
  rintro rfl A nf nt Lo N b K I rfl hN0 hv
  obtain ⟨fr, i, hi, rfl, rfl, KB⟩ := hI rfl A nf nt Lo N b K I rfl hN0 hv
  rw [o32 (by omega), o32 (by omega)] at h1
  have e : i = N := by omega
  subst e
  exact ⟨fr, KB, rfl⟩
theorem sp_268_c4_f (a0 : Nat) (a1 : Int32) (a2 : Int32) (σ : zSg) (l0 : Nat) (l1 : Int32) (l2 : Int32) (l3 : Int32) (l4 : Int32) (τ : zSg) (τ2 : zSg) (r2 : Int32) (hI : i_268 a0 a1 a2 σ l0 l1 l2 l3 l4 τ) (h1 : l4.toInt < l1.toInt) (g2 : p_265 l0 l2 τ r2 τ2) :
    i_268 a0 a1 a2 σ l0 l1 l2 (l3 + r2) (l4 + Int32.ofInt (1)) τ2 := by
  obtain ⟨rfl, rfl, rfl, hI⟩ := hI
  refine ⟨rfl, rfl, rfl, ?_⟩
  rintro rfl A nf nt Lo N b K I rfl hN0 hv
  obtain ⟨fr, i, hi, rfl, rfl, KB⟩ := hI rfl A nf nt Lo N b K I rfl hN0 hv
  rw [o32 (by omega), o32 (by omega)] at h1
  have IA := I.hs (Lo := Lo) (calm := b) i
  have KE := K.hr fr KB IA (hHs_k I (by omega) i)
  have g2 := g2 rfl _ nf nt Lo KE IA
  have R : rHF τ τ2 ∧ rW τ2 (hHr Lo nt b (hHs Lo nt b A i).1).1 ∧ r2 = Int32.ofNat (hHr Lo nt b (hHs Lo nt b A i).1).2 := by
    rcases hv with ⟨h1, rfl⟩ | ⟨h1, rfl⟩
    · exact g2.1 h1
    · exact g2.2 h1
  obtain ⟨f1, K1, x1⟩ := R
  refine ⟨fr.tr f1, i + 1, by omega, o32i (by omega), ?_, K1⟩
  rw [x1]
  exact (Int32.ofNat_add _ _).symm
noncomputable def qP_268 : zPp := fun as σ o σ' => match as with
  | [a0, a1, a2] => ∃ r, o = .inl (some (.int r)) ∧ p_268 (q_r a0) (q_i a1) (q_i a2) σ r σ'
  | _ => True
set_option maxRecDepth 100000 in
theorem sp_268 {sx : zX} (S265 : zEe sx 265 2 qP_265) : zEe sx 268 3 qP_268 := by
  refine zfle zJ_268 (sps := [(265, 2, qP_265)]) (fun q hq => by
    simp only [List.mem_cons, List.not_mem_nil, or_false] at hq
    rcases hq with rfl
    · exact S265) (fun as σ hl => ?_)
  match as, hl with
  | [a0, a1, a2], _ =>
  refine ⟨[(4, fun lo st τ => st = [] ∧ i_268 (q_r a0) (q_i a1) (q_i a2) σ (q_r (lo 0)) (q_i (lo 1)) (q_i (lo 2)) (q_i (lo 3)) (q_i (lo 4)) τ)], 400, ?_, ?_⟩
  · intro q hq
    simp only [List.mem_cons, List.not_mem_nil, or_false] at hq
    rcases hq with rfl
    · rintro lo st τ ⟨rfl, hI⟩
      refine ⟨400, ?_⟩
      refine And.intro (fun h1 => ?_) (fun h1 => ?_)
      · exact ⟨_, rfl, sp_268_c4_t (q_r a0) (q_i a1) (q_i a2) σ (q_r (lo 0)) (q_i (lo 1)) (q_i (lo 2)) (q_i (lo 3)) (q_i (lo 4)) τ hI (cm3t h1)⟩
      · refine fun o2 τ2 g2 => ?_
        obtain ⟨r2, rfl, g2⟩ := g2
        exact ⟨rfl, sp_268_c4_f (q_r a0) (q_i a1) (q_i a2) σ (q_r (lo 0)) (q_i (lo 1)) (q_i (lo 2)) (q_i (lo 3)) (q_i (lo 4)) τ τ2 r2 hI (cm3f h1) g2⟩
  · exact ⟨rfl, sp_268_e (q_r a0) (q_i a1) (q_i a2) σ ⟩
/-- the laws, seen through an act that was remembered -/
noncomputable def rX (σ σ' : zSg) (B : Nat → Int32) (N : Nat) : Prop := σ'.2 = σ.2 ∧ (∀ c k, ¬ (c = 206 ∧ k < 388) → c ≠ 213 → σ'.1 c k = (rY σ N).1 c k) ∧ rW σ' B
theorem rY_ne {σ : zSg} {N c k : Nat} (h1 : ¬ (c = 205 ∧ (k = 0 ∨ k = 7))) (h2 : c ≠ 210) : (rY σ N).1 c k = σ.1 c k := by
  unfold rY
  rw [rCy_ne (fun q => h2 q.1)]
  unfold rRm
  by_cases q : N = 12
  · rw [if_pos q, rCy_ne (fun q => h2 q.1)]
    exact q_w_ne (fun e1 e2 => h1 ⟨e1, Or.inl e2⟩)
  · rw [if_neg q, q_w_ne (fun e1 e2 => h1 ⟨e1, Or.inr e2⟩)]
    exact q_w_ne (fun e1 e2 => h1 ⟨e1, Or.inl e2⟩)
theorem rAc.ev {σ τ : zSg} {A : Nat → Int32} {N nt : Nat} {Lo : Option (Nat × List gLn4 × zSs)} (R : rAc σ τ A N) (K : rEv σ A nt Lo) : rEv τ A nt Lo := by
  obtain ⟨a1, a2, a3, a4, a5, a6⟩ := K
  exact ⟨R.2.2, (R.2.1 _ _ (by omega)).trans ((rY_ne (by omega) (by omega)).trans a2), a3, a4, a5, a6.of (fun k hk => (R.2.1 _ _ (by omega)).trans (rY_ne (by omega) (by omega))) rfl⟩
theorem rAc.x {σ τ υ : zSg} {A B : Nat → Int32} {N : Nat} (R : rAc σ τ A N) (f : rHF τ υ) (W : rW υ B) : rX σ υ B N := ⟨f.1.trans R.1, fun c k q1 q2 => (f.2 c k q1 q2).trans (R.2.1 c k q1), W⟩
theorem zJ_269 : zJ3 269 z_m269 z_c269 z_h269 := ⟨rfl, rfl, rfl⟩
noncomputable def p_269 (a : Nat) (n : Int32) (σ : zSg) (r : Int32) (σ' : zSg) : Prop := a = 205 → ∀ A N nf nt Lo, rJ σ A N → aI nf nt A → rEv σ A nt Lo → (¬ (1 ≤ n.toInt ∧ n.toInt ≤ 100) → r = Int32.ofInt 0 ∧ σ' = rTh σ 1) ∧ (∀ M, n = Int32.ofNat M → 1 ≤ M → M ≤ 100 → r = Int32.ofNat (hHs Lo nt false A M).2 ∧ rX σ σ' (hHs Lo nt false A M).1 N)
theorem sp_269_et (a0 : Nat) (a1 : Int32) (σ : zSg) (τ1 : zSg) (r1 : Int32) (τ5 : zSg) (τ6 : zSg) (r6 : Int32) (g1 : p_177 a1 (Int32.ofInt (1)) (Int32.ofInt (100)) (q_w σ a0 0 (.int (Int32.ofInt (0)))) r1 τ1) (h2 : r1.toInt ≠ (0 : Int)) (g5 : p_182 a0 τ1 τ5) (g6 : p_268 a0 a1 (Int32.ofInt (0)) τ5 r6 τ6) :
    p_269 (a0) (a1) σ r6 τ6 := by
  rintro rfl A N nf nt Lo K I W
  have w0 := K.w
  obtain ⟨e0, e1⟩ := g1
  subst e0
  rw [show (Int32.ofInt 1).toInt = 1 from rfl, show (Int32.ofInt 100).toInt = 100 from rfl] at e1
  have u := e1.mp h2
  refine ⟨fun w => absurd u w, fun M e h1 h2 => ?_⟩
  subst e
  obtain ⟨R, ks⟩ := K.rm g5
  obtain ⟨f3, K3, x3⟩ := g6 rfl A nf nt Lo M false (R.ev W) I rfl (by omega) (Or.inl ⟨rfl, rfl⟩)
  exact ⟨x3, R.x f3 K3⟩
theorem sp_269_ef (a0 : Nat) (a1 : Int32) (σ : zSg) (τ1 : zSg) (r1 : Int32) (g1 : p_177 a1 (Int32.ofInt (1)) (Int32.ofInt (100)) (q_w σ a0 0 (.int (Int32.ofInt (0)))) r1 τ1) (h2 : r1.toInt = (0 : Int)) :
    p_269 (a0) (a1) σ (Int32.ofInt (0)) (q_w τ1 a0 0 (.int (Int32.ofInt (1)))) := by
  rintro rfl A N nf nt Lo K I W
  have w0 := K.w
  obtain ⟨e0, e1⟩ := g1
  subst e0
  rw [show (Int32.ofInt 1).toInt = 1 from rfl, show (Int32.ofInt 100).toInt = 100 from rfl] at e1
  exact ⟨fun _ => ⟨rfl, r0_T⟩, fun M e h1 h2 => absurd (e1.mpr (by rw [e, o32 (by omega)]; omega)) (by omega)⟩
noncomputable def qP_269 : zPp := fun as σ o σ' => match as with
  | [a0, a1] => ∃ r, o = .inl (some (.int r)) ∧ p_269 (q_r a0) (q_i a1) σ r σ'
  | _ => True
set_option maxRecDepth 100000 in
theorem sp_269 {sx : zX} (S177 : zEe sx 177 3 qP_177) (S176 : zEe sx 176 3 qP_176) (S182 : zEe sx 182 1 qP_182) (S268 : zEe sx 268 3 qP_268) : zEe sx 269 2 qP_269 := by
  refine zfle zJ_269 (sps := [(177, 3, qP_177), (176, 3, qP_176), (182, 1, qP_182), (268, 3, qP_268)]) (fun q hq => by
    simp only [List.mem_cons, List.not_mem_nil, or_false] at hq
    rcases hq with rfl | rfl | rfl | rfl
    · exact S177
    · exact S176
    · exact S182
    · exact S268) (fun as σ hl => ?_)
  match as, hl with
  | [a0, a1], _ =>
  refine ⟨[], 400, ?_, ?_⟩
  · exact fun q hq => absurd hq List.not_mem_nil
  · refine fun o1 τ1 g1 => ?_
    obtain ⟨r1, rfl, g1⟩ := g1
    refine And.intro (fun h2 => ?_) (fun h2 => ?_)
    · refine fun o3 τ3 g3 => ?_
      obtain ⟨r3, rfl, rfl, y3, z3⟩ := g3
      have e3 := (z3 rfl).symm
      subst e3
      refine And.intro (fun _ => ?_) (fun h4 => absurd (show z_cmp 0 (Int32.ofInt (0)) 0 = false from h4) (by decide))
      refine fun o5 τ5 g5 => ?_
      obtain ⟨rfl, g5⟩ := g5
      refine fun o6 τ6 g6 => ?_
      obtain ⟨r6, rfl, g6⟩ := g6
      exact ⟨_, rfl, sp_269_et (q_r a0) (q_i a1) σ τ1 r1 τ5 τ6 r6 g1 (cm1t h2) g5 g6⟩
    · refine fun o7 τ7 g7 => ?_
      obtain ⟨r7, rfl, rfl, y7, z7⟩ := g7
      have e7 := (y7 (by decide)).symm
      subst e7
      refine And.intro (fun h8 => absurd (show z_cmp 0 (Int32.ofInt (1)) 0 = true from h8) (by decide)) (fun _ => ?_)
      exact ⟨_, rfl, sp_269_ef (q_r a0) (q_i a1) σ τ1 r1 g1 (cm1f h2)⟩
