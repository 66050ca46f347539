/-! an hour of the class, exact; printed with wip/gen/gen_di.py -/
noncomputable def hEF (b : Nat) (σ σ' : zSg) : Prop := σ'.2 = σ.2 ∧ ∀ c k, ¬ (b ≤ c ∧ c ≤ b + 12 ∧ ¬ (c = b ∧ k = 5)) → ¬ (219 ≤ c ∧ c % 6 = 5) → σ'.1 c k = σ.1 c k
section HEF
variable {σ τ υ : zSg} {b k : Nat} {A : Nat → Int32} {v : Value} {Lo : Option (Nat × List gLn4 × zSs)}
theorem hEF.rf : hEF b σ σ := ⟨rfl, fun _ _ _ _ => rfl⟩
theorem hEF.tr (h1 : hEF b σ τ) (h2 : hEF b τ υ) : hEF b σ υ := ⟨h2.1.trans h1.1, fun c k q1 q2 => (h2.2 c k q1 q2).trans (h1.2 c k q1 q2)⟩
theorem hHF.e (h : hHF b σ τ) : hEF b σ τ := ⟨h.1, fun c k q1 _ => h.2 c k q1⟩
theorem eFr.e (h : eFr b σ τ) : hEF b σ τ := ⟨h.1, fun c k q1 q2 => h.2 c k (by omega) q2⟩
theorem hW.ef (K : hW σ b Lo) (f : hEF b σ τ) (hb : b ≤ 192) : hW τ b Lo := by
  unfold hW at K ⊢
  match Lo, K with
  | none, K => exact (f.2 _ _ (by omega) (by omega)).trans K
  | some (L, ls, l), ⟨k1, k2, k3, k4, k5, k6⟩ => exact ⟨(f.2 _ _ (by omega) (by omega)).trans k1, k2, k3, k4.fr f.1 (fun c k q1 q2 q3 => f.2 c k (by omega) (by omega)), by rw [f.1]; exact k5, k6⟩
theorem hHF.tl {nx : Nat} {d h f w x z : Int32} : hHF b σ (cTl σ b nx d h f w x z) := ⟨rfl, fun c k q => cTl_ne (by omega) (by omega)⟩
end HEF
theorem zJ_39 : zJ3 39 z_m39 z_c39 z_h39 := ⟨rfl, rfl, rfl⟩
noncomputable def p_39 (x : Int32) (σ : zSg) (r : Int32) (σ' : zSg) : Prop := σ' = σ ∧ r = hSd x
theorem sp_39_e (a0 : Int32) (σ : zSg)  :
    p_39 (a0) σ (((Int32.ofInt (1103515245)) * a0) + (Int32.ofInt (12345))) σ := by
  exact ⟨rfl, rfl⟩
noncomputable def qP_39 : zPp := fun as σ o σ' => match as with
  | [a0] => ∃ r, o = .inl (some (.int r)) ∧ p_39 (q_i a0) σ r σ'
  | _ => True
set_option maxRecDepth 100000 in
theorem sp_39 {sx : zX}  : zEe sx 39 1 qP_39 := by
  refine zfle zJ_39 (sps := []) (fun q hq => absurd hq List.not_mem_nil) (fun as σ hl => ?_)
  match as, hl with
  | [a0], _ =>
  refine ⟨[], 400, ?_, ?_⟩
  · exact fun q hq => absurd hq List.not_mem_nil
  · exact ⟨_, rfl, sp_39_e (q_i a0) σ ⟩
theorem zJ_40 : zJ3 40 z_m40 z_c40 z_h40 := ⟨rfl, rfl, rfl⟩
noncomputable def p_40 (a : Nat) (x : Int32) (σ : zSg) (r : Int32) (σ' : zSg) : Prop := σ' = σ ∧ ∀ H, hH σ a H → (r.toInt ≠ 0 ↔ (hDr x).toInt < (H 13).toInt)
theorem sp_40_et (a0 : Nat) (a1 : Int32) (σ : zSg) (h1 : ((((a1.toUInt32 >>> ((Int32.ofInt (16)).toUInt32 &&& Int32.toUInt32 31)).toInt32) &&& (Int32.ofInt (32767))) - (((a1.toUInt32 >>> ((Int32.ofInt (16)).toUInt32 &&& Int32.toUInt32 31)).toInt32) &&& (Int32.ofInt (32767))) / (Int32.ofInt (100)) * (Int32.ofInt (100))).toInt ≥ (q_i (σ.1 a0 16)).toInt) :
    p_40 (a0) (a1) σ (Int32.ofInt (0)) σ := by
  refine ⟨rfl, fun H K => ?_⟩
  have w13 := K.p (hp_s (k := 13) (by omega) (by omega))
  simp only [Nat.reduceAdd] at w13
  rw [hDr_u, w13] at h1
  exact ⟨fun h => absurd rfl h, fun h => absurd h (by unfold hDr; omega)⟩
theorem sp_40_ef (a0 : Nat) (a1 : Int32) (σ : zSg) (h1 : ((((a1.toUInt32 >>> ((Int32.ofInt (16)).toUInt32 &&& Int32.toUInt32 31)).toInt32) &&& (Int32.ofInt (32767))) - (((a1.toUInt32 >>> ((Int32.ofInt (16)).toUInt32 &&& Int32.toUInt32 31)).toInt32) &&& (Int32.ofInt (32767))) / (Int32.ofInt (100)) * (Int32.ofInt (100))).toInt < (q_i (σ.1 a0 16)).toInt) :
    p_40 (a0) (a1) σ (Int32.ofInt (1)) σ := by
  refine ⟨rfl, fun H K => ?_⟩
  have w13 := K.p (hp_s (k := 13) (by omega) (by omega))
  simp only [Nat.reduceAdd] at w13
  rw [hDr_u, w13] at h1
  exact ⟨fun _ => by unfold hDr; omega, fun _ => by decide⟩
noncomputable def qP_40 : zPp := fun as σ o σ' => match as with
  | [a0, a1] => ∃ r, o = .inl (some (.int r)) ∧ p_40 (q_r a0) (q_i a1) σ r σ'
  | _ => True
set_option maxRecDepth 100000 in
theorem sp_40 {sx : zX}  : zEe sx 40 2 qP_40 := by
  refine zfle zJ_40 (sps := []) (fun q hq => absurd hq List.not_mem_nil) (fun as σ hl => ?_)
  match as, hl with
  | [a0, a1], _ =>
  refine ⟨[], 400, ?_, ?_⟩
  · exact fun q hq => absurd hq List.not_mem_nil
  · refine And.intro (fun h1 => ?_) (fun h1 => ?_)
    · exact ⟨_, rfl, sp_40_et (q_r a0) (q_i a1) σ (cm3t h1)⟩
    · exact ⟨_, rfl, sp_40_ef (q_r a0) (q_i a1) σ (cm3f h1)⟩
theorem zJ_57 : zJ3 57 z_m57 z_c57 z_h57 := ⟨rfl, rfl, rfl⟩
theorem lg_0 {σ : zSg} {b k i : Nat} {v : Value} : (q_w σ (b + 11) k v).1 (b + 10) i = σ.1 (b + 10) i := q_w_ne (fun e _ => by omega)
noncomputable def p_57 (a : Nat) (d h f w v : Int32) (σ σ' : zSg) : Prop := ∀ b H, a = b + 10 → hH σ b H → hHF b σ σ' ∧ hH σ' b (aTl H d h f w v)
theorem sp_57_et (a0 : Nat) (a1 : Int32) (a2 : Int32) (a3 : Int32) (a4 : Int32) (a5 : Int32) (σ : zSg) (h1 : ((q_i (σ.1 a0 1)) * (Int32.ofInt (5))).toInt < (0 : Int)) :
    p_57 (a0) (a1) (a2) (a3) (a4) (a5) σ σ := by
  rintro b H rfl K
  obtain ⟨nx, hx, ex, hg⟩ := K.2.2.2.1
  have x1 : q_i (σ.1 (b + 10) 1) = Int32.ofNat nx := by rw [ex]; rfl
  have e5 : Int32.ofNat nx * Int32.ofInt 5 = Int32.ofNat (5 * nx) := by rw [Int32.mul_comm]; exact (Int32.ofNat_mul 5 nx).symm
  have d0 := K.k hk_l
  have l3 := K.2.2.2.2.2.1
  rw [x1, e5, o32 (by omega)] at h1
  exact absurd h1 (by omega)
theorem sp_57_eft (a0 : Nat) (a1 : Int32) (a2 : Int32) (a3 : Int32) (a4 : Int32) (a5 : Int32) (σ : zSg) (τ4 : zSg) (τ6 : zSg) (τ8 : zSg) (τ10 : zSg) (τ12 : zSg) (τ13 : zSg) (τ14 : zSg) (h1 : ((q_i (σ.1 a0 1)) * (Int32.ofInt (5))).toInt ≥ (0 : Int)) (h2 : (((q_i (σ.1 a0 1)) * (Int32.ofInt (5))) + (Int32.ofInt (5))).toInt ≤ (Int32.ofNat (σ.2.1 (q_r (σ.1 a0 0)))).toInt) (h3 : 0 ≤ ((q_i (σ.1 a0 1)) * (Int32.ofInt (5))).toInt ∧ ((q_i (σ.1 a0 1)) * (Int32.ofInt (5))).toInt < (σ.2.1 (q_r (σ.1 a0 0)) : Int)) (ew4 : τ4 = q_w σ (q_r (σ.1 a0 0)) ((q_i (σ.1 a0 1)) * (Int32.ofInt (5))).toNatClampNeg (.int a1)) (h5 : 0 ≤ (((q_i (σ.1 a0 1)) * (Int32.ofInt (5))) + (Int32.ofInt (1))).toInt ∧ (((q_i (σ.1 a0 1)) * (Int32.ofInt (5))) + (Int32.ofInt (1))).toInt < (τ4.2.1 (q_r (τ4.1 a0 0)) : Int)) (ew6 : τ6 = q_w τ4 (q_r (τ4.1 a0 0)) (((q_i (σ.1 a0 1)) * (Int32.ofInt (5))) + (Int32.ofInt (1))).toNatClampNeg (.int a2)) (h7 : 0 ≤ (((q_i (σ.1 a0 1)) * (Int32.ofInt (5))) + (Int32.ofInt (2))).toInt ∧ (((q_i (σ.1 a0 1)) * (Int32.ofInt (5))) + (Int32.ofInt (2))).toInt < (τ6.2.1 (q_r (τ6.1 a0 0)) : Int)) (ew8 : τ8 = q_w τ6 (q_r (τ6.1 a0 0)) (((q_i (σ.1 a0 1)) * (Int32.ofInt (5))) + (Int32.ofInt (2))).toNatClampNeg (.int a3)) (h9 : 0 ≤ (((q_i (σ.1 a0 1)) * (Int32.ofInt (5))) + (Int32.ofInt (3))).toInt ∧ (((q_i (σ.1 a0 1)) * (Int32.ofInt (5))) + (Int32.ofInt (3))).toInt < (τ8.2.1 (q_r (τ8.1 a0 0)) : Int)) (ew10 : τ10 = q_w τ8 (q_r (τ8.1 a0 0)) (((q_i (σ.1 a0 1)) * (Int32.ofInt (5))) + (Int32.ofInt (3))).toNatClampNeg (.int a4)) (h11 : 0 ≤ (((q_i (σ.1 a0 1)) * (Int32.ofInt (5))) + (Int32.ofInt (4))).toInt ∧ (((q_i (σ.1 a0 1)) * (Int32.ofInt (5))) + (Int32.ofInt (4))).toInt < (τ10.2.1 (q_r (τ10.1 a0 0)) : Int)) (ew12 : τ12 = q_w τ10 (q_r (τ10.1 a0 0)) (((q_i (σ.1 a0 1)) * (Int32.ofInt (5))) + (Int32.ofInt (4))).toNatClampNeg (.int a5)) (ew13 : τ13 = q_w τ12 a0 1 (.int (((q_i (τ12.1 a0 1)) + (Int32.ofInt (1))) - ((q_i (τ12.1 a0 1)) + (Int32.ofInt (1))) / (Int32.ofInt (60)) * (Int32.ofInt (60))))) (ew14 : τ14 = q_w τ13 a0 2 (.int (if (Int32.ofInt (60)) < ((q_i (τ13.1 a0 2)) + (Int32.ofInt (1))) then (Int32.ofInt (60)) else ((q_i (τ13.1 a0 2)) + (Int32.ofInt (1)))))) :
    p_57 (a0) (a1) (a2) (a3) (a4) (a5) σ τ14 := by
  rintro b H rfl K
  obtain ⟨nx, hx, ex, hg⟩ := K.2.2.2.1
  have x1 : q_i (σ.1 (b + 10) 1) = Int32.ofNat nx := by rw [ex]; rfl
  have e5 : Int32.ofNat nx * Int32.ofInt 5 = Int32.ofNat (5 * nx) := by rw [Int32.mul_comm]; exact (Int32.ofNat_mul 5 nx).symm
  have d0 := K.k hk_l
  have l3 := K.2.2.2.2.2.1
  have n0 : (Int32.ofNat (5 * nx)).toNatClampNeg = 5 * nx := o32n (by omega)
  have n1 : (Int32.ofNat (5 * nx) + Int32.ofInt 1).toNatClampNeg = 5 * nx + 1 := by rw [show Int32.ofNat (5 * nx) + Int32.ofInt 1 = _ from ixB _ 1, o32n (by omega)]
  have n2 : (Int32.ofNat (5 * nx) + Int32.ofInt 2).toNatClampNeg = 5 * nx + 2 := by rw [show Int32.ofNat (5 * nx) + Int32.ofInt 2 = _ from ixB _ 2, o32n (by omega)]
  have n3 : (Int32.ofNat (5 * nx) + Int32.ofInt 3).toNatClampNeg = 5 * nx + 3 := by rw [show Int32.ofNat (5 * nx) + Int32.ofInt 3 = _ from ixB _ 3, o32n (by omega)]
  have n4 : (Int32.ofNat (5 * nx) + Int32.ofInt 4).toNatClampNeg = 5 * nx + 4 := by rw [show Int32.ofNat (5 * nx) + Int32.ofInt 4 = _ from ixB _ 4, o32n (by omega)]
  have s2 : q_i (σ.1 (b + 10) 2) = H 14 := K.p hp_14
  simp only [x1, e5, d0, n0] at ew4
  subst ew4
  simp only [lg_0, x1, e5, d0, n1] at ew6
  subst ew6
  simp only [lg_0, x1, e5, d0, n2] at ew8
  subst ew8
  simp only [lg_0, x1, e5, d0, n3] at ew10
  subst ew10
  simp only [lg_0, x1, e5, d0, n4] at ew12
  subst ew12
  simp only [lg_0, x1, n60 hx] at ew13
  subst ew13
  have r2 : ∀ (t : zSg) (u : Value), (q_w t (b + 10) 1 u).1 (b + 10) 2 = t.1 (b + 10) 2 := fun t u => q_w_ne (fun _ q => by omega)
  simp only [r2, lg_0, s2] at ew14
  subst ew14
  have e : ∀ z : zSg, z = cTl σ b nx a1 a2 a3 a4 a5 (aMi (Int32.ofInt 60) (H 14 + Int32.ofInt 1)) → hHF b σ z ∧ hH z b (aTl H a1 a2 a3 a4 a5) := fun z ez => by rw [ez]; exact ⟨hHF.tl, K.tl hx ex⟩
  refine e _ ?_
  rw [aMi_sw]
  rfl
theorem sp_57_eff (a0 : Nat) (a1 : Int32) (a2 : Int32) (a3 : Int32) (a4 : Int32) (a5 : Int32) (σ : zSg) (h1 : ((q_i (σ.1 a0 1)) * (Int32.ofInt (5))).toInt ≥ (0 : Int)) (h2 : (((q_i (σ.1 a0 1)) * (Int32.ofInt (5))) + (Int32.ofInt (5))).toInt > (Int32.ofNat (σ.2.1 (q_r (σ.1 a0 0)))).toInt) :
    p_57 (a0) (a1) (a2) (a3) (a4) (a5) σ σ := by
  rintro b H rfl K
  obtain ⟨nx, hx, ex, hg⟩ := K.2.2.2.1
  have x1 : q_i (σ.1 (b + 10) 1) = Int32.ofNat nx := by rw [ex]; rfl
  have e5 : Int32.ofNat nx * Int32.ofInt 5 = Int32.ofNat (5 * nx) := by rw [Int32.mul_comm]; exact (Int32.ofNat_mul 5 nx).symm
  have d0 := K.k hk_l
  have l3 := K.2.2.2.2.2.1
  simp only [x1, e5, d0, l3, show Int32.ofNat (5 * nx) + Int32.ofInt 5 = Int32.ofNat (5 * nx + 5) from ixB _ 5] at h2
  rw [o32 (by omega), o32 (by omega)] at h2
  exact absurd h2 (by omega)
noncomputable def qP_57 : zPp := fun as σ o σ' => match as with
  | [a0, a1, a2, a3, a4, a5] => o = .inl none ∧ p_57 (q_r a0) (q_i a1) (q_i a2) (q_i a3) (q_i a4) (q_i a5) σ σ'
  | _ => True
set_option maxRecDepth 100000 in
theorem sp_57 {sx : zX}  : zEe sx 57 6 qP_57 := by
  refine zfle zJ_57 (sps := []) (fun q hq => absurd hq List.not_mem_nil) (fun as σ hl => ?_)
  match as, hl with
  | [a0, a1, a2, a3, a4, a5], _ =>
  refine ⟨[], 400, ?_, ?_⟩
  · exact fun q hq => absurd hq List.not_mem_nil
  · refine And.intro (fun h1 => ?_) (fun h1 => ?_)
    · exact ⟨rfl, sp_57_et (q_r a0) (q_i a1) (q_i a2) (q_i a3) (q_i a4) (q_i a5) σ (cm2t h1)⟩
    · refine And.intro (fun h2 => ?_) (fun h2 => ?_)
      · refine fun h3 => ?_
        refine fun h5 => ?_
        refine fun h7 => ?_
        refine fun h9 => ?_
        refine fun h11 => ?_
        exact ⟨rfl, sp_57_eft (q_r a0) (q_i a1) (q_i a2) (q_i a3) (q_i a4) (q_i a5) σ _ _ _ _ _ _ _ (cm2f h1) (cm5t h2) (q_inp h3) rfl (q_inp h5) rfl (q_inp h7) rfl (q_inp h9) rfl (q_inp h11) rfl rfl rfl⟩
      · exact ⟨rfl, sp_57_eff (q_r a0) (q_i a1) (q_i a2) (q_i a3) (q_i a4) (q_i a5) σ (cm2f h1) (cm5f h2)⟩
theorem zJ_35 : zJ3 35 z_m35 z_c35 z_h35 := ⟨rfl, rfl, rfl⟩
noncomputable def p_35 (a : Nat) (f : Int32) (σ σ' : zSg) : Prop := ∀ H, hH σ a H → (f = Int32.ofInt (-1) → hHF a σ σ' ∧ hH σ' a (hVi H none)) ∧ (∀ F, F < 6 → f = Int32.ofNat F → hHF a σ σ' ∧ hH σ' a (hVi H (some F)))
theorem sp_35_et (a0 : Nat) (a1 : Int32) (σ : zSg) (τ1 : zSg) (r1 : Int32) (τ2 : zSg) (g1 : p_39 (q_i (σ.1 a0 17)) σ r1 τ1) (ew2 : τ2 = q_w τ1 a0 17 (.int r1)) (h3 : a1.toInt = (-1 : Int)) :
    p_35 (a0) (a1) σ τ2 := by
  intro H K
  have w15 : q_i (σ.1 a0 17) = H 15 := K.p hp_15
  obtain ⟨e1, rfl⟩ := g1
  subst e1
  rw [w15] at ew2
  subst ew2
  have K1 : hH (q_w τ1 a0 17 (.int (hSd (H 15)))) a0 (aU H 15 (hSd (H 15))) := K.ww hp_15
  have f1 : hHF a0 τ1 (q_w τ1 a0 17 (.int (hSd (H 15)))) := hHF.w hp_15
  refine ⟨fun _ => ⟨f1, K1⟩, fun F hF q => ?_⟩
  rw [q, o32 (by omega)] at h3
  exact absurd h3 (by omega)
theorem sp_35_eft (a0 : Nat) (a1 : Int32) (σ : zSg) (τ1 : zSg) (r1 : Int32) (τ2 : zSg) (τ4 : zSg) (r4 : Int32) (g1 : p_39 (q_i (σ.1 a0 17)) σ r1 τ1) (ew2 : τ2 = q_w τ1 a0 17 (.int r1)) (h3 : a1.toInt ≠ (-1 : Int)) (g4 : p_40 a0 (q_i (τ2.1 a0 17)) τ2 r4 τ4) (h5 : r4.toInt = (0 : Int)) :
    p_35 (a0) (a1) σ τ4 := by
  intro H K
  have w15 : q_i (σ.1 a0 17) = H 15 := K.p hp_15
  obtain ⟨e1, rfl⟩ := g1
  subst e1
  rw [w15] at ew2
  subst ew2
  have K1 : hH (q_w τ1 a0 17 (.int (hSd (H 15)))) a0 (aU H 15 (hSd (H 15))) := K.ww hp_15
  have f1 : hHF a0 τ1 (q_w τ1 a0 17 (.int (hSd (H 15)))) := hHF.w hp_15
  obtain ⟨e2, g2⟩ := g4
  subst e2
  rw [q_w_at, q_ii] at g2
  have g2 := g2 _ K1
  rw [aU_ne (show 13 ≠ 15 by omega)] at g2
  refine ⟨fun q => absurd (by rw [q]; rfl) h3, fun F hF q => ?_⟩
  subst q
  have hn : ¬ (hDr (hSd (H 15))).toInt < (H 13).toInt := fun w => g2.mpr w h5
  unfold hVi
  dsimp only
  rw [if_neg hn]
  exact ⟨f1, K1⟩
theorem sp_35_eff (a0 : Nat) (a1 : Int32) (σ : zSg) (τ1 : zSg) (r1 : Int32) (τ2 : zSg) (τ4 : zSg) (r4 : Int32) (τ6 : zSg) (τ7 : zSg) (τ8 : zSg) (g1 : p_39 (q_i (σ.1 a0 17)) σ r1 τ1) (ew2 : τ2 = q_w τ1 a0 17 (.int r1)) (h3 : a1.toInt ≠ (-1 : Int)) (g4 : p_40 a0 (q_i (τ2.1 a0 17)) τ2 r4 τ4) (h5 : r4.toInt ≠ (0 : Int)) (ew6 : τ6 = q_w τ4 a0 11 (.int (if ((q_i (τ4.1 a0 11)) + (Int32.ofInt (1))) < (Int32.ofInt (9)) then ((q_i (τ4.1 a0 11)) + (Int32.ofInt (1))) else (Int32.ofInt (9))))) (ew7 : τ7 = q_w τ6 a0 12 (.int a1)) (g8 : p_57 (q_r (τ7.1 a0 3)) (q_i (τ7.1 a0 8)) (q_i (τ7.1 a0 7)) a1 (Int32.ofInt (0)) (q_i (τ7.1 a0 11)) τ7 τ8) :
    p_35 (a0) (a1) σ τ8 := by
  intro H K
  have w15 : q_i (σ.1 a0 17) = H 15 := K.p hp_15
  obtain ⟨e1, rfl⟩ := g1
  subst e1
  rw [w15] at ew2
  subst ew2
  have K1 : hH (q_w τ1 a0 17 (.int (hSd (H 15)))) a0 (aU H 15 (hSd (H 15))) := K.ww hp_15
  have f1 : hHF a0 τ1 (q_w τ1 a0 17 (.int (hSd (H 15)))) := hHF.w hp_15
  obtain ⟨e2, g2⟩ := g4
  subst e2
  rw [q_w_at, q_ii] at g2
  have g2 := g2 _ K1
  rw [aU_ne (show 13 ≠ 15 by omega)] at g2
  refine ⟨fun q => absurd (by rw [q]; rfl) h3, fun F hF q => ?_⟩
  subst q
  have hn := g2.mp h5
  have y8 := K1.p (hp_s (k := 8) (by omega) (by omega))
  simp only [Nat.reduceAdd] at y8
  rw [aU_ne (by omega)] at y8
  rw [y8] at ew6
  subst ew6
  have K2 := K1.ww (v := aMi (Int32.ofInt 9) (H 8 + Int32.ofInt 1)) (hp_s (k := 8) (by omega) (by omega))
  have f2 := f1.tr (hHF.w (v := .int (aMi (Int32.ofInt 9) (H 8 + Int32.ofInt 1))) (hp_s (b := a0) (k := 8) (by omega) (by omega)))
  have K3 := K2.ww (v := Int32.ofNat F) (hp_s (k := 9) (by omega) (by omega))
  have f3 := f2.tr (hHF.w (v := .int (Int32.ofNat F)) (hp_s (b := a0) (k := 9) (by omega) (by omega)))
  simp only [Nat.reduceAdd] at K2 f2 K3 f3
  subst ew7
  have y3 := K3.k hk_3
  have z5 := K3.p (hp_s (k := 5) (by omega) (by omega))
  have z4 := K3.p (hp_s (k := 4) (by omega) (by omega))
  have z8 := K3.p (hp_s (k := 8) (by omega) (by omega))
  simp only [Nat.reduceAdd] at z5 z4 z8
  rw [aU_ne (by omega), aU_ne (by omega), aU_ne (by omega)] at z5 z4
  rw [aU_ne (by omega), aU_at] at z8
  have g8' := g8
  rw [show (if H 8 + Int32.ofInt (1) < Int32.ofInt (9) then H 8 + Int32.ofInt (1) else Int32.ofInt (9)) = aMi (Int32.ofInt 9) (H 8 + Int32.ofInt 1) from rfl] at g8'
  rw [y3, z5, z4, z8] at g8'
  obtain ⟨t1, t2⟩ := g8' a0 _ rfl K3
  unfold hVi
  dsimp only
  rw [if_pos hn]
  exact ⟨f3.tr t1, t2⟩
noncomputable def qP_35 : zPp := fun as σ o σ' => match as with
  | [a0, a1] => o = .inl none ∧ p_35 (q_r a0) (q_i a1) σ σ'
  | _ => True
set_option maxRecDepth 100000 in
theorem sp_35 {sx : zX} (S39 : zEe sx 39 1 qP_39) (S40 : zEe sx 40 2 qP_40) (S57 : zEe sx 57 6 qP_57) : zEe sx 35 2 qP_35 := by
  refine zfle zJ_35 (sps := [(39, 1, qP_39), (40, 2, qP_40), (57, 6, qP_57)]) (fun q hq => by
    simp only [List.mem_cons, List.not_mem_nil, or_false] at hq
    rcases hq with rfl | rfl | rfl
    · exact S39
    · exact S40
    · exact S57) (fun as σ hl => ?_)
  match as, hl with
  | [a0, a1], _ =>
  refine ⟨[], 400, ?_, ?_⟩
  · exact fun q hq => absurd hq List.not_mem_nil
  · refine fun o1 τ1 g1 => ?_
    obtain ⟨r1, rfl, g1⟩ := g1
    refine And.intro (fun h3 => ?_) (fun h3 => ?_)
    · exact ⟨rfl, sp_35_et (q_r a0) (q_i a1) σ τ1 r1 _ g1 rfl (cm0t h3)⟩
    · refine fun o4 τ4 g4 => ?_
      obtain ⟨r4, rfl, g4⟩ := g4
      refine And.intro (fun h5 => ?_) (fun h5 => ?_)
      · exact ⟨rfl, sp_35_eft (q_r a0) (q_i a1) σ τ1 r1 _ τ4 r4 g1 rfl (cm0f h3) g4 (cm0t h5)⟩
      · refine fun o8 τ8 g8 => ?_
        obtain ⟨rfl, g8⟩ := g8
        exact ⟨rfl, sp_35_eff (q_r a0) (q_i a1) σ τ1 r1 _ τ4 r4 _ _ τ8 g1 rfl (cm0f h3) g4 (cm0f h5) rfl rfl g8⟩
theorem zJ_36 : zJ3 36 z_m36 z_c36 z_h36 := ⟨rfl, rfl, rfl⟩
noncomputable def p_36 (a : Nat) (σ σ' : zSg) : Prop := ∀ H n, hH σ a H → H 4 = Int32.ofNat n → n < 24 → hHF a σ σ' ∧ hH σ' a (hCk H n)
theorem sp_36_et (a0 : Nat) (σ : zSg) (τ1 : zSg) (ew1 : τ1 = q_w σ a0 7 (.int ((q_i (σ.1 a0 7)) + (Int32.ofInt (1))))) (h2 : (q_i (τ1.1 a0 7)).toInt < (24 : Int)) :
    p_36 (a0) σ τ1 := by
  intro H n K e4 hn
  have w4 := (K.p (hp_s (k := 4) (by omega) (by omega))).trans e4
  simp only [Nat.reduceAdd] at w4
  rw [w4, o32i (by omega)] at ew1
  subst ew1
  have K1 := K.ww (v := Int32.ofNat (n + 1)) (hp_s (k := 4) (by omega) (by omega))
  have f1 := hHF.w (σ := σ) (v := .int (Int32.ofNat (n + 1))) (hp_s (b := a0) (k := 4) (by omega) (by omega))
  simp only [Nat.reduceAdd] at K1 f1
  rw [q_w_at, q_ii, o32 (by omega)] at h2
  have z24 : (Int32.ofInt 24).toInt = 24 := rfl
  unfold hCk
  rw [if_neg (show ¬ n = 23 by omega)]
  exact ⟨f1, K1⟩
theorem sp_36_ef (a0 : Nat) (σ : zSg) (τ1 : zSg) (τ3 : zSg) (τ4 : zSg) (ew1 : τ1 = q_w σ a0 7 (.int ((q_i (σ.1 a0 7)) + (Int32.ofInt (1))))) (h2 : (q_i (τ1.1 a0 7)).toInt ≥ (24 : Int)) (ew3 : τ3 = q_w τ1 a0 7 (.int (Int32.ofInt (0)))) (ew4 : τ4 = q_w τ3 a0 8 (.int (if ((q_i (τ3.1 a0 8)) + (Int32.ofInt (1))) < (Int32.ofInt (9999)) then ((q_i (τ3.1 a0 8)) + (Int32.ofInt (1))) else (Int32.ofInt (9999))))) :
    p_36 (a0) σ τ4 := by
  intro H n K e4 hn
  have w4 := (K.p (hp_s (k := 4) (by omega) (by omega))).trans e4
  simp only [Nat.reduceAdd] at w4
  rw [w4, o32i (by omega)] at ew1
  subst ew1
  have K1 := K.ww (v := Int32.ofNat (n + 1)) (hp_s (k := 4) (by omega) (by omega))
  have f1 := hHF.w (σ := σ) (v := .int (Int32.ofNat (n + 1))) (hp_s (b := a0) (k := 4) (by omega) (by omega))
  simp only [Nat.reduceAdd] at K1 f1
  rw [q_w_at, q_ii, o32 (by omega)] at h2
  have z24 : (Int32.ofInt 24).toInt = 24 := rfl
  subst ew3
  have K2 := K1.ww (v := Int32.ofInt 0) (hp_s (k := 4) (by omega) (by omega))
  have f2 := f1.tr (hHF.w (v := .int (Int32.ofInt 0)) (hp_s (b := a0) (k := 4) (by omega) (by omega)))
  simp only [Nat.reduceAdd] at K2 f2
  have y5 := K2.p (hp_s (k := 5) (by omega) (by omega))
  simp only [Nat.reduceAdd] at y5
  rw [aU_ne (by omega), aU_ne (by omega)] at y5
  rw [y5] at ew4
  subst ew4
  have K3 := K2.ww (v := aMi (Int32.ofInt 9999) (H 5 + Int32.ofInt 1)) (hp_s (k := 5) (by omega) (by omega))
  have f3 := f2.tr (hHF.w (v := .int (aMi (Int32.ofInt 9999) (H 5 + Int32.ofInt 1))) (hp_s (b := a0) (k := 5) (by omega) (by omega)))
  simp only [Nat.reduceAdd] at K3 f3
  unfold hCk
  rw [if_pos (show n = 23 by omega)]
  refine ⟨f3, K3.cg (fun k _ => ?_)⟩
  unfold aU
  by_cases q : k = 5
  · rw [if_pos q, if_pos q]
  · rw [if_neg q, if_neg q]
    by_cases q4 : k = 4
    · rw [if_pos q4, if_pos q4]
    · rw [if_neg q4, if_neg q4, if_neg q4]
noncomputable def qP_36 : zPp := fun as σ o σ' => match as with
  | [a0] => o = .inl none ∧ p_36 (q_r a0) σ σ'
  | _ => True
set_option maxRecDepth 100000 in
theorem sp_36 {sx : zX}  : zEe sx 36 1 qP_36 := by
  refine zfle zJ_36 (sps := []) (fun q hq => absurd hq List.not_mem_nil) (fun as σ hl => ?_)
  match as, hl with
  | [a0], _ =>
  refine ⟨[], 400, ?_, ?_⟩
  · exact fun q hq => absurd hq List.not_mem_nil
  · refine And.intro (fun h2 => ?_) (fun h2 => ?_)
    · exact ⟨rfl, sp_36_et (q_r a0) σ _ rfl (cm2t h2)⟩
    · exact ⟨rfl, sp_36_ef (q_r a0) σ _ _ _ rfl (cm2f h2) rfl rfl⟩
theorem zJ_37 : zJ3 37 z_m37 z_c37 z_h37 := ⟨rfl, rfl, rfl⟩
noncomputable def p_37 (a : Nat) (f : Int32) (σ : zSg) (r : Int32) (σ' : zSg) : Prop := a ≤ 192 → ∀ H nf nt F n Lo, hH σ a H → aI nf nt H → hW σ a Lo → f = Int32.ofNat F → F < nf → H 4 = Int32.ofNat n → n < 24 → hEF a σ σ' ∧ hH σ' a (hFi Lo nt H F n nt).1 ∧ r = Int32.ofNat (hFi Lo nt H F n nt).2
noncomputable def i_37 (a : Nat) (f : Int32) (σ : zSg) (l0 : Nat) (l1 l2 l3 : Int32) (τ : zSg) : Prop := l0 = a ∧ l1 = f ∧ (a ≤ 192 → ∀ H nf nt F n Lo, hH σ a H → aI nf nt H → hW σ a Lo → f = Int32.ofNat F → F < nf → H 4 = Int32.ofNat n → n < 24 → hEF a σ τ ∧ ∃ t, t ≤ nt ∧ l3 = Int32.ofNat t ∧ l2 = Int32.ofNat (hFi Lo nt H F n t).2 ∧ hH τ a (hFi Lo nt H F n t).1)
theorem sp_37_e (a0 : Nat) (a1 : Int32) (σ : zSg)  :
    i_37 a0 a1 σ a0 a1 (Int32.ofInt (0)) (Int32.ofInt (0)) σ := by
  exact ⟨rfl, rfl, fun hb H nf nt F n Lo K I W ef hF e4 hn => ⟨hEF.rf, 0, Nat.zero_le _, rfl, rfl, K⟩⟩
theorem sp_37_c4_t (a0 : Nat) (a1 : Int32) (σ : zSg) (l0 : Nat) (l1 : Int32) (l2 : Int32) (l3 : Int32) (τ : zSg) (hI : i_37 a0 a1 σ l0 l1 l2 l3 τ) (h1 : l3.toInt ≥ (q_i (τ.1 (q_r (τ.1 l0 2)) 3)).toInt) :
    p_37 (a0) (a1) σ l2 τ := by
  obtain ⟨rfl, rfl, hI⟩ := hI
  intro hb H nf nt F n Lo K I W ef hF e4 hn
  obtain ⟨fr, t, ht, e3, e2, KB⟩ := hI hb H nf nt F n Lo K I W ef hF e4 hn
  subst ef e3 e2
  have c1 := I.1.2.1
  have c2 := I.1.2.2.2.1
  have W1 := W.ef fr hb
  have hF6 : F < 6 := by omega
  have IB := I.fi (Lo := Lo) (n := n) hF6 t ht
  have p1 := (KB.p hp_1).trans IB.1.2.2.1
  have d2 := KB.k hk_2
  rw [d2, p1, o32 (by omega), o32 (by omega)] at h1
  have e : t = nt := by omega
  subst e
  exact ⟨fr, KB, rfl⟩
theorem sp_37_c4_ft (a0 : Nat) (a1 : Int32) (σ : zSg) (l0 : Nat) (l1 : Int32) (l2 : Int32) (l3 : Int32) (τ : zSg) (hI : i_37 a0 a1 σ l0 l1 l2 l3 τ) (h1 : l3.toInt < (q_i (τ.1 (q_r (τ.1 l0 2)) 3)).toInt) (h2 : 0 ≤ l3.toInt ∧ l3.toInt < (τ.2.1 (q_r (τ.1 (q_r (τ.1 l0 2)) 0)) : Int)) (h3 : (q_i (τ.1 (q_r (τ.1 (q_r (τ.1 l0 2)) 0)) l3.toNatClampNeg)).toInt ≠ l1.toInt) :
    i_37 a0 a1 σ l0 l1 l2 (l3 + Int32.ofInt (1)) τ := by
  obtain ⟨rfl, rfl, hI⟩ := hI
  refine ⟨rfl, rfl, ?_⟩
  intro hb H nf nt F n Lo K I W ef hF e4 hn
  obtain ⟨fr, t, ht, e3, e2, KB⟩ := hI hb H nf nt F n Lo K I W ef hF e4 hn
  subst ef e3 e2
  have c1 := I.1.2.1
  have c2 := I.1.2.2.2.1
  have W1 := W.ef fr hb
  have hF6 : F < 6 := by omega
  have IB := I.fi (Lo := Lo) (n := n) hF6 t ht
  have p1 := (KB.p hp_1).trans IB.1.2.2.1
  have d2 := KB.k hk_2
  rw [d2, p1, o32 (by omega), o32 (by omega)] at h1
  have t8 : t < 8 := by omega
  have nT : (Int32.ofNat t).toNatClampNeg = t := o32n (by omega)
  have d0 := KB.k hk_t0
  have wo := KB.p (hp_o t8)
  simp only [d2, d0, nT, wo] at h3
  have es : hFi Lo nt H F n (t + 1) = hFi Lo nt H F n t := by
    show (if _ then _ else _) = _
    rw [if_neg (fun q => h3 (by rw [q.1]))]
  refine ⟨fr, t + 1, by omega, o32i (by omega), by rw [es], by rw [es]; exact KB⟩
theorem sp_37_c4_fft (a0 : Nat) (a1 : Int32) (σ : zSg) (l0 : Nat) (l1 : Int32) (l2 : Int32) (l3 : Int32) (τ : zSg) (τ4 : zSg) (r4 : Int32) (hI : i_37 a0 a1 σ l0 l1 l2 l3 τ) (h1 : l3.toInt < (q_i (τ.1 (q_r (τ.1 l0 2)) 3)).toInt) (h2 : 0 ≤ l3.toInt ∧ l3.toInt < (τ.2.1 (q_r (τ.1 (q_r (τ.1 l0 2)) 0)) : Int)) (h3 : (q_i (τ.1 (q_r (τ.1 (q_r (τ.1 l0 2)) 0)) l3.toNatClampNeg)).toInt = l1.toInt) (g4 : p_105 (q_r (τ.1 l0 2)) l3 τ r4 τ4) (h5 : r4.toInt = (0 : Int)) :
    i_37 a0 a1 σ l0 l1 l2 (l3 + Int32.ofInt (1)) τ4 := by
  obtain ⟨rfl, rfl, hI⟩ := hI
  refine ⟨rfl, rfl, ?_⟩
  intro hb H nf nt F n Lo K I W ef hF e4 hn
  obtain ⟨fr, t, ht, e3, e2, KB⟩ := hI hb H nf nt F n Lo K I W ef hF e4 hn
  subst ef e3 e2
  have c1 := I.1.2.1
  have c2 := I.1.2.2.2.1
  have W1 := W.ef fr hb
  have hF6 : F < 6 := by omega
  have IB := I.fi (Lo := Lo) (n := n) hF6 t ht
  have p1 := (KB.p hp_1).trans IB.1.2.2.1
  have d2 := KB.k hk_2
  rw [d2, p1, o32 (by omega), o32 (by omega)] at h1
  have t8 : t < 8 := by omega
  have nT : (Int32.ofNat t).toNatClampNeg = t := o32n (by omega)
  have d0 := KB.k hk_t0
  have wo := KB.p (hp_o t8)
  simp only [d2, d0, nT, wo] at h3
  rw [d2] at g4
  obtain ⟨e8, g5⟩ := g4
  subst e8
  have x5 := g5 l0 _ rfl KB t rfl t8
  rw [x5] at h5
  have es : hFi Lo nt H F n (t + 1) = hFi Lo nt H F n t := by
    show (if _ then _ else _) = _
    rw [if_neg (fun q => by rw [q.2] at h5; exact absurd h5 (by decide))]
  refine ⟨fr, t + 1, by omega, o32i (by omega), by rw [es], by rw [es]; exact KB⟩
theorem sp_37_c4_fff (a0 : Nat) (a1 : Int32) (σ : zSg) (l0 : Nat) (l1 : Int32) (l2 : Int32) (l3 : Int32) (τ : zSg) (τ4 : zSg) (r4 : Int32) (τ6 : zSg) (r6 : Int32) (τ7 : zSg) (τ8 : zSg) (τ9 : zSg) (hI : i_37 a0 a1 σ l0 l1 l2 l3 τ) (h1 : l3.toInt < (q_i (τ.1 (q_r (τ.1 l0 2)) 3)).toInt) (h2 : 0 ≤ l3.toInt ∧ l3.toInt < (τ.2.1 (q_r (τ.1 (q_r (τ.1 l0 2)) 0)) : Int)) (h3 : (q_i (τ.1 (q_r (τ.1 (q_r (τ.1 l0 2)) 0)) l3.toNatClampNeg)).toInt = l1.toInt) (g4 : p_105 (q_r (τ.1 l0 2)) l3 τ r4 τ4) (h5 : r4.toInt ≠ (0 : Int)) (g6 : p_32 l0 l3 τ4 r6 τ6) (g7 : p_17 (q_r (τ6.1 l0 1)) l1 r6 τ6 τ7) (g8 : p_107 (q_r (τ7.1 l0 2)) l3 τ7 τ8) (g9 : p_57 (q_r (τ8.1 l0 3)) (q_i (τ8.1 l0 8)) (q_i (τ8.1 l0 7)) l1 (Int32.ofInt (1)) r6 τ8 τ9) :
    i_37 a0 a1 σ l0 l1 (l2 + Int32.ofInt (1)) (l3 + Int32.ofInt (1)) τ9 := by
  obtain ⟨rfl, rfl, hI⟩ := hI
  refine ⟨rfl, rfl, ?_⟩
  intro hb H nf nt F n Lo K I W ef hF e4 hn
  obtain ⟨fr, t, ht, e3, e2, KB⟩ := hI hb H nf nt F n Lo K I W ef hF e4 hn
  subst ef e3 e2
  have c1 := I.1.2.1
  have c2 := I.1.2.2.2.1
  have W1 := W.ef fr hb
  have hF6 : F < 6 := by omega
  have IB := I.fi (Lo := Lo) (n := n) hF6 t ht
  have p1 := (KB.p hp_1).trans IB.1.2.2.1
  have d2 := KB.k hk_2
  rw [d2, p1, o32 (by omega), o32 (by omega)] at h1
  have t8 : t < 8 := by omega
  have nT : (Int32.ofNat t).toNatClampNeg = t := o32n (by omega)
  have d0 := KB.k hk_t0
  have wo := KB.p (hp_o t8)
  simp only [d2, d0, nT, wo] at h3
  rw [d2] at g4
  obtain ⟨e8, g5⟩ := g4
  subst e8
  have x5 := g5 l0 _ rfl KB t rfl t8
  rw [x5] at h5
  have hown : (hFi Lo nt H F n t).1 (64 + 3 * t) = Int32.ofNat F := Int32.toInt_inj.mp h3
  have hleft : (hFi Lo nt H F n t).1 (66 + 3 * t) = Int32.ofInt 1 := by
    obtain ⟨l, -, hl'⟩ := KB.2.2.1
    have e9 := hl' t t8
    by_cases hb' : btb l (Int32.ofNat t) = true
    · rw [if_pos hb'] at e9; exact e9
    · rw [if_neg hb'] at e9; exact absurd (by rw [e9]; rfl) h5
  have es : hFi Lo nt H F n (t + 1) = (hF1 (hFi Lo nt H F n t).1 F t (hSm Lo nt (hFi Lo nt H F n t).1 F n t), (hFi Lo nt H F n t).2 + 1) := by
    show (if _ then _ else _) = _
    rw [if_pos ⟨hown, hleft⟩]
  have e4B : (hFi Lo nt H F n t).1 4 = Int32.ofNat n := (hFi_k (by omega) (by omega) (by omega) t (fun u hu => by omega)).trans e4
  generalize hB : (hFi Lo nt H F n t).1 = B at *
  obtain ⟨f1, x1⟩ := g6 hb B nf nt F n t Lo KB IB.1 W1 rfl (by omega) hown hF e4B hn
  have x1 : r6 = hSm Lo nt B F n t := x1
  have K1 := KB.lk f1 hb
  have v1 := K1.k hk_1
  rw [v1, x1] at g7
  obtain ⟨f2, K2⟩ := g7 l0 B nf rfl K1 IB.1.1 IB.1.2.1 F rfl hF
  have v2 := K2.k hk_2
  have K3 := K2.ta t8
  have f3 : hHF l0 τ7 τ8 := by rw [g8, v2]; exact hHF.wl
  have e4' : τ8 = q_w τ7 (l0 + 7) 2 (.int (q_i (τ7.1 (l0 + 7) 2) &&& ((Int32.ofInt 1 <<< (Int32.ofNat t &&& 31)) ^^^ Int32.ofInt (-1)))) := by rw [g8, v2]
  rw [← e4'] at K3
  have y3 := K3.k hk_3
  have z5 := K3.p (hp_s (k := 5) (by omega) (by omega))
  have z4 := K3.p (hp_s (k := 4) (by omega) (by omega))
  simp only [Nat.reduceAdd] at z5 z4
  rw [aU_ne (by omega), aU_ne (by omega)] at z5 z4
  rw [y3, z5, z4, x1] at g9
  obtain ⟨f5, K5⟩ := g9 l0 _ rfl K3
  refine ⟨fr.tr ((f1.e).tr ((f2.e).tr ((f3.e).tr f5.e))), t + 1, by omega, o32i (by omega), ?_, ?_⟩
  · rw [es]
    exact ixB _ 1
  · rw [es]
    exact K5
noncomputable def qP_37 : zPp := fun as σ o σ' => match as with
  | [a0, a1] => ∃ r, o = .inl (some (.int r)) ∧ p_37 (q_r a0) (q_i a1) σ r σ'
  | _ => True
set_option maxRecDepth 100000 in
theorem sp_37 {sx : zX} (S105 : zEe sx 105 2 qP_105) (S32 : zEe sx 32 2 qP_32) (S17 : zEe sx 17 3 qP_17) (S107 : zEe sx 107 2 qP_107) (S57 : zEe sx 57 6 qP_57) : zEe sx 37 2 qP_37 := by
  refine zfle zJ_37 (sps := [(105, 2, qP_105), (32, 2, qP_32), (17, 3, qP_17), (107, 2, qP_107), (57, 6, qP_57)]) (fun q hq => by
    simp only [List.mem_cons, List.not_mem_nil, or_false] at hq
    rcases hq with rfl | rfl | rfl | rfl | rfl
    · exact S105
    · exact S32
    · exact S17
    · exact S107
    · exact S57) (fun as σ hl => ?_)
  match as, hl with
  | [a0, a1], _ =>
  refine ⟨[(4, fun lo st τ => st = [] ∧ i_37 (q_r a0) (q_i a1) σ (q_r (lo 0)) (q_i (lo 1)) (q_i (lo 2)) (q_i (lo 3)) τ)], 400, ?_, ?_⟩
  · intro q hq
    simp only [List.mem_cons, List.not_mem_nil, or_false] at hq
    rcases hq with rfl
    · rintro lo st τ ⟨rfl, hI⟩
      refine ⟨400, ?_⟩
      refine And.intro (fun h1 => ?_) (fun h1 => ?_)
      · exact ⟨_, rfl, sp_37_c4_t (q_r a0) (q_i a1) σ (q_r (lo 0)) (q_i (lo 1)) (q_i (lo 2)) (q_i (lo 3)) τ hI (cm3t h1)⟩
      · refine fun h2 => ?_
        refine And.intro (fun h3 => ?_) (fun h3 => ?_)
        · exact ⟨rfl, sp_37_c4_ft (q_r a0) (q_i a1) σ (q_r (lo 0)) (q_i (lo 1)) (q_i (lo 2)) (q_i (lo 3)) τ hI (cm3f h1) (q_inp h2) (cm1t h3)⟩
        · refine fun o4 τ4 g4 => ?_
          obtain ⟨r4, rfl, g4⟩ := g4
          refine And.intro (fun h5 => ?_) (fun h5 => ?_)
          · exact ⟨rfl, sp_37_c4_fft (q_r a0) (q_i a1) σ (q_r (lo 0)) (q_i (lo 1)) (q_i (lo 2)) (q_i (lo 3)) τ τ4 r4 hI (cm3f h1) (q_inp h2) (cm1f h3) g4 (cm0t h5)⟩
          · refine fun o6 τ6 g6 => ?_
            obtain ⟨r6, rfl, g6⟩ := g6
            refine fun o7 τ7 g7 => ?_
            obtain ⟨rfl, g7⟩ := g7
            refine fun o8 τ8 g8 => ?_
            obtain ⟨rfl, g8⟩ := g8
            refine fun o9 τ9 g9 => ?_
            obtain ⟨rfl, g9⟩ := g9
            exact ⟨rfl, sp_37_c4_fff (q_r a0) (q_i a1) σ (q_r (lo 0)) (q_i (lo 1)) (q_i (lo 2)) (q_i (lo 3)) τ τ4 r4 τ6 r6 τ7 τ8 τ9 hI (cm3f h1) (q_inp h2) (cm1f h3) g4 (cm0f h5) g6 g7 g8 g9⟩
  · exact ⟨rfl, sp_37_e (q_r a0) (q_i a1) σ ⟩
theorem zJ_34 : zJ3 34 z_m34 z_c34 z_h34 := ⟨rfl, rfl, rfl⟩
noncomputable def p_34 (a : Nat) (v : Int32) (σ : zSg) (r : Int32) (σ' : zSg) : Prop := a ≤ 192 → ∀ H nf nt Lo, hH σ a H → aI nf nt H → hW σ a Lo → (v.toInt = 0 → hEF a σ σ' ∧ hH σ' a (hHr Lo nt true H).1 ∧ r = Int32.ofNat (hHr Lo nt true H).2) ∧ (v.toInt ≠ 0 → hEF a σ σ' ∧ hH σ' a (hHr Lo nt false H).1 ∧ r = Int32.ofNat (hHr Lo nt false H).2)
theorem sp_34_ettt (a0 : Nat) (a1 : Int32) (σ : zSg) (τ1 : zSg) (r1 : Int32) (τ3 : zSg) (τ5 : zSg) (g1 : p_27 a0 σ r1 τ1) (h2 : r1.toInt = (-1 : Int)) (ew3 : τ3 = q_w τ1 a0 9 (.int (if (Int32.ofInt (0)) < ((q_i (τ1.1 a0 9)) - (q_i (τ1.1 a0 13))) then ((q_i (τ1.1 a0 9)) - (q_i (τ1.1 a0 13))) else (Int32.ofInt (0))))) (h4 : a1.toInt = (0 : Int)) (g5 : p_36 a0 τ3 τ5) (h6 : r1.toInt = (-1 : Int)) :
    p_34 (a0) (a1) σ (Int32.ofInt (0)) τ5 := by
  intro hb H nf nt Lo K I W
  obtain ⟨hn, e4, hin⟩ := I.in
  obtain ⟨e1, g1⟩ := g1
  subst e1
  have x1 := g1 H _ K e4 hn
  have q1 : (Int32.ofInt (-1)).toInt = -1 := rfl
  have hA : H (16 + hN H) = Int32.ofInt (-1) := by rw [← x1]; exact Int32.toInt_inj.mp h2
  have hOn : hO (H (16 + hN H)) = none := by rw [hA]; exact hO_0
  have KM : hH τ1 a0 (hWm Lo nt H (hN H) (hO (H (16 + hN H)))) := by rw [hOn]; exact K
  have fM : hEF a0 τ1 τ1 := hEF.rf
  have y6' := KM.p (hp_s (k := 6) (by omega) (by omega))
  have y10 := KM.p (hp_s (k := 10) (by omega) (by omega))
  simp only [Nat.reduceAdd] at y6' y10
  rw [y6', y10] at ew3
  have KC := KM.ww (v := aMa (Int32.ofInt 0) (hWm Lo nt H (hN H) (hO (H (16 + hN H))) 6 - hWm Lo nt H (hN H) (hO (H (16 + hN H))) 10)) (hp_s (k := 6) (by omega) (by omega))
  have fC := hHF.w (σ := τ1) (v := .int (aMa (Int32.ofInt 0) (hWm Lo nt H (hN H) (hO (H (16 + hN H))) 6 - hWm Lo nt H (hN H) (hO (H (16 + hN H))) 10))) (hp_s (b := a0) (k := 6) (by omega) (by omega))
  simp only [Nat.reduceAdd] at KC fC
  have ew3 : τ3 = q_w τ1 a0 9 (.int (aMa (Int32.ofInt 0) (hWm Lo nt H (hN H) (hO (H (16 + hN H))) 6 - hWm Lo nt H (hN H) (hO (H (16 + hN H))) 10))) := ew3
  rw [← ew3] at KC fC
  have KC : hH τ3 a0 (hCd (hWm Lo nt H (hN H) (hO (H (16 + hN H))))) := KC
  have fV : hHF a0 τ3 τ3 := hHF.rf
  have KV : hH τ3 a0 (hMd Lo nt true H) := KC
  have e4m : hMd Lo nt true H 4 = Int32.ofNat (hN H) := (hMd_4 I (by omega)).trans e4
  obtain ⟨fT, KT⟩ := g5 _ _ KV e4m hn
  have IT := (I.md (Lo := Lo) (calm := true)).ck hn
  obtain ⟨hn', e4', -⟩ := IT.in
  refine ⟨fun vz => ?_, fun vz => absurd h4 vz⟩
  have er : hHr Lo nt true H = (hCk (hMd Lo nt true H) (hN H), 0) := by
    unfold hHr hEd
    rw [if_pos (Or.inl hA)]
  rw [er]
  exact ⟨fM.tr ((fC.e).tr ((fV.e).tr fT.e)), KT, rfl⟩
theorem sp_34_ettft (a0 : Nat) (a1 : Int32) (σ : zSg) (τ1 : zSg) (r1 : Int32) (τ3 : zSg) (τ5 : zSg) (τ7 : zSg) (r7 : Int32) (g1 : p_27 a0 σ r1 τ1) (h2 : r1.toInt = (-1 : Int)) (ew3 : τ3 = q_w τ1 a0 9 (.int (if (Int32.ofInt (0)) < ((q_i (τ1.1 a0 9)) - (q_i (τ1.1 a0 13))) then ((q_i (τ1.1 a0 9)) - (q_i (τ1.1 a0 13))) else (Int32.ofInt (0))))) (h4 : a1.toInt = (0 : Int)) (g5 : p_36 a0 τ3 τ5) (h6 : r1.toInt ≠ (-1 : Int)) (g7 : p_27 a0 τ5 r7 τ7) (h8 : r1.toInt = r7.toInt) :
    p_34 (a0) (a1) σ (Int32.ofInt (0)) τ7 := by
  intro hb H nf nt Lo K I W
  obtain ⟨hn, e4, hin⟩ := I.in
  obtain ⟨e1, g1⟩ := g1
  subst e1
  have x1 := g1 H _ K e4 hn
  have q1 : (Int32.ofInt (-1)).toInt = -1 := rfl
  exact absurd h2 h6
theorem sp_34_ettff (a0 : Nat) (a1 : Int32) (σ : zSg) (τ1 : zSg) (r1 : Int32) (τ3 : zSg) (τ5 : zSg) (τ7 : zSg) (r7 : Int32) (τ9 : zSg) (r9 : Int32) (g1 : p_27 a0 σ r1 τ1) (h2 : r1.toInt = (-1 : Int)) (ew3 : τ3 = q_w τ1 a0 9 (.int (if (Int32.ofInt (0)) < ((q_i (τ1.1 a0 9)) - (q_i (τ1.1 a0 13))) then ((q_i (τ1.1 a0 9)) - (q_i (τ1.1 a0 13))) else (Int32.ofInt (0))))) (h4 : a1.toInt = (0 : Int)) (g5 : p_36 a0 τ3 τ5) (h6 : r1.toInt ≠ (-1 : Int)) (g7 : p_27 a0 τ5 r7 τ7) (h8 : r1.toInt ≠ r7.toInt) (g9 : p_37 a0 r1 τ7 r9 τ9) :
    p_34 (a0) (a1) σ r9 τ9 := by
  intro hb H nf nt Lo K I W
  obtain ⟨hn, e4, hin⟩ := I.in
  obtain ⟨e1, g1⟩ := g1
  subst e1
  have x1 := g1 H _ K e4 hn
  have q1 : (Int32.ofInt (-1)).toInt = -1 := rfl
  exact absurd h2 h6
theorem sp_34_etft (a0 : Nat) (a1 : Int32) (σ : zSg) (τ1 : zSg) (r1 : Int32) (τ3 : zSg) (τ10 : zSg) (τ11 : zSg) (g1 : p_27 a0 σ r1 τ1) (h2 : r1.toInt = (-1 : Int)) (ew3 : τ3 = q_w τ1 a0 9 (.int (if (Int32.ofInt (0)) < ((q_i (τ1.1 a0 9)) - (q_i (τ1.1 a0 13))) then ((q_i (τ1.1 a0 9)) - (q_i (τ1.1 a0 13))) else (Int32.ofInt (0))))) (h4 : a1.toInt ≠ (0 : Int)) (g10 : p_35 a0 r1 τ3 τ10) (g11 : p_36 a0 τ10 τ11) (h12 : r1.toInt = (-1 : Int)) :
    p_34 (a0) (a1) σ (Int32.ofInt (0)) τ11 := by
  intro hb H nf nt Lo K I W
  obtain ⟨hn, e4, hin⟩ := I.in
  obtain ⟨e1, g1⟩ := g1
  subst e1
  have x1 := g1 H _ K e4 hn
  have q1 : (Int32.ofInt (-1)).toInt = -1 := rfl
  have hA : H (16 + hN H) = Int32.ofInt (-1) := by rw [← x1]; exact Int32.toInt_inj.mp h2
  have hOn : hO (H (16 + hN H)) = none := by rw [hA]; exact hO_0
  have KM : hH τ1 a0 (hWm Lo nt H (hN H) (hO (H (16 + hN H)))) := by rw [hOn]; exact K
  have fM : hEF a0 τ1 τ1 := hEF.rf
  have y6' := KM.p (hp_s (k := 6) (by omega) (by omega))
  have y10 := KM.p (hp_s (k := 10) (by omega) (by omega))
  simp only [Nat.reduceAdd] at y6' y10
  rw [y6', y10] at ew3
  have KC := KM.ww (v := aMa (Int32.ofInt 0) (hWm Lo nt H (hN H) (hO (H (16 + hN H))) 6 - hWm Lo nt H (hN H) (hO (H (16 + hN H))) 10)) (hp_s (k := 6) (by omega) (by omega))
  have fC := hHF.w (σ := τ1) (v := .int (aMa (Int32.ofInt 0) (hWm Lo nt H (hN H) (hO (H (16 + hN H))) 6 - hWm Lo nt H (hN H) (hO (H (16 + hN H))) 10))) (hp_s (b := a0) (k := 6) (by omega) (by omega))
  simp only [Nat.reduceAdd] at KC fC
  have ew3 : τ3 = q_w τ1 a0 9 (.int (aMa (Int32.ofInt 0) (hWm Lo nt H (hN H) (hO (H (16 + hN H))) 6 - hWm Lo nt H (hN H) (hO (H (16 + hN H))) 10))) := ew3
  rw [← ew3] at KC fC
  have KC : hH τ3 a0 (hCd (hWm Lo nt H (hN H) (hO (H (16 + hN H))))) := KC
  have xm : r1 = Int32.ofInt (-1) := x1.trans hA
  obtain ⟨fV, KV⟩ := (g10 _ KC).1 xm
  have KV : hH τ10 a0 (hMd Lo nt false H) := by
    show hH τ10 a0 (hVi (hCd (hWm Lo nt H (hN H) (hO (H (16 + hN H))))) (hO (H (16 + hN H))))
    rw [show hO (H (16 + hN H)) = none from hOn] at KV ⊢
    exact KV
  have e4m : hMd Lo nt false H 4 = Int32.ofNat (hN H) := (hMd_4 I (by omega)).trans e4
  obtain ⟨fT, KT⟩ := g11 _ _ KV e4m hn
  have IT := (I.md (Lo := Lo) (calm := false)).ck hn
  obtain ⟨hn', e4', -⟩ := IT.in
  refine ⟨fun vz => absurd vz h4, fun vz => ?_⟩
  have er : hHr Lo nt false H = (hCk (hMd Lo nt false H) (hN H), 0) := by
    unfold hHr hEd
    rw [if_pos (Or.inl hA)]
  rw [er]
  exact ⟨fM.tr ((fC.e).tr ((fV.e).tr fT.e)), KT, rfl⟩
theorem sp_34_etfft (a0 : Nat) (a1 : Int32) (σ : zSg) (τ1 : zSg) (r1 : Int32) (τ3 : zSg) (τ10 : zSg) (τ11 : zSg) (τ13 : zSg) (r13 : Int32) (g1 : p_27 a0 σ r1 τ1) (h2 : r1.toInt = (-1 : Int)) (ew3 : τ3 = q_w τ1 a0 9 (.int (if (Int32.ofInt (0)) < ((q_i (τ1.1 a0 9)) - (q_i (τ1.1 a0 13))) then ((q_i (τ1.1 a0 9)) - (q_i (τ1.1 a0 13))) else (Int32.ofInt (0))))) (h4 : a1.toInt ≠ (0 : Int)) (g10 : p_35 a0 r1 τ3 τ10) (g11 : p_36 a0 τ10 τ11) (h12 : r1.toInt ≠ (-1 : Int)) (g13 : p_27 a0 τ11 r13 τ13) (h14 : r1.toInt = r13.toInt) :
    p_34 (a0) (a1) σ (Int32.ofInt (0)) τ13 := by
  intro hb H nf nt Lo K I W
  obtain ⟨hn, e4, hin⟩ := I.in
  obtain ⟨e1, g1⟩ := g1
  subst e1
  have x1 := g1 H _ K e4 hn
  have q1 : (Int32.ofInt (-1)).toInt = -1 := rfl
  exact absurd h2 h12
theorem sp_34_etfff (a0 : Nat) (a1 : Int32) (σ : zSg) (τ1 : zSg) (r1 : Int32) (τ3 : zSg) (τ10 : zSg) (τ11 : zSg) (τ13 : zSg) (r13 : Int32) (τ15 : zSg) (r15 : Int32) (g1 : p_27 a0 σ r1 τ1) (h2 : r1.toInt = (-1 : Int)) (ew3 : τ3 = q_w τ1 a0 9 (.int (if (Int32.ofInt (0)) < ((q_i (τ1.1 a0 9)) - (q_i (τ1.1 a0 13))) then ((q_i (τ1.1 a0 9)) - (q_i (τ1.1 a0 13))) else (Int32.ofInt (0))))) (h4 : a1.toInt ≠ (0 : Int)) (g10 : p_35 a0 r1 τ3 τ10) (g11 : p_36 a0 τ10 τ11) (h12 : r1.toInt ≠ (-1 : Int)) (g13 : p_27 a0 τ11 r13 τ13) (h14 : r1.toInt ≠ r13.toInt) (g15 : p_37 a0 r1 τ13 r15 τ15) :
    p_34 (a0) (a1) σ r15 τ15 := by
  intro hb H nf nt Lo K I W
  obtain ⟨hn, e4, hin⟩ := I.in
  obtain ⟨e1, g1⟩ := g1
  subst e1
  have x1 := g1 H _ K e4 hn
  have q1 : (Int32.ofInt (-1)).toInt = -1 := rfl
  exact absurd h2 h12
theorem sp_34_eftt (a0 : Nat) (a1 : Int32) (σ : zSg) (τ1 : zSg) (r1 : Int32) (τ16 : zSg) (r16 : Int32) (τ17 : zSg) (r17 : Int32) (τ18 : zSg) (τ19 : zSg) (τ20 : zSg) (τ22 : zSg) (g1 : p_27 a0 σ r1 τ1) (h2 : r1.toInt ≠ (-1 : Int)) (g16 : p_30 a0 r1 (q_i (τ1.1 a0 7)) τ1 r16 τ16) (g17 : p_31 a0 r1 (q_i (τ16.1 a0 7)) τ16 r17 τ17) (ew18 : τ18 = q_w τ17 a0 9 (.int (if ((q_i (τ17.1 a0 9)) + r16) < (Int32.ofInt (99)) then ((q_i (τ17.1 a0 9)) + r16) else (Int32.ofInt (99))))) (ew19 : τ19 = q_w τ18 a0 10 (.int (if ((q_i (τ18.1 a0 10)) + r17) < (Int32.ofInt (99)) then ((q_i (τ18.1 a0 10)) + r17) else (Int32.ofInt (99))))) (ew20 : τ20 = q_w τ19 a0 9 (.int (if (Int32.ofInt (0)) < ((q_i (τ19.1 a0 9)) - (q_i (τ19.1 a0 13))) then ((q_i (τ19.1 a0 9)) - (q_i (τ19.1 a0 13))) else (Int32.ofInt (0))))) (h21 : a1.toInt = (0 : Int)) (g22 : p_36 a0 τ20 τ22) (h23 : r1.toInt = (-1 : Int)) :
    p_34 (a0) (a1) σ (Int32.ofInt (0)) τ22 := by
  intro hb H nf nt Lo K I W
  obtain ⟨hn, e4, hin⟩ := I.in
  obtain ⟨e1, g1⟩ := g1
  subst e1
  have x1 := g1 H _ K e4 hn
  have q1 : (Int32.ofInt (-1)).toInt = -1 := rfl
  exact absurd h23 h2
theorem sp_34_eftft (a0 : Nat) (a1 : Int32) (σ : zSg) (τ1 : zSg) (r1 : Int32) (τ16 : zSg) (r16 : Int32) (τ17 : zSg) (r17 : Int32) (τ18 : zSg) (τ19 : zSg) (τ20 : zSg) (τ22 : zSg) (τ24 : zSg) (r24 : Int32) (g1 : p_27 a0 σ r1 τ1) (h2 : r1.toInt ≠ (-1 : Int)) (g16 : p_30 a0 r1 (q_i (τ1.1 a0 7)) τ1 r16 τ16) (g17 : p_31 a0 r1 (q_i (τ16.1 a0 7)) τ16 r17 τ17) (ew18 : τ18 = q_w τ17 a0 9 (.int (if ((q_i (τ17.1 a0 9)) + r16) < (Int32.ofInt (99)) then ((q_i (τ17.1 a0 9)) + r16) else (Int32.ofInt (99))))) (ew19 : τ19 = q_w τ18 a0 10 (.int (if ((q_i (τ18.1 a0 10)) + r17) < (Int32.ofInt (99)) then ((q_i (τ18.1 a0 10)) + r17) else (Int32.ofInt (99))))) (ew20 : τ20 = q_w τ19 a0 9 (.int (if (Int32.ofInt (0)) < ((q_i (τ19.1 a0 9)) - (q_i (τ19.1 a0 13))) then ((q_i (τ19.1 a0 9)) - (q_i (τ19.1 a0 13))) else (Int32.ofInt (0))))) (h21 : a1.toInt = (0 : Int)) (g22 : p_36 a0 τ20 τ22) (h23 : r1.toInt ≠ (-1 : Int)) (g24 : p_27 a0 τ22 r24 τ24) (h25 : r1.toInt = r24.toInt) :
    p_34 (a0) (a1) σ (Int32.ofInt (0)) τ24 := by
  intro hb H nf nt Lo K I W
  obtain ⟨hn, e4, hin⟩ := I.in
  obtain ⟨e1, g1⟩ := g1
  subst e1
  have x1 := g1 H _ K e4 hn
  have q1 : (Int32.ofInt (-1)).toInt = -1 := rfl
  rcases hin with ⟨hA, -⟩ | ⟨F, hF, hA, hOn⟩
  · exact absurd (by rw [x1, hA]; rfl) h2
  have k6 := I.1.2.1
  have x1 := x1.trans hA
  subst x1
  have w4 := (K.p (hp_s (k := 4) (by omega) (by omega))).trans e4
  simp only [Nat.reduceAdd] at w4
  rw [w4] at g16
  obtain ⟨f2, x2⟩ := g16 hb H nf nt F (hN H) Lo K I.1 W rfl hF rfl hn
  have K2 := K.lk f2 hb
  have ew19' := W.fr f2 hb
  have w4' := (K2.p (hp_s (k := 4) (by omega) (by omega))).trans e4
  simp only [Nat.reduceAdd] at w4'
  rw [w4'] at g17
  obtain ⟨f3, x3⟩ := g17 hb H nf nt F (hN H) Lo K2 I.1 ew19' rfl hF rfl hn
  have K3 := K2.lk f3 hb
  have y6 := K3.p (hp_s (k := 6) (by omega) (by omega))
  simp only [Nat.reduceAdd] at y6
  rw [y6, x2] at ew18
  have K4 := K3.ww (v := aMi (Int32.ofInt 99) (H 6 + (H (42 + 4 * F) + eSm Lo (eFa H nt F (hN H)) 0))) (hp_s (k := 6) (by omega) (by omega))
  have f4 := hHF.w (σ := τ17) (v := .int (aMi (Int32.ofInt 99) (H 6 + (H (42 + 4 * F) + eSm Lo (eFa H nt F (hN H)) 0)))) (hp_s (b := a0) (k := 6) (by omega) (by omega))
  simp only [Nat.reduceAdd] at K4 f4
  have ew18 : τ18 = q_w τ17 a0 9 (.int (aMi (Int32.ofInt 99) (H 6 + (H (42 + 4 * F) + eSm Lo (eFa H nt F (hN H)) 0)))) := ew18
  rw [← ew18] at K4 f4
  have y7 := K4.p (hp_s (k := 7) (by omega) (by omega))
  simp only [Nat.reduceAdd] at y7
  rw [aU_ne (by omega)] at y7
  rw [y7, x3] at ew19
  have K5 := K4.ww (v := aMi (Int32.ofInt 99) (H 7 + (H (41 + 4 * F) + eSm Lo (eFa H nt F (hN H)) 1))) (hp_s (k := 7) (by omega) (by omega))
  have f5 := hHF.w (σ := τ18) (v := .int (aMi (Int32.ofInt 99) (H 7 + (H (41 + 4 * F) + eSm Lo (eFa H nt F (hN H)) 1)))) (hp_s (b := a0) (k := 7) (by omega) (by omega))
  simp only [Nat.reduceAdd] at K5 f5
  have ew19 : τ19 = q_w τ18 a0 10 (.int (aMi (Int32.ofInt 99) (H 7 + (H (41 + 4 * F) + eSm Lo (eFa H nt F (hN H)) 1)))) := ew19
  rw [← ew19] at K5 f5
  have KM : hH τ19 a0 (hWm Lo nt H (hN H) (hO (H (16 + hN H)))) := by rw [hOn]; exact K5
  have fM : hEF a0 τ1 τ19 := (f2.e).tr ((f3.e).tr ((f4.e).tr f5.e))
  have y6' := KM.p (hp_s (k := 6) (by omega) (by omega))
  have y10 := KM.p (hp_s (k := 10) (by omega) (by omega))
  simp only [Nat.reduceAdd] at y6' y10
  rw [y6', y10] at ew20
  have KC := KM.ww (v := aMa (Int32.ofInt 0) (hWm Lo nt H (hN H) (hO (H (16 + hN H))) 6 - hWm Lo nt H (hN H) (hO (H (16 + hN H))) 10)) (hp_s (k := 6) (by omega) (by omega))
  have fC := hHF.w (σ := τ19) (v := .int (aMa (Int32.ofInt 0) (hWm Lo nt H (hN H) (hO (H (16 + hN H))) 6 - hWm Lo nt H (hN H) (hO (H (16 + hN H))) 10))) (hp_s (b := a0) (k := 6) (by omega) (by omega))
  simp only [Nat.reduceAdd] at KC fC
  have ew20 : τ20 = q_w τ19 a0 9 (.int (aMa (Int32.ofInt 0) (hWm Lo nt H (hN H) (hO (H (16 + hN H))) 6 - hWm Lo nt H (hN H) (hO (H (16 + hN H))) 10))) := ew20
  rw [← ew20] at KC fC
  have KC : hH τ20 a0 (hCd (hWm Lo nt H (hN H) (hO (H (16 + hN H))))) := KC
  have fV : hHF a0 τ20 τ20 := hHF.rf
  have KV : hH τ20 a0 (hMd Lo nt true H) := KC
  have e4m : hMd Lo nt true H 4 = Int32.ofNat (hN H) := (hMd_4 I (by omega)).trans e4
  obtain ⟨fT, KT⟩ := g22 _ _ KV e4m hn
  have IT := (I.md (Lo := Lo) (calm := true)).ck hn
  obtain ⟨hn', e4', -⟩ := IT.in
  obtain ⟨e9, g9⟩ := g24
  subst e9
  have x9 := g9 _ _ KT e4' hn'
  rw [x9] at h25
  refine ⟨fun vz => ?_, fun vz => absurd h21 vz⟩
  have er : hHr Lo nt true H = (hCk (hMd Lo nt true H) (hN H), 0) := by
    unfold hHr hEd
    rw [if_pos (Or.inr ?_)]
    rw [hA]
    exact (Int32.toInt_inj.mp h25).symm
  rw [er]
  exact ⟨fM.tr ((fC.e).tr ((fV.e).tr fT.e)), KT, rfl⟩
theorem sp_34_eftff (a0 : Nat) (a1 : Int32) (σ : zSg) (τ1 : zSg) (r1 : Int32) (τ16 : zSg) (r16 : Int32) (τ17 : zSg) (r17 : Int32) (τ18 : zSg) (τ19 : zSg) (τ20 : zSg) (τ22 : zSg) (τ24 : zSg) (r24 : Int32) (τ26 : zSg) (r26 : Int32) (g1 : p_27 a0 σ r1 τ1) (h2 : r1.toInt ≠ (-1 : Int)) (g16 : p_30 a0 r1 (q_i (τ1.1 a0 7)) τ1 r16 τ16) (g17 : p_31 a0 r1 (q_i (τ16.1 a0 7)) τ16 r17 τ17) (ew18 : τ18 = q_w τ17 a0 9 (.int (if ((q_i (τ17.1 a0 9)) + r16) < (Int32.ofInt (99)) then ((q_i (τ17.1 a0 9)) + r16) else (Int32.ofInt (99))))) (ew19 : τ19 = q_w τ18 a0 10 (.int (if ((q_i (τ18.1 a0 10)) + r17) < (Int32.ofInt (99)) then ((q_i (τ18.1 a0 10)) + r17) else (Int32.ofInt (99))))) (ew20 : τ20 = q_w τ19 a0 9 (.int (if (Int32.ofInt (0)) < ((q_i (τ19.1 a0 9)) - (q_i (τ19.1 a0 13))) then ((q_i (τ19.1 a0 9)) - (q_i (τ19.1 a0 13))) else (Int32.ofInt (0))))) (h21 : a1.toInt = (0 : Int)) (g22 : p_36 a0 τ20 τ22) (h23 : r1.toInt ≠ (-1 : Int)) (g24 : p_27 a0 τ22 r24 τ24) (h25 : r1.toInt ≠ r24.toInt) (g26 : p_37 a0 r1 τ24 r26 τ26) :
    p_34 (a0) (a1) σ r26 τ26 := by
  intro hb H nf nt Lo K I W
  obtain ⟨hn, e4, hin⟩ := I.in
  obtain ⟨e1, g1⟩ := g1
  subst e1
  have x1 := g1 H _ K e4 hn
  have q1 : (Int32.ofInt (-1)).toInt = -1 := rfl
  rcases hin with ⟨hA, -⟩ | ⟨F, hF, hA, hOn⟩
  · exact absurd (by rw [x1, hA]; rfl) h2
  have k6 := I.1.2.1
  have x1 := x1.trans hA
  subst x1
  have w4 := (K.p (hp_s (k := 4) (by omega) (by omega))).trans e4
  simp only [Nat.reduceAdd] at w4
  rw [w4] at g16
  obtain ⟨f2, x2⟩ := g16 hb H nf nt F (hN H) Lo K I.1 W rfl hF rfl hn
  have K2 := K.lk f2 hb
  have ew19' := W.fr f2 hb
  have w4' := (K2.p (hp_s (k := 4) (by omega) (by omega))).trans e4
  simp only [Nat.reduceAdd] at w4'
  rw [w4'] at g17
  obtain ⟨f3, x3⟩ := g17 hb H nf nt F (hN H) Lo K2 I.1 ew19' rfl hF rfl hn
  have K3 := K2.lk f3 hb
  have y6 := K3.p (hp_s (k := 6) (by omega) (by omega))
  simp only [Nat.reduceAdd] at y6
  rw [y6, x2] at ew18
  have K4 := K3.ww (v := aMi (Int32.ofInt 99) (H 6 + (H (42 + 4 * F) + eSm Lo (eFa H nt F (hN H)) 0))) (hp_s (k := 6) (by omega) (by omega))
  have f4 := hHF.w (σ := τ17) (v := .int (aMi (Int32.ofInt 99) (H 6 + (H (42 + 4 * F) + eSm Lo (eFa H nt F (hN H)) 0)))) (hp_s (b := a0) (k := 6) (by omega) (by omega))
  simp only [Nat.reduceAdd] at K4 f4
  have ew18 : τ18 = q_w τ17 a0 9 (.int (aMi (Int32.ofInt 99) (H 6 + (H (42 + 4 * F) + eSm Lo (eFa H nt F (hN H)) 0)))) := ew18
  rw [← ew18] at K4 f4
  have y7 := K4.p (hp_s (k := 7) (by omega) (by omega))
  simp only [Nat.reduceAdd] at y7
  rw [aU_ne (by omega)] at y7
  rw [y7, x3] at ew19
  have K5 := K4.ww (v := aMi (Int32.ofInt 99) (H 7 + (H (41 + 4 * F) + eSm Lo (eFa H nt F (hN H)) 1))) (hp_s (k := 7) (by omega) (by omega))
  have f5 := hHF.w (σ := τ18) (v := .int (aMi (Int32.ofInt 99) (H 7 + (H (41 + 4 * F) + eSm Lo (eFa H nt F (hN H)) 1)))) (hp_s (b := a0) (k := 7) (by omega) (by omega))
  simp only [Nat.reduceAdd] at K5 f5
  have ew19 : τ19 = q_w τ18 a0 10 (.int (aMi (Int32.ofInt 99) (H 7 + (H (41 + 4 * F) + eSm Lo (eFa H nt F (hN H)) 1)))) := ew19
  rw [← ew19] at K5 f5
  have KM : hH τ19 a0 (hWm Lo nt H (hN H) (hO (H (16 + hN H)))) := by rw [hOn]; exact K5
  have fM : hEF a0 τ1 τ19 := (f2.e).tr ((f3.e).tr ((f4.e).tr f5.e))
  have y6' := KM.p (hp_s (k := 6) (by omega) (by omega))
  have y10 := KM.p (hp_s (k := 10) (by omega) (by omega))
  simp only [Nat.reduceAdd] at y6' y10
  rw [y6', y10] at ew20
  have KC := KM.ww (v := aMa (Int32.ofInt 0) (hWm Lo nt H (hN H) (hO (H (16 + hN H))) 6 - hWm Lo nt H (hN H) (hO (H (16 + hN H))) 10)) (hp_s (k := 6) (by omega) (by omega))
  have fC := hHF.w (σ := τ19) (v := .int (aMa (Int32.ofInt 0) (hWm Lo nt H (hN H) (hO (H (16 + hN H))) 6 - hWm Lo nt H (hN H) (hO (H (16 + hN H))) 10))) (hp_s (b := a0) (k := 6) (by omega) (by omega))
  simp only [Nat.reduceAdd] at KC fC
  have ew20 : τ20 = q_w τ19 a0 9 (.int (aMa (Int32.ofInt 0) (hWm Lo nt H (hN H) (hO (H (16 + hN H))) 6 - hWm Lo nt H (hN H) (hO (H (16 + hN H))) 10))) := ew20
  rw [← ew20] at KC fC
  have KC : hH τ20 a0 (hCd (hWm Lo nt H (hN H) (hO (H (16 + hN H))))) := KC
  have fV : hHF a0 τ20 τ20 := hHF.rf
  have KV : hH τ20 a0 (hMd Lo nt true H) := KC
  have e4m : hMd Lo nt true H 4 = Int32.ofNat (hN H) := (hMd_4 I (by omega)).trans e4
  obtain ⟨fT, KT⟩ := g22 _ _ KV e4m hn
  have IT := (I.md (Lo := Lo) (calm := true)).ck hn
  obtain ⟨hn', e4', -⟩ := IT.in
  obtain ⟨e9, g9⟩ := g24
  subst e9
  have x9 := g9 _ _ KT e4' hn'
  rw [x9] at h25
  refine ⟨fun vz => ?_, fun vz => absurd h21 vz⟩
  have er : hHr Lo nt true H = hFi Lo nt (hCk (hMd Lo nt true H) (hN H)) F (hN (hCk (hMd Lo nt true H) (hN H))) nt := by
    unfold hHr hEd
    rw [if_neg, hA, o32n (by omega)]
    rintro (q | q)
    · rw [hA] at q
      have := congrArg Int32.toInt q
      rw [o32 (by omega), q1] at this
      omega
    · rw [hA] at q
      exact h25 (by rw [q])
  rw [er]
  have WT := W.ef (fM.tr ((fC.e).tr ((fV.e).tr fT.e))) hb
  obtain ⟨fF, KF, xF⟩ := g26 hb _ nf nt F _ Lo KT IT WT rfl hF e4' hn'
  exact ⟨fM.tr ((fC.e).tr ((fV.e).tr ((fT.e).tr fF))), KF, xF⟩
theorem sp_34_efft (a0 : Nat) (a1 : Int32) (σ : zSg) (τ1 : zSg) (r1 : Int32) (τ16 : zSg) (r16 : Int32) (τ17 : zSg) (r17 : Int32) (τ18 : zSg) (τ19 : zSg) (τ20 : zSg) (τ27 : zSg) (τ28 : zSg) (g1 : p_27 a0 σ r1 τ1) (h2 : r1.toInt ≠ (-1 : Int)) (g16 : p_30 a0 r1 (q_i (τ1.1 a0 7)) τ1 r16 τ16) (g17 : p_31 a0 r1 (q_i (τ16.1 a0 7)) τ16 r17 τ17) (ew18 : τ18 = q_w τ17 a0 9 (.int (if ((q_i (τ17.1 a0 9)) + r16) < (Int32.ofInt (99)) then ((q_i (τ17.1 a0 9)) + r16) else (Int32.ofInt (99))))) (ew19 : τ19 = q_w τ18 a0 10 (.int (if ((q_i (τ18.1 a0 10)) + r17) < (Int32.ofInt (99)) then ((q_i (τ18.1 a0 10)) + r17) else (Int32.ofInt (99))))) (ew20 : τ20 = q_w τ19 a0 9 (.int (if (Int32.ofInt (0)) < ((q_i (τ19.1 a0 9)) - (q_i (τ19.1 a0 13))) then ((q_i (τ19.1 a0 9)) - (q_i (τ19.1 a0 13))) else (Int32.ofInt (0))))) (h21 : a1.toInt ≠ (0 : Int)) (g27 : p_35 a0 r1 τ20 τ27) (g28 : p_36 a0 τ27 τ28) (h29 : r1.toInt = (-1 : Int)) :
    p_34 (a0) (a1) σ (Int32.ofInt (0)) τ28 := by
  intro hb H nf nt Lo K I W
  obtain ⟨hn, e4, hin⟩ := I.in
  obtain ⟨e1, g1⟩ := g1
  subst e1
  have x1 := g1 H _ K e4 hn
  have q1 : (Int32.ofInt (-1)).toInt = -1 := rfl
  exact absurd h29 h2
theorem sp_34_effft (a0 : Nat) (a1 : Int32) (σ : zSg) (τ1 : zSg) (r1 : Int32) (τ16 : zSg) (r16 : Int32) (τ17 : zSg) (r17 : Int32) (τ18 : zSg) (τ19 : zSg) (τ20 : zSg) (τ27 : zSg) (τ28 : zSg) (τ30 : zSg) (r30 : Int32) (g1 : p_27 a0 σ r1 τ1) (h2 : r1.toInt ≠ (-1 : Int)) (g16 : p_30 a0 r1 (q_i (τ1.1 a0 7)) τ1 r16 τ16) (g17 : p_31 a0 r1 (q_i (τ16.1 a0 7)) τ16 r17 τ17) (ew18 : τ18 = q_w τ17 a0 9 (.int (if ((q_i (τ17.1 a0 9)) + r16) < (Int32.ofInt (99)) then ((q_i (τ17.1 a0 9)) + r16) else (Int32.ofInt (99))))) (ew19 : τ19 = q_w τ18 a0 10 (.int (if ((q_i (τ18.1 a0 10)) + r17) < (Int32.ofInt (99)) then ((q_i (τ18.1 a0 10)) + r17) else (Int32.ofInt (99))))) (ew20 : τ20 = q_w τ19 a0 9 (.int (if (Int32.ofInt (0)) < ((q_i (τ19.1 a0 9)) - (q_i (τ19.1 a0 13))) then ((q_i (τ19.1 a0 9)) - (q_i (τ19.1 a0 13))) else (Int32.ofInt (0))))) (h21 : a1.toInt ≠ (0 : Int)) (g27 : p_35 a0 r1 τ20 τ27) (g28 : p_36 a0 τ27 τ28) (h29 : r1.toInt ≠ (-1 : Int)) (g30 : p_27 a0 τ28 r30 τ30) (h31 : r1.toInt = r30.toInt) :
    p_34 (a0) (a1) σ (Int32.ofInt (0)) τ30 := by
  intro hb H nf nt Lo K I W
  obtain ⟨hn, e4, hin⟩ := I.in
  obtain ⟨e1, g1⟩ := g1
  subst e1
  have x1 := g1 H _ K e4 hn
  have q1 : (Int32.ofInt (-1)).toInt = -1 := rfl
  rcases hin with ⟨hA, -⟩ | ⟨F, hF, hA, hOn⟩
  · exact absurd (by rw [x1, hA]; rfl) h2
  have k6 := I.1.2.1
  have x1 := x1.trans hA
  subst x1
  have w4 := (K.p (hp_s (k := 4) (by omega) (by omega))).trans e4
  simp only [Nat.reduceAdd] at w4
  rw [w4] at g16
  obtain ⟨f2, x2⟩ := g16 hb H nf nt F (hN H) Lo K I.1 W rfl hF rfl hn
  have K2 := K.lk f2 hb
  have ew19' := W.fr f2 hb
  have w4' := (K2.p (hp_s (k := 4) (by omega) (by omega))).trans e4
  simp only [Nat.reduceAdd] at w4'
  rw [w4'] at g17
  obtain ⟨f3, x3⟩ := g17 hb H nf nt F (hN H) Lo K2 I.1 ew19' rfl hF rfl hn
  have K3 := K2.lk f3 hb
  have y6 := K3.p (hp_s (k := 6) (by omega) (by omega))
  simp only [Nat.reduceAdd] at y6
  rw [y6, x2] at ew18
  have K4 := K3.ww (v := aMi (Int32.ofInt 99) (H 6 + (H (42 + 4 * F) + eSm Lo (eFa H nt F (hN H)) 0))) (hp_s (k := 6) (by omega) (by omega))
  have f4 := hHF.w (σ := τ17) (v := .int (aMi (Int32.ofInt 99) (H 6 + (H (42 + 4 * F) + eSm Lo (eFa H nt F (hN H)) 0)))) (hp_s (b := a0) (k := 6) (by omega) (by omega))
  simp only [Nat.reduceAdd] at K4 f4
  have ew18 : τ18 = q_w τ17 a0 9 (.int (aMi (Int32.ofInt 99) (H 6 + (H (42 + 4 * F) + eSm Lo (eFa H nt F (hN H)) 0)))) := ew18
  rw [← ew18] at K4 f4
  have y7 := K4.p (hp_s (k := 7) (by omega) (by omega))
  simp only [Nat.reduceAdd] at y7
  rw [aU_ne (by omega)] at y7
  rw [y7, x3] at ew19
  have K5 := K4.ww (v := aMi (Int32.ofInt 99) (H 7 + (H (41 + 4 * F) + eSm Lo (eFa H nt F (hN H)) 1))) (hp_s (k := 7) (by omega) (by omega))
  have f5 := hHF.w (σ := τ18) (v := .int (aMi (Int32.ofInt 99) (H 7 + (H (41 + 4 * F) + eSm Lo (eFa H nt F (hN H)) 1)))) (hp_s (b := a0) (k := 7) (by omega) (by omega))
  simp only [Nat.reduceAdd] at K5 f5
  have ew19 : τ19 = q_w τ18 a0 10 (.int (aMi (Int32.ofInt 99) (H 7 + (H (41 + 4 * F) + eSm Lo (eFa H nt F (hN H)) 1)))) := ew19
  rw [← ew19] at K5 f5
  have KM : hH τ19 a0 (hWm Lo nt H (hN H) (hO (H (16 + hN H)))) := by rw [hOn]; exact K5
  have fM : hEF a0 τ1 τ19 := (f2.e).tr ((f3.e).tr ((f4.e).tr f5.e))
  have y6' := KM.p (hp_s (k := 6) (by omega) (by omega))
  have y10 := KM.p (hp_s (k := 10) (by omega) (by omega))
  simp only [Nat.reduceAdd] at y6' y10
  rw [y6', y10] at ew20
  have KC := KM.ww (v := aMa (Int32.ofInt 0) (hWm Lo nt H (hN H) (hO (H (16 + hN H))) 6 - hWm Lo nt H (hN H) (hO (H (16 + hN H))) 10)) (hp_s (k := 6) (by omega) (by omega))
  have fC := hHF.w (σ := τ19) (v := .int (aMa (Int32.ofInt 0) (hWm Lo nt H (hN H) (hO (H (16 + hN H))) 6 - hWm Lo nt H (hN H) (hO (H (16 + hN H))) 10))) (hp_s (b := a0) (k := 6) (by omega) (by omega))
  simp only [Nat.reduceAdd] at KC fC
  have ew20 : τ20 = q_w τ19 a0 9 (.int (aMa (Int32.ofInt 0) (hWm Lo nt H (hN H) (hO (H (16 + hN H))) 6 - hWm Lo nt H (hN H) (hO (H (16 + hN H))) 10))) := ew20
  rw [← ew20] at KC fC
  have KC : hH τ20 a0 (hCd (hWm Lo nt H (hN H) (hO (H (16 + hN H))))) := KC
  obtain ⟨fV, KV⟩ := (g27 _ KC).2 F (by omega) rfl
  have KV : hH τ27 a0 (hMd Lo nt false H) := by
    show hH τ27 a0 (hVi (hCd (hWm Lo nt H (hN H) (hO (H (16 + hN H))))) (hO (H (16 + hN H))))
    rw [show hO (H (16 + hN H)) = some F from hOn] at KV ⊢
    exact KV
  have e4m : hMd Lo nt false H 4 = Int32.ofNat (hN H) := (hMd_4 I (by omega)).trans e4
  obtain ⟨fT, KT⟩ := g28 _ _ KV e4m hn
  have IT := (I.md (Lo := Lo) (calm := false)).ck hn
  obtain ⟨hn', e4', -⟩ := IT.in
  obtain ⟨e9, g9⟩ := g30
  subst e9
  have x9 := g9 _ _ KT e4' hn'
  rw [x9] at h31
  refine ⟨fun vz => absurd vz h21, fun vz => ?_⟩
  have er : hHr Lo nt false H = (hCk (hMd Lo nt false H) (hN H), 0) := by
    unfold hHr hEd
    rw [if_pos (Or.inr ?_)]
    rw [hA]
    exact (Int32.toInt_inj.mp h31).symm
  rw [er]
  exact ⟨fM.tr ((fC.e).tr ((fV.e).tr fT.e)), KT, rfl⟩
theorem sp_34_effff (a0 : Nat) (a1 : Int32) (σ : zSg) (τ1 : zSg) (r1 : Int32) (τ16 : zSg) (r16 : Int32) (τ17 : zSg) (r17 : Int32) (τ18 : zSg) (τ19 : zSg) (τ20 : zSg) (τ27 : zSg) (τ28 : zSg) (τ30 : zSg) (r30 : Int32) (τ32 : zSg) (r32 : Int32) (g1 : p_27 a0 σ r1 τ1) (h2 : r1.toInt ≠ (-1 : Int)) (g16 : p_30 a0 r1 (q_i (τ1.1 a0 7)) τ1 r16 τ16) (g17 : p_31 a0 r1 (q_i (τ16.1 a0 7)) τ16 r17 τ17) (ew18 : τ18 = q_w τ17 a0 9 (.int (if ((q_i (τ17.1 a0 9)) + r16) < (Int32.ofInt (99)) then ((q_i (τ17.1 a0 9)) + r16) else (Int32.ofInt (99))))) (ew19 : τ19 = q_w τ18 a0 10 (.int (if ((q_i (τ18.1 a0 10)) + r17) < (Int32.ofInt (99)) then ((q_i (τ18.1 a0 10)) + r17) else (Int32.ofInt (99))))) (ew20 : τ20 = q_w τ19 a0 9 (.int (if (Int32.ofInt (0)) < ((q_i (τ19.1 a0 9)) - (q_i (τ19.1 a0 13))) then ((q_i (τ19.1 a0 9)) - (q_i (τ19.1 a0 13))) else (Int32.ofInt (0))))) (h21 : a1.toInt ≠ (0 : Int)) (g27 : p_35 a0 r1 τ20 τ27) (g28 : p_36 a0 τ27 τ28) (h29 : r1.toInt ≠ (-1 : Int)) (g30 : p_27 a0 τ28 r30 τ30) (h31 : r1.toInt ≠ r30.toInt) (g32 : p_37 a0 r1 τ30 r32 τ32) :
    p_34 (a0) (a1) σ r32 τ32 := by
  intro hb H nf nt Lo K I W
  obtain ⟨hn, e4, hin⟩ := I.in
  obtain ⟨e1, g1⟩ := g1
  subst e1
  have x1 := g1 H _ K e4 hn
  have q1 : (Int32.ofInt (-1)).toInt = -1 := rfl
  rcases hin with ⟨hA, -⟩ | ⟨F, hF, hA, hOn⟩
  · exact absurd (by rw [x1, hA]; rfl) h2
  have k6 := I.1.2.1
  have x1 := x1.trans hA
  subst x1
  have w4 := (K.p (hp_s (k := 4) (by omega) (by omega))).trans e4
  simp only [Nat.reduceAdd] at w4
  rw [w4] at g16
  obtain ⟨f2, x2⟩ := g16 hb H nf nt F (hN H) Lo K I.1 W rfl hF rfl hn
  have K2 := K.lk f2 hb
  have ew19' := W.fr f2 hb
  have w4' := (K2.p (hp_s (k := 4) (by omega) (by omega))).trans e4
  simp only [Nat.reduceAdd] at w4'
  rw [w4'] at g17
  obtain ⟨f3, x3⟩ := g17 hb H nf nt F (hN H) Lo K2 I.1 ew19' rfl hF rfl hn
  have K3 := K2.lk f3 hb
  have y6 := K3.p (hp_s (k := 6) (by omega) (by omega))
  simp only [Nat.reduceAdd] at y6
  rw [y6, x2] at ew18
  have K4 := K3.ww (v := aMi (Int32.ofInt 99) (H 6 + (H (42 + 4 * F) + eSm Lo (eFa H nt F (hN H)) 0))) (hp_s (k := 6) (by omega) (by omega))
  have f4 := hHF.w (σ := τ17) (v := .int (aMi (Int32.ofInt 99) (H 6 + (H (42 + 4 * F) + eSm Lo (eFa H nt F (hN H)) 0)))) (hp_s (b := a0) (k := 6) (by omega) (by omega))
  simp only [Nat.reduceAdd] at K4 f4
  have ew18 : τ18 = q_w τ17 a0 9 (.int (aMi (Int32.ofInt 99) (H 6 + (H (42 + 4 * F) + eSm Lo (eFa H nt F (hN H)) 0)))) := ew18
  rw [← ew18] at K4 f4
  have y7 := K4.p (hp_s (k := 7) (by omega) (by omega))
  simp only [Nat.reduceAdd] at y7
  rw [aU_ne (by omega)] at y7
  rw [y7, x3] at ew19
  have K5 := K4.ww (v := aMi (Int32.ofInt 99) (H 7 + (H (41 + 4 * F) + eSm Lo (eFa H nt F (hN H)) 1))) (hp_s (k := 7) (by omega) (by omega))
  have f5 := hHF.w (σ := τ18) (v := .int (aMi (Int32.ofInt 99) (H 7 + (H (41 + 4 * F) + eSm Lo (eFa H nt F (hN H)) 1)))) (hp_s (b := a0) (k := 7) (by omega) (by omega))
  simp only [Nat.reduceAdd] at K5 f5
  have ew19 : τ19 = q_w τ18 a0 10 (.int (aMi (Int32.ofInt 99) (H 7 + (H (41 + 4 * F) + eSm Lo (eFa H nt F (hN H)) 1)))) := ew19
  rw [← ew19] at K5 f5
  have KM : hH τ19 a0 (hWm Lo nt H (hN H) (hO (H (16 + hN H)))) := by rw [hOn]; exact K5
  have fM : hEF a0 τ1 τ19 := (f2.e).tr ((f3.e).tr ((f4.e).tr f5.e))
  have y6' := KM.p (hp_s (k := 6) (by omega) (by omega))
  have y10 := KM.p (hp_s (k := 10) (by omega) (by omega))
  simp only [Nat.reduceAdd] at y6' y10
  rw [y6', y10] at ew20
  have KC := KM.ww (v := aMa (Int32.ofInt 0) (hWm Lo nt H (hN H) (hO (H (16 + hN H))) 6 - hWm Lo nt H (hN H) (hO (H (16 + hN H))) 10)) (hp_s (k := 6) (by omega) (by omega))
  have fC := hHF.w (σ := τ19) (v := .int (aMa (Int32.ofInt 0) (hWm Lo nt H (hN H) (hO (H (16 + hN H))) 6 - hWm Lo nt H (hN H) (hO (H (16 + hN H))) 10))) (hp_s (b := a0) (k := 6) (by omega) (by omega))
  simp only [Nat.reduceAdd] at KC fC
  have ew20 : τ20 = q_w τ19 a0 9 (.int (aMa (Int32.ofInt 0) (hWm Lo nt H (hN H) (hO (H (16 + hN H))) 6 - hWm Lo nt H (hN H) (hO (H (16 + hN H))) 10))) := ew20
  rw [← ew20] at KC fC
  have KC : hH τ20 a0 (hCd (hWm Lo nt H (hN H) (hO (H (16 + hN H))))) := KC
  obtain ⟨fV, KV⟩ := (g27 _ KC).2 F (by omega) rfl
  have KV : hH τ27 a0 (hMd Lo nt false H) := by
    show hH τ27 a0 (hVi (hCd (hWm Lo nt H (hN H) (hO (H (16 + hN H))))) (hO (H (16 + hN H))))
    rw [show hO (H (16 + hN H)) = some F from hOn] at KV ⊢
    exact KV
  have e4m : hMd Lo nt false H 4 = Int32.ofNat (hN H) := (hMd_4 I (by omega)).trans e4
  obtain ⟨fT, KT⟩ := g28 _ _ KV e4m hn
  have IT := (I.md (Lo := Lo) (calm := false)).ck hn
  obtain ⟨hn', e4', -⟩ := IT.in
  obtain ⟨e9, g9⟩ := g30
  subst e9
  have x9 := g9 _ _ KT e4' hn'
  rw [x9] at h31
  refine ⟨fun vz => absurd vz h21, fun vz => ?_⟩
  have er : hHr Lo nt false H = hFi Lo nt (hCk (hMd Lo nt false H) (hN H)) F (hN (hCk (hMd Lo nt false H) (hN H))) nt := by
    unfold hHr hEd
    rw [if_neg, hA, o32n (by omega)]
    rintro (q | q)
    · rw [hA] at q
      have := congrArg Int32.toInt q
      rw [o32 (by omega), q1] at this
      omega
    · rw [hA] at q
      exact h31 (by rw [q])
  rw [er]
  have WT := W.ef (fM.tr ((fC.e).tr ((fV.e).tr fT.e))) hb
  obtain ⟨fF, KF, xF⟩ := g32 hb _ nf nt F _ Lo KT IT WT rfl hF e4' hn'
  exact ⟨fM.tr ((fC.e).tr ((fV.e).tr ((fT.e).tr fF))), KF, xF⟩
noncomputable def qP_34 : zPp := fun as σ o σ' => match as with
  | [a0, a1] => ∃ r, o = .inl (some (.int r)) ∧ p_34 (q_r a0) (q_i a1) σ r σ'
  | _ => True
set_option maxRecDepth 100000 in
theorem sp_34 {sx : zX} (S27 : zEe sx 27 1 qP_27) (S36 : zEe sx 36 1 qP_36) (S37 : zEe sx 37 2 qP_37) (S35 : zEe sx 35 2 qP_35) (S30 : zEe sx 30 3 qP_30) (S31 : zEe sx 31 3 qP_31) : zEe sx 34 2 qP_34 := by
  refine zfle zJ_34 (sps := [(27, 1, qP_27), (36, 1, qP_36), (37, 2, qP_37), (35, 2, qP_35), (30, 3, qP_30), (31, 3, qP_31)]) (fun q hq => by
    simp only [List.mem_cons, List.not_mem_nil, or_false] at hq
    rcases hq with rfl | rfl | rfl | rfl | rfl | rfl
    · exact S27
    · exact S36
    · exact S37
    · exact S35
    · exact S30
    · exact S31) (fun as σ hl => ?_)
  match as, hl with
  | [a0, a1], _ =>
  refine ⟨[], 400, ?_, ?_⟩
  · exact fun q hq => absurd hq List.not_mem_nil
  · refine fun o1 τ1 g1 => ?_
    obtain ⟨r1, rfl, g1⟩ := g1
    refine And.intro (fun h2 => ?_) (fun h2 => ?_)
    · refine And.intro (fun h4 => ?_) (fun h4 => ?_)
      · refine fun o5 τ5 g5 => ?_
        obtain ⟨rfl, g5⟩ := g5
        refine And.intro (fun h6 => ?_) (fun h6 => ?_)
        · exact ⟨_, rfl, sp_34_ettt (q_r a0) (q_i a1) σ τ1 r1 _ τ5 g1 (cm0t h2) rfl (cm0t h4) g5 (cm0t h6)⟩
        · refine fun o7 τ7 g7 => ?_
          obtain ⟨r7, rfl, g7⟩ := g7
          refine And.intro (fun h8 => ?_) (fun h8 => ?_)
          · exact ⟨_, rfl, sp_34_ettft (q_r a0) (q_i a1) σ τ1 r1 _ τ5 τ7 r7 g1 (cm0t h2) rfl (cm0t h4) g5 (cm0f h6) g7 (cm0t h8)⟩
          · refine fun o9 τ9 g9 => ?_
            obtain ⟨r9, rfl, g9⟩ := g9
            exact ⟨_, rfl, sp_34_ettff (q_r a0) (q_i a1) σ τ1 r1 _ τ5 τ7 r7 τ9 r9 g1 (cm0t h2) rfl (cm0t h4) g5 (cm0f h6) g7 (cm0f h8) g9⟩
      · refine fun o10 τ10 g10 => ?_
        obtain ⟨rfl, g10⟩ := g10
        refine fun o11 τ11 g11 => ?_
        obtain ⟨rfl, g11⟩ := g11
        refine And.intro (fun h12 => ?_) (fun h12 => ?_)
        · exact ⟨_, rfl, sp_34_etft (q_r a0) (q_i a1) σ τ1 r1 _ τ10 τ11 g1 (cm0t h2) rfl (cm0f h4) g10 g11 (cm0t h12)⟩
        · refine fun o13 τ13 g13 => ?_
          obtain ⟨r13, rfl, g13⟩ := g13
          refine And.intro (fun h14 => ?_) (fun h14 => ?_)
          · exact ⟨_, rfl, sp_34_etfft (q_r a0) (q_i a1) σ τ1 r1 _ τ10 τ11 τ13 r13 g1 (cm0t h2) rfl (cm0f h4) g10 g11 (cm0f h12) g13 (cm0t h14)⟩
          · refine fun o15 τ15 g15 => ?_
            obtain ⟨r15, rfl, g15⟩ := g15
            exact ⟨_, rfl, sp_34_etfff (q_r a0) (q_i a1) σ τ1 r1 _ τ10 τ11 τ13 r13 τ15 r15 g1 (cm0t h2) rfl (cm0f h4) g10 g11 (cm0f h12) g13 (cm0f h14) g15⟩
    · refine fun o16 τ16 g16 => ?_
      obtain ⟨r16, rfl, g16⟩ := g16
      refine fun o17 τ17 g17 => ?_
      obtain ⟨r17, rfl, g17⟩ := g17
      refine And.intro (fun h21 => ?_) (fun h21 => ?_)
      · refine fun o22 τ22 g22 => ?_
        obtain ⟨rfl, g22⟩ := g22
        refine And.intro (fun h23 => ?_) (fun h23 => ?_)
        · exact ⟨_, rfl, sp_34_eftt (q_r a0) (q_i a1) σ τ1 r1 τ16 r16 τ17 r17 _ _ _ τ22 g1 (cm0f h2) g16 g17 rfl rfl rfl (cm0t h21) g22 (cm0t h23)⟩
        · refine fun o24 τ24 g24 => ?_
          obtain ⟨r24, rfl, g24⟩ := g24
          refine And.intro (fun h25 => ?_) (fun h25 => ?_)
          · exact ⟨_, rfl, sp_34_eftft (q_r a0) (q_i a1) σ τ1 r1 τ16 r16 τ17 r17 _ _ _ τ22 τ24 r24 g1 (cm0f h2) g16 g17 rfl rfl rfl (cm0t h21) g22 (cm0f h23) g24 (cm0t h25)⟩
          · refine fun o26 τ26 g26 => ?_
            obtain ⟨r26, rfl, g26⟩ := g26
            exact ⟨_, rfl, sp_34_eftff (q_r a0) (q_i a1) σ τ1 r1 τ16 r16 τ17 r17 _ _ _ τ22 τ24 r24 τ26 r26 g1 (cm0f h2) g16 g17 rfl rfl rfl (cm0t h21) g22 (cm0f h23) g24 (cm0f h25) g26⟩
      · refine fun o27 τ27 g27 => ?_
        obtain ⟨rfl, g27⟩ := g27
        refine fun o28 τ28 g28 => ?_
        obtain ⟨rfl, g28⟩ := g28
        refine And.intro (fun h29 => ?_) (fun h29 => ?_)
        · exact ⟨_, rfl, sp_34_efft (q_r a0) (q_i a1) σ τ1 r1 τ16 r16 τ17 r17 _ _ _ τ27 τ28 g1 (cm0f h2) g16 g17 rfl rfl rfl (cm0f h21) g27 g28 (cm0t h29)⟩
        · refine fun o30 τ30 g30 => ?_
          obtain ⟨r30, rfl, g30⟩ := g30
          refine And.intro (fun h31 => ?_) (fun h31 => ?_)
          · exact ⟨_, rfl, sp_34_effft (q_r a0) (q_i a1) σ τ1 r1 τ16 r16 τ17 r17 _ _ _ τ27 τ28 τ30 r30 g1 (cm0f h2) g16 g17 rfl rfl rfl (cm0f h21) g27 g28 (cm0f h29) g30 (cm0t h31)⟩
          · refine fun o32 τ32 g32 => ?_
            obtain ⟨r32, rfl, g32⟩ := g32
            exact ⟨_, rfl, sp_34_effff (q_r a0) (q_i a1) σ τ1 r1 τ16 r16 τ17 r17 _ _ _ τ27 τ28 τ30 r30 τ32 r32 g1 (cm0f h2) g16 g17 rfl rfl rfl (cm0f h21) g27 g28 (cm0f h29) g30 (cm0f h31) g32⟩
/-- an act was remembered; the laws' stacks too may have changed -/
noncomputable def xE (σ σ' : zSg) (A B : Nat → Int32) (nx n : Nat) (Ms : Nat → Nat → Int32) : Prop := (σ'.2 = σ.2 ∧ ∀ c k, ¬ (8 ≤ c ∧ c ≤ 20 ∧ ¬ (c = 8 ∧ k = 5)) → ¬ (c = 47 ∧ (k = 1 ∨ k = 2)) → ¬ (49 + 13 * nx ≤ c ∧ c ≤ 61 + 13 * nx) → ¬ (219 ≤ c ∧ c % 6 = 5) → σ'.1 c k = σ.1 c k) ∧ hH σ' 8 B ∧ mM σ' ((nx + 1) % 12) (min (n + 1) 12) (fun i => if i = nx then A else Ms i) ∧ σ'.1 (49 + 13 * nx) 5 = σ.1 8 5
section XES
variable {σ τ υ : zSg} {A B B' : Nat → Int32} {nf nt nx n : Nat} {Ms : Nat → Nat → Int32}
theorem xR.e (R : xR σ τ A B nx n Ms) : xE σ τ A B nx n Ms := ⟨⟨R.1.1, fun c k q1 q2 q3 _ => R.1.2 c k q1 q2 q3⟩, R.2.1, R.2.2.1, R.2.2.2⟩
theorem mM.fe {Ns : Nat → Nat → Int32} {ny m : Nat} (K : mM σ ny m Ns) (h2' : τ.2 = σ.2) (h : ∀ c j, 47 ≤ c → c ≤ 204 → τ.1 c j = σ.1 c j) : mM τ ny m Ns := by
  obtain ⟨m1, m2, m3, m4, m5, m6, m7⟩ := K
  exact ⟨by rw [h _ _ (by omega) (by omega)]; exact m1, fun i hi => by rw [h _ _ (by omega) (by omega)]; exact m2 i hi, by rw [h _ _ (by omega) (by omega)]; exact m3, m4, by rw [h _ _ (by omega) (by omega)]; exact m5, m6, fun i hi => (m7 i hi).fr h2' (fun c j q1 q2 => h c j (by omega) (by omega))⟩
theorem xE.hs (R : xE σ τ A B nx n Ms) (hx : nx < 12) (f : hEF 8 τ υ) (h : hH υ 8 B') : xE σ υ A B' nx n Ms := by
  obtain ⟨g1, g2, g3, g4⟩ := R
  refine ⟨⟨f.1.trans g1.1, fun c k q1 q2 q3 q4 => (f.2 c k (by omega) q4).trans (g1.2 c k q1 q2 q3 q4)⟩, h, g3.fe f.1 (fun c j q1 q2 => f.2 c j (by omega) (by omega)), ?_⟩
  rw [f.2 _ _ (by omega) (by omega)]
  exact g4
theorem xE.sk (R : xE σ τ A B nx n Ms) (K : xSk σ) : xSk τ := K.of (fun k _ => R.1.2 0 k (by omega) (by omega) (by omega) (by omega))
end XES
theorem zJ_135 : zJ3 135 z_m135 z_c135 z_h135 := ⟨rfl, rfl, rfl⟩
noncomputable def p_135 (a : Nat) (n : Int32) (σ : zSg) (e : Int32 ⊕ Nat) (σ' : zSg) : Prop := a = 0 → ∀ A nf nt nx m Ms Lo, xA σ A nf nt nx m Ms → hW σ 8 Lo → (¬ (1 ≤ n.toInt ∧ n.toInt ≤ 100) → e = .inr 0 ∧ σ' = σ) ∧ (∀ N, n = Int32.ofNat N → 1 ≤ N → N ≤ 100 → e = .inl (Int32.ofNat (hHs Lo nt false A N).2) ∧ xE σ σ' A (hHs Lo nt false A N).1 nx m Ms ∧ hW σ' 8 Lo)
noncomputable def i_135 (a : Nat) (n : Int32) (σ : zSg) (l0 : Nat) (l1 l2 l3 : Int32) (τ : zSg) : Prop := l0 = a ∧ l1 = n ∧ (a = 0 → ∀ A nf nt nx m Ms Lo, xA σ A nf nt nx m Ms → hW σ 8 Lo → ∃ N, n = Int32.ofNat N ∧ 1 ≤ N ∧ N ≤ 100 ∧ ∃ i, i ≤ N ∧ l3 = Int32.ofNat i ∧ l2 = Int32.ofNat (hHs Lo nt false A i).2 ∧ xE σ τ A (hHs Lo nt false A i).1 nx m Ms ∧ hW τ 8 Lo)
theorem sp_135_en (a0 : Nat) (a1 : Int32) (σ : zSg) (τ1 : zSg) (τ2 : zSg) (g1 : p_170 a0 a1 (Int32.ofInt (1)) (Int32.ofInt (100)) σ (.inl 0) τ1) (g2 : p_62 (q_r (τ1.1 a0 5)) (q_r (τ1.1 a0 2)) τ1 τ2) :
    i_135 a0 a1 σ a0 a1 (Int32.ofInt (0)) (Int32.ofInt (0)) τ2 := by
  refine ⟨rfl, rfl, ?_⟩
  rintro rfl A nf nt nx m Ms Lo K W
  obtain ⟨rfl, u, -⟩ := g1
  have u := u rfl
  have z1 : (Int32.ofInt 1).toInt = 1 := rfl
  have z100 : (Int32.ofInt 100).toInt = 100 := rfl
  have q0 := K.1.q
  rw [q0.2.1, q0.2.2.2.2] at g2
  have R := K.kp g2
  have f8 : τ2.1 8 5 = τ1.1 8 5 := R.1.2 8 5 (by omega) (by omega) (by omega)
  have hx := K.2.2.1.2.2.2.1
  refine ⟨a1.toInt.toNat, Int32.toInt_inj.mp (by rw [o32 (by omega)]; omega), by omega, by omega, 0, Nat.zero_le _, rfl, rfl, R.e, ?_⟩
  unfold hW at W ⊢
  match Lo, W with
  | none, W => exact f8.trans W
  | some (L, ls, l), ⟨k1, k2, k3, k4, k5, k6⟩ => exact ⟨f8.trans k1, k2, k3, k4.fr R.1.1 (fun c k q1 q2 q3 => R.1.2 c k (by omega) (by omega) (by omega)), by rw [R.1.1]; exact k5, k6⟩
theorem sp_135_ex0_ (a0 : Nat) (a1 : Int32) (σ : zSg) (τ1 : zSg) (g1 : p_170 a0 a1 (Int32.ofInt (1)) (Int32.ofInt (100)) σ (.inr 0) τ1) :
    p_135 (a0) (a1) σ (.inr 0) τ1 := by
  rintro rfl A nf nt nx m Ms Lo K W
  obtain ⟨rfl, -, u⟩ := g1
  have u := u rfl
  have z1 : (Int32.ofInt 1).toInt = 1 := rfl
  have z100 : (Int32.ofInt 100).toInt = 100 := rfl
  exact ⟨fun _ => ⟨rfl, rfl⟩, fun N e h1 h2 => absurd (by rw [e, o32 (by omega)]; omega) u⟩
theorem sp_135_c14_t (a0 : Nat) (a1 : Int32) (σ : zSg) (l0 : Nat) (l1 : Int32) (l2 : Int32) (l3 : Int32) (τ : zSg) (hI : i_135 a0 a1 σ l0 l1 l2 l3 τ) (h3 : l3.toInt ≥ l1.toInt) :
    p_135 (a0) (a1) σ (.inl l2) τ := by
  obtain ⟨rfl, rfl, hI⟩ := hI
  rintro rfl A nf nt nx m Ms Lo K W
  obtain ⟨N, eN, h1, h2, i, hi, e3, e2, R, W'⟩ := hI rfl A nf nt nx m Ms Lo K W
  subst eN e3 e2
  rw [o32 (by omega), o32 (by omega)] at h3
  refine ⟨fun w => absurd (by rw [o32 (by omega)]; omega) w, fun M eM g1 g2 => ?_⟩
  have h9 := congrArg Int32.toInt eM
  rw [o32 (by omega), o32 (by omega)] at h9
  have hM : M = N := by omega
  have hi' : i = N := by omega
  subst hM
  subst hi'
  exact ⟨rfl, R, W'⟩
theorem sp_135_c14_f (a0 : Nat) (a1 : Int32) (σ : zSg) (l0 : Nat) (l1 : Int32) (l2 : Int32) (l3 : Int32) (τ : zSg) (τ4 : zSg) (r4 : Int32) (hI : i_135 a0 a1 σ l0 l1 l2 l3 τ) (h3 : l3.toInt < l1.toInt) (g4 : p_34 (q_r (τ.1 l0 2)) (Int32.ofInt (1)) τ r4 τ4) :
    i_135 a0 a1 σ l0 l1 (l2 + r4) (l3 + Int32.ofInt (1)) τ4 := by
  obtain ⟨rfl, rfl, hI⟩ := hI
  refine ⟨rfl, rfl, ?_⟩
  rintro rfl A nf nt nx m Ms Lo K W
  obtain ⟨N, eN, h1, h2, i, hi, e3, e2, R, W'⟩ := hI rfl A nf nt nx m Ms Lo K W
  subst eN e3 e2
  rw [o32 (by omega), o32 (by omega)] at h3
  have hx := K.2.2.1.2.2.2.1
  have qs := (R.sk K.1).q
  have IA := K.2.2.2.hs (Lo := Lo) (calm := false) i
  rw [qs.2.1] at g4
  obtain ⟨fE, KE, xE'⟩ := (g4 (by omega) _ nf nt Lo R.2.1 IA W').2 (by decide)
  refine ⟨N, rfl, h1, h2, i + 1, by omega, o32i (by omega), ?_, R.hs hx fE KE, W'.ef fE (by omega)⟩
  rw [xE']
  exact (Int32.ofNat_add _ _).symm
noncomputable def qP_135 : zPp := fun as σ o σ' => match as with
  | [a0, a1] => (∃ r, o = .inl (some (.int r)) ∧ p_135 (q_r a0) (q_i a1) σ (.inl r) σ') ∨ (o = .inr 0 ∧ p_135 (q_r a0) (q_i a1) σ (.inr 0) σ')
  | _ => True
set_option maxRecDepth 100000 in
theorem sp_135 {sx : zX} (S170 : zEe sx 170 4 qP_170) (S62 : zEe sx 62 2 qP_62) (S34 : zEe sx 34 2 qP_34) : zEe sx 135 2 qP_135 := by
  refine zfle zJ_135 (sps := [(170, 4, qP_170), (62, 2, qP_62), (34, 2, qP_34)]) (fun q hq => by
    simp only [List.mem_cons, List.not_mem_nil, or_false] at hq
    rcases hq with rfl | rfl | rfl
    · exact S170
    · exact S62
    · exact S34) (fun as σ hl => ?_)
  match as, hl with
  | [a0, a1], _ =>
  refine ⟨[(14, fun lo st τ => st = [] ∧ i_135 (q_r a0) (q_i a1) σ (q_r (lo 0)) (q_i (lo 1)) (q_i (lo 2)) (q_i (lo 3)) τ)], 400, ?_, ?_⟩
  · intro q hq
    simp only [List.mem_cons, List.not_mem_nil, or_false] at hq
    rcases hq with rfl
    · rintro lo st τ ⟨rfl, hI⟩
      refine ⟨400, ?_⟩
      refine And.intro (fun h3 => ?_) (fun h3 => ?_)
      · exact Or.inl ⟨_, rfl, sp_135_c14_t (q_r a0) (q_i a1) σ (q_r (lo 0)) (q_i (lo 1)) (q_i (lo 2)) (q_i (lo 3)) τ hI (cm3t h3)⟩
      · refine fun o4 τ4 g4 => ?_
        obtain ⟨r4, rfl, g4⟩ := g4
        exact ⟨rfl, sp_135_c14_f (q_r a0) (q_i a1) σ (q_r (lo 0)) (q_i (lo 1)) (q_i (lo 2)) (q_i (lo 3)) τ τ4 r4 hI (cm3f h3) g4⟩
  · refine fun o1 τ1 g1 => ?_
    rcases g1 with ⟨rfl, g1⟩ | ⟨rfl, g1⟩
    · refine fun o2 τ2 g2 => ?_
      obtain ⟨rfl, g2⟩ := g2
      exact ⟨rfl, sp_135_en (q_r a0) (q_i a1) σ τ1 τ2 g1 g2⟩
    · exact Or.inr (⟨rfl, sp_135_ex0_ (q_r a0) (q_i a1) σ τ1 g1⟩)
