section
/-! readers of both sides, exact: widows, rich; printed with wip/gen/gen_dt.py -/
noncomputable def fBc (a0 : Int32) : Int32 := ((((((((a0 - (((a0.toUInt32 >>> ((Int32.ofInt (1)).toUInt32 &&& Int32.toUInt32 31)).toInt32) &&& (Int32.ofInt (1431655765)))) &&& (Int32.ofInt (858993459))) + ((((a0 - (((a0.toUInt32 >>> ((Int32.ofInt (1)).toUInt32 &&& Int32.toUInt32 31)).toInt32) &&& (Int32.ofInt (1431655765)))).toUInt32 >>> ((Int32.ofInt (2)).toUInt32 &&& Int32.toUInt32 31)).toInt32) &&& (Int32.ofInt (858993459)))) + (((((a0 - (((a0.toUInt32 >>> ((Int32.ofInt (1)).toUInt32 &&& Int32.toUInt32 31)).toInt32) &&& (Int32.ofInt (1431655765)))) &&& (Int32.ofInt (858993459))) + ((((a0 - (((a0.toUInt32 >>> ((Int32.ofInt (1)).toUInt32 &&& Int32.toUInt32 31)).toInt32) &&& (Int32.ofInt (1431655765)))).toUInt32 >>> ((Int32.ofInt (2)).toUInt32 &&& Int32.toUInt32 31)).toInt32) &&& (Int32.ofInt (858993459)))).toUInt32 >>> ((Int32.ofInt (4)).toUInt32 &&& Int32.toUInt32 31)).toInt32)) &&& (Int32.ofInt (252645135))) + (((((((a0 - (((a0.toUInt32 >>> ((Int32.ofInt (1)).toUInt32 &&& Int32.toUInt32 31)).toInt32) &&& (Int32.ofInt (1431655765)))) &&& (Int32.ofInt (858993459))) + ((((a0 - (((a0.toUInt32 >>> ((Int32.ofInt (1)).toUInt32 &&& Int32.toUInt32 31)).toInt32) &&& (Int32.ofInt (1431655765)))).toUInt32 >>> ((Int32.ofInt (2)).toUInt32 &&& Int32.toUInt32 31)).toInt32) &&& (Int32.ofInt (858993459)))) + (((((a0 - (((a0.toUInt32 >>> ((Int32.ofInt (1)).toUInt32 &&& Int32.toUInt32 31)).toInt32) &&& (Int32.ofInt (1431655765)))) &&& (Int32.ofInt (858993459))) + ((((a0 - (((a0.toUInt32 >>> ((Int32.ofInt (1)).toUInt32 &&& Int32.toUInt32 31)).toInt32) &&& (Int32.ofInt (1431655765)))).toUInt32 >>> ((Int32.ofInt (2)).toUInt32 &&& Int32.toUInt32 31)).toInt32) &&& (Int32.ofInt (858993459)))).toUInt32 >>> ((Int32.ofInt (4)).toUInt32 &&& Int32.toUInt32 31)).toInt32)) &&& (Int32.ofInt (252645135))).toUInt32 >>> ((Int32.ofInt (8)).toUInt32 &&& Int32.toUInt32 31)).toInt32)) + ((((((((a0 - (((a0.toUInt32 >>> ((Int32.ofInt (1)).toUInt32 &&& Int32.toUInt32 31)).toInt32) &&& (Int32.ofInt (1431655765)))) &&& (Int32.ofInt (858993459))) + ((((a0 - (((a0.toUInt32 >>> ((Int32.ofInt (1)).toUInt32 &&& Int32.toUInt32 31)).toInt32) &&& (Int32.ofInt (1431655765)))).toUInt32 >>> ((Int32.ofInt (2)).toUInt32 &&& Int32.toUInt32 31)).toInt32) &&& (Int32.ofInt (858993459)))) + (((((a0 - (((a0.toUInt32 >>> ((Int32.ofInt (1)).toUInt32 &&& Int32.toUInt32 31)).toInt32) &&& (Int32.ofInt (1431655765)))) &&& (Int32.ofInt (858993459))) + ((((a0 - (((a0.toUInt32 >>> ((Int32.ofInt (1)).toUInt32 &&& Int32.toUInt32 31)).toInt32) &&& (Int32.ofInt (1431655765)))).toUInt32 >>> ((Int32.ofInt (2)).toUInt32 &&& Int32.toUInt32 31)).toInt32) &&& (Int32.ofInt (858993459)))).toUInt32 >>> ((Int32.ofInt (4)).toUInt32 &&& Int32.toUInt32 31)).toInt32)) &&& (Int32.ofInt (252645135))) + (((((((a0 - (((a0.toUInt32 >>> ((Int32.ofInt (1)).toUInt32 &&& Int32.toUInt32 31)).toInt32) &&& (Int32.ofInt (1431655765)))) &&& (Int32.ofInt (858993459))) + ((((a0 - (((a0.toUInt32 >>> ((Int32.ofInt (1)).toUInt32 &&& Int32.toUInt32 31)).toInt32) &&& (Int32.ofInt (1431655765)))).toUInt32 >>> ((Int32.ofInt (2)).toUInt32 &&& Int32.toUInt32 31)).toInt32) &&& (Int32.ofInt (858993459)))) + (((((a0 - (((a0.toUInt32 >>> ((Int32.ofInt (1)).toUInt32 &&& Int32.toUInt32 31)).toInt32) &&& (Int32.ofInt (1431655765)))) &&& (Int32.ofInt (858993459))) + ((((a0 - (((a0.toUInt32 >>> ((Int32.ofInt (1)).toUInt32 &&& Int32.toUInt32 31)).toInt32) &&& (Int32.ofInt (1431655765)))).toUInt32 >>> ((Int32.ofInt (2)).toUInt32 &&& Int32.toUInt32 31)).toInt32) &&& (Int32.ofInt (858993459)))).toUInt32 >>> ((Int32.ofInt (4)).toUInt32 &&& Int32.toUInt32 31)).toInt32)) &&& (Int32.ofInt (252645135))).toUInt32 >>> ((Int32.ofInt (8)).toUInt32 &&& Int32.toUInt32 31)).toInt32)).toUInt32 >>> ((Int32.ofInt (16)).toUInt32 &&& Int32.toUInt32 31)).toInt32)) &&& (Int32.ofInt (63)))
theorem zJ_311 : zJ3 311 z_m311 z_c311 z_h311 := ⟨rfl, rfl, rfl⟩
noncomputable def p_311 (x : Int32) (σ : zSg) (r : Int32) (σ' : zSg) : Prop := σ' = σ ∧ r = fBc x
theorem sp_311_e (a0 : Int32) (σ : zSg)  :
    p_311 (a0) σ ((((((((a0 - (((a0.toUInt32 >>> ((Int32.ofInt (1)).toUInt32 &&& Int32.toUInt32 31)).toInt32) &&& (Int32.ofInt (1431655765)))) &&& (Int32.ofInt (858993459))) + ((((a0 - (((a0.toUInt32 >>> ((Int32.ofInt (1)).toUInt32 &&& Int32.toUInt32 31)).toInt32) &&& (Int32.ofInt (1431655765)))).toUInt32 >>> ((Int32.ofInt (2)).toUInt32 &&& Int32.toUInt32 31)).toInt32) &&& (Int32.ofInt (858993459)))) + (((((a0 - (((a0.toUInt32 >>> ((Int32.ofInt (1)).toUInt32 &&& Int32.toUInt32 31)).toInt32) &&& (Int32.ofInt (1431655765)))) &&& (Int32.ofInt (858993459))) + ((((a0 - (((a0.toUInt32 >>> ((Int32.ofInt (1)).toUInt32 &&& Int32.toUInt32 31)).toInt32) &&& (Int32.ofInt (1431655765)))).toUInt32 >>> ((Int32.ofInt (2)).toUInt32 &&& Int32.toUInt32 31)).toInt32) &&& (Int32.ofInt (858993459)))).toUInt32 >>> ((Int32.ofInt (4)).toUInt32 &&& Int32.toUInt32 31)).toInt32)) &&& (Int32.ofInt (252645135))) + (((((((a0 - (((a0.toUInt32 >>> ((Int32.ofInt (1)).toUInt32 &&& Int32.toUInt32 31)).toInt32) &&& (Int32.ofInt (1431655765)))) &&& (Int32.ofInt (858993459))) + ((((a0 - (((a0.toUInt32 >>> ((Int32.ofInt (1)).toUInt32 &&& Int32.toUInt32 31)).toInt32) &&& (Int32.ofInt (1431655765)))).toUInt32 >>> ((Int32.ofInt (2)).toUInt32 &&& Int32.toUInt32 31)).toInt32) &&& (Int32.ofInt (858993459)))) + (((((a0 - (((a0.toUInt32 >>> ((Int32.ofInt (1)).toUInt32 &&& Int32.toUInt32 31)).toInt32) &&& (Int32.ofInt (1431655765)))) &&& (Int32.ofInt (858993459))) + ((((a0 - (((a0.toUInt32 >>> ((Int32.ofInt (1)).toUInt32 &&& Int32.toUInt32 31)).toInt32) &&& (Int32.ofInt (1431655765)))).toUInt32 >>> ((Int32.ofInt (2)).toUInt32 &&& Int32.toUInt32 31)).toInt32) &&& (Int32.ofInt (858993459)))).toUInt32 >>> ((Int32.ofInt (4)).toUInt32 &&& Int32.toUInt32 31)).toInt32)) &&& (Int32.ofInt (252645135))).toUInt32 >>> ((Int32.ofInt (8)).toUInt32 &&& Int32.toUInt32 31)).toInt32)) + ((((((((a0 - (((a0.toUInt32 >>> ((Int32.ofInt (1)).toUInt32 &&& Int32.toUInt32 31)).toInt32) &&& (Int32.ofInt (1431655765)))) &&& (Int32.ofInt (858993459))) + ((((a0 - (((a0.toUInt32 >>> ((Int32.ofInt (1)).toUInt32 &&& Int32.toUInt32 31)).toInt32) &&& (Int32.ofInt (1431655765)))).toUInt32 >>> ((Int32.ofInt (2)).toUInt32 &&& Int32.toUInt32 31)).toInt32) &&& (Int32.ofInt (858993459)))) + (((((a0 - (((a0.toUInt32 >>> ((Int32.ofInt (1)).toUInt32 &&& Int32.toUInt32 31)).toInt32) &&& (Int32.ofInt (1431655765)))) &&& (Int32.ofInt (858993459))) + ((((a0 - (((a0.toUInt32 >>> ((Int32.ofInt (1)).toUInt32 &&& Int32.toUInt32 31)).toInt32) &&& (Int32.ofInt (1431655765)))).toUInt32 >>> ((Int32.ofInt (2)).toUInt32 &&& Int32.toUInt32 31)).toInt32) &&& (Int32.ofInt (858993459)))).toUInt32 >>> ((Int32.ofInt (4)).toUInt32 &&& Int32.toUInt32 31)).toInt32)) &&& (Int32.ofInt (252645135))) + (((((((a0 - (((a0.toUInt32 >>> ((Int32.ofInt (1)).toUInt32 &&& Int32.toUInt32 31)).toInt32) &&& (Int32.ofInt (1431655765)))) &&& (Int32.ofInt (858993459))) + ((((a0 - (((a0.toUInt32 >>> ((Int32.ofInt (1)).toUInt32 &&& Int32.toUInt32 31)).toInt32) &&& (Int32.ofInt (1431655765)))).toUInt32 >>> ((Int32.ofInt (2)).toUInt32 &&& Int32.toUInt32 31)).toInt32) &&& (Int32.ofInt (858993459)))) + (((((a0 - (((a0.toUInt32 >>> ((Int32.ofInt (1)).toUInt32 &&& Int32.toUInt32 31)).toInt32) &&& (Int32.ofInt (1431655765)))) &&& (Int32.ofInt (858993459))) + ((((a0 - (((a0.toUInt32 >>> ((Int32.ofInt (1)).toUInt32 &&& Int32.toUInt32 31)).toInt32) &&& (Int32.ofInt (1431655765)))).toUInt32 >>> ((Int32.ofInt (2)).toUInt32 &&& Int32.toUInt32 31)).toInt32) &&& (Int32.ofInt (858993459)))).toUInt32 >>> ((Int32.ofInt (4)).toUInt32 &&& Int32.toUInt32 31)).toInt32)) &&& (Int32.ofInt (252645135))).toUInt32 >>> ((Int32.ofInt (8)).toUInt32 &&& Int32.toUInt32 31)).toInt32)).toUInt32 >>> ((Int32.ofInt (16)).toUInt32 &&& Int32.toUInt32 31)).toInt32)) &&& (Int32.ofInt (63))) σ := by
  exact ⟨rfl, rfl⟩
noncomputable def qP_311 : zPp := fun as σ o σ' => match as with
  | [a0] => ∃ r, o = .inl (some (.int r)) ∧ p_311 (q_i a0) σ r σ'
  | _ => True
set_option maxRecDepth 100000 in
theorem sp_311 {sx : zX}  : zEe sx 311 1 qP_311 := by
  refine zfle zJ_311 (sps := []) (fun q hq => absurd hq List.not_mem_nil) (fun as σ hl => ?_)
  match as, hl with
  | [a0], _ =>
  refine ⟨[], 400, ?_, ?_⟩
  · exact fun q hq => absurd hq List.not_mem_nil
  · exact ⟨_, rfl, sp_311_e (q_i a0) σ ⟩
theorem zJ_243 : zJ3 243 z_m243 z_c243 z_h243 := ⟨rfl, rfl, rfl⟩
noncomputable def p_243 (a : Nat) (f : Int32) (σ : zSg) (r : Int32) (σ' : zSg) : Prop := σ' = σ ∧ (a = 205 → ∀ A, rW σ A → r = fBc (fB (fun h => decide (A (16 + h) = f)) 24))
theorem sp_243_e (a0 : Nat) (a1 : Int32) (σ : zSg) (τ1 : zSg) (r1 : Int32) (τ2 : zSg) (r2 : Int32) (g1 : p_242 a0 a1 σ r1 τ1) (g2 : p_311 r1 τ1 r2 τ2) :
    p_243 (a0) (a1) σ r2 τ2 := by
  obtain ⟨rfl, g1⟩ := g1
  obtain ⟨rfl, x2⟩ := g2
  exact ⟨rfl, fun h A w => by rw [x2, g1 h A w]⟩
noncomputable def qP_243 : zPp := fun as σ o σ' => match as with
  | [a0, a1] => ∃ r, o = .inl (some (.int r)) ∧ p_243 (q_r a0) (q_i a1) σ r σ'
  | _ => True
set_option maxRecDepth 100000 in
theorem sp_243 {sx : zX} (S242 : zEe sx 242 2 qP_242) (S311 : zEe sx 311 1 qP_311) : zEe sx 243 2 qP_243 := by
  refine zfle zJ_243 (sps := [(242, 2, qP_242), (311, 1, qP_311)]) (fun q hq => by
    simp only [List.mem_cons, List.not_mem_nil, or_false] at hq
    rcases hq with rfl | rfl
    · exact S242
    · exact S311) (fun as σ hl => ?_)
  match as, hl with
  | [a0, a1], _ =>
  refine ⟨[], 400, ?_, ?_⟩
  · exact fun q hq => absurd hq List.not_mem_nil
  · refine fun o1 τ1 g1 => ?_
    obtain ⟨r1, rfl, g1⟩ := g1
    refine fun o2 τ2 g2 => ?_
    obtain ⟨r2, rfl, g2⟩ := g2
    exact ⟨_, rfl, sp_243_e (q_r a0) (q_i a1) σ τ1 r1 τ2 r2 g1 g2⟩
noncomputable def fHs (A : Nat → Int32) (F : Nat) : Int32 := fB (fun h => decide (A (16 + h) = Int32.ofNat F)) 24
noncomputable def fSh (A : Nat → Int32) (F : Nat) : Int32 := fBc (fHs A F)
theorem fHo {nf nt F : Nat} {A : Nat → Int32} (I : aI nf nt A) (hF : F < nf) : fB (fun h => decide (A (16 + h) ≠ Int32.ofInt (-1)) && btb (Int32.ofInt 1 <<< (Int32.ofNat F &&& 31)) (A (16 + h))) 24 = fHs A F := fB_cg 24 (fun h hh => by
  have k6 := I.1.2.1
  rcases I.2.1 h hh with q | ⟨G, hG, q⟩
  · rw [q]
    have ne : ¬ Int32.ofInt (-1) = Int32.ofNat F := fun e => by
      have := congrArg Int32.toInt e
      rw [o32 (by omega), show (Int32.ofInt (-1)).toInt = -1 from rfl] at this
      omega
    rw [decide_eq_false ne]
    rfl
  · have ne : Int32.ofNat G ≠ Int32.ofInt (-1) := fun e => by
      have := congrArg Int32.toInt e
      rw [o32 (by omega), show (Int32.ofInt (-1)).toInt = -1 from rfl] at this
      omega
    rw [q, decide_eq_true ne, Bool.true_and, btb_1 (by omega) (by omega)]
    by_cases e : F = G
    · subst e
      rw [decide_eq_true (p := F = F) rfl, decide_eq_true (p := Int32.ofNat F = Int32.ofNat F) rfl]
    · rw [decide_eq_false e, decide_eq_false (fun e2 => e ?_)]
      have := congrArg Int32.toInt e2
      rw [o32 (by omega), o32 (by omega)] at this
      omega)
noncomputable def fWd (A : Nat → Int32) : Nat → Int32
  | 0 => Int32.ofInt 0
  | n + 1 => fWd A n ||| (if fSh A n = Int32.ofInt 1 then Int32.ofInt 1 <<< (Int32.ofNat n &&& 31) else Int32.ofInt 0)
noncomputable def fRv (A : Nat → Int32) (n : Nat) : Int32 := A (40 + 4 * n) + A 12 * fSh A n
noncomputable def fRi (A : Nat → Int32) : Nat → Int32 × Int32
  | 0 => (Int32.ofInt (-1), Int32.ofInt (-1))
  | n + 1 => if (fRi A n).2 < fRv A n then (Int32.ofNat n, fRv A n) else fRi A n
theorem fRi_y {A : Nat → Int32} {n : Nat} (h : (fRi A n).2 < fRv A n) : fRi A (n + 1) = (Int32.ofNat n, fRv A n) := if_pos h
theorem fRi_n {A : Nat → Int32} {n : Nat} (h : ¬ (fRi A n).2 < fRv A n) : fRi A (n + 1) = fRi A n := if_neg h
theorem zJ_75 : zJ3 75 z_m75 z_c75 z_h75 := ⟨rfl, rfl, rfl⟩
noncomputable def p_75 (b : Nat) (σ : zSg) (r : Int32) (σ' : zSg) : Prop := σ' = σ ∧ ∀ A nf nt, hH σ b A → aI nf nt A → r = fWd A nf
noncomputable def i_75 (b : Nat) (σ : zSg) (l0 : Nat) (l1 l2 : Int32) (τ : zSg) : Prop := l0 = b ∧ τ = σ ∧ ∀ A nf nt, hH σ b A → aI nf nt A → ∃ n, n ≤ nf ∧ l2 = Int32.ofNat n ∧ l1 = fWd A n
theorem sp_75_e (a0 : Nat) (σ : zSg)  :
    i_75 a0 σ a0 (Int32.ofInt (0)) (Int32.ofInt (0)) σ := by
  exact ⟨rfl, rfl, fun A nf nt _ _ => ⟨0, by omega, rfl, rfl⟩⟩
theorem sp_75_c4_t (a0 : Nat) (σ : zSg) (l0 : Nat) (l1 : Int32) (l2 : Int32) (τ : zSg) (hI : i_75 a0 σ l0 l1 l2 τ) (h1 : l2.toInt ≥ (q_i (τ.1 (q_r (τ.1 l0 1)) 4)).toInt) :
    p_75 (a0) σ l1 τ := by
  obtain ⟨rfl, rfl, hI⟩ := hI
  refine ⟨rfl, fun A nf nt K I => ?_⟩
  obtain ⟨n, hn, e2, e1⟩ := hI A nf nt K I
  have k6 := I.1.2.1
  have p0 : q_i (τ.1 (l0 + 2) 4) = A 0 := K.p hp_0
  rw [K.k hk_1, p0, I.1.1, e2, o32 (by omega), o32 (by omega)] at h1
  have : n = nf := by omega
  subst this
  exact e1
theorem sp_75_c4_ft (a0 : Nat) (σ : zSg) (l0 : Nat) (l1 : Int32) (l2 : Int32) (τ : zSg) (τ2 : zSg) (r2 : Int32) (τ3 : zSg) (r3 : Int32) (hI : i_75 a0 σ l0 l1 l2 τ) (h1 : l2.toInt < (q_i (τ.1 (q_r (τ.1 l0 1)) 4)).toInt) (g2 : p_28 l0 ((Int32.ofInt (1)) <<< (l2 &&& 31)) τ r2 τ2) (g3 : p_311 r2 τ2 r3 τ3) (h4 : r3.toInt ≠ (1 : Int)) :
    i_75 a0 σ l0 l1 (l2 + Int32.ofInt (1)) τ3 := by
  obtain ⟨rfl, rfl, hI⟩ := hI
  obtain ⟨ea, g1⟩ := g2
  subst ea
  obtain ⟨eb, x2⟩ := g3
  subst eb
  refine ⟨rfl, rfl, fun A nf nt K I => ?_⟩
  obtain ⟨n, hn, e2, e1⟩ := hI A nf nt K I
  have k6 := I.1.2.1
  have p0 : q_i (τ3.1 (l0 + 2) 4) = A 0 := K.p hp_0
  rw [K.k hk_1, p0, I.1.1, e2, o32 (by omega), o32 (by omega)] at h1
  have x1 := g1 A K
  rw [e2, fHo I (show n < nf by omega)] at x1
  have xs : r3 = fSh A n := by rw [x2, x1]; rfl
  refine ⟨n + 1, by omega, by rw [e2]; exact o32i (by omega), ?_⟩
  show _ = fWd A n ||| _
  rw [if_neg (fun q => h4 (by rw [xs, q]; rfl)), e1]
  exact Int32.or_zero.symm
theorem sp_75_c4_ff (a0 : Nat) (σ : zSg) (l0 : Nat) (l1 : Int32) (l2 : Int32) (τ : zSg) (τ2 : zSg) (r2 : Int32) (τ3 : zSg) (r3 : Int32) (hI : i_75 a0 σ l0 l1 l2 τ) (h1 : l2.toInt < (q_i (τ.1 (q_r (τ.1 l0 1)) 4)).toInt) (g2 : p_28 l0 ((Int32.ofInt (1)) <<< (l2 &&& 31)) τ r2 τ2) (g3 : p_311 r2 τ2 r3 τ3) (h4 : r3.toInt = (1 : Int)) :
    i_75 a0 σ l0 (l1 ||| ((Int32.ofInt (1)) <<< (l2 &&& 31))) (l2 + Int32.ofInt (1)) τ3 := by
  obtain ⟨rfl, rfl, hI⟩ := hI
  obtain ⟨ea, g1⟩ := g2
  subst ea
  obtain ⟨eb, x2⟩ := g3
  subst eb
  refine ⟨rfl, rfl, fun A nf nt K I => ?_⟩
  obtain ⟨n, hn, e2, e1⟩ := hI A nf nt K I
  have k6 := I.1.2.1
  have p0 : q_i (τ3.1 (l0 + 2) 4) = A 0 := K.p hp_0
  rw [K.k hk_1, p0, I.1.1, e2, o32 (by omega), o32 (by omega)] at h1
  have x1 := g1 A K
  rw [e2, fHo I (show n < nf by omega)] at x1
  have xs : r3 = fSh A n := by rw [x2, x1]; rfl
  refine ⟨n + 1, by omega, by rw [e2]; exact o32i (by omega), ?_⟩
  show _ = fWd A n ||| _
  rw [xs] at h4
  rw [if_pos (Int32.toInt_inj.mp (h4.trans (show (1 : Int) = (Int32.ofInt 1).toInt from rfl))), e1, e2]
noncomputable def qP_75 : zPp := fun as σ o σ' => match as with
  | [a0] => ∃ r, o = .inl (some (.int r)) ∧ p_75 (q_r a0) σ r σ'
  | _ => True
set_option maxRecDepth 100000 in
theorem sp_75 {sx : zX} (S28 : zEe sx 28 2 qP_28) (S311 : zEe sx 311 1 qP_311) : zEe sx 75 1 qP_75 := by
  refine zfle zJ_75 (sps := [(28, 2, qP_28), (311, 1, qP_311)]) (fun q hq => by
    simp only [List.mem_cons, List.not_mem_nil, or_false] at hq
    rcases hq with rfl | rfl
    · exact S28
    · exact S311) (fun as σ hl => ?_)
  match as, hl with
  | [a0], _ =>
  refine ⟨[(4, fun lo st τ => st = [] ∧ i_75 (q_r a0) σ (q_r (lo 0)) (q_i (lo 1)) (q_i (lo 2)) τ)], 400, ?_, ?_⟩
  · intro q hq
    simp only [List.mem_cons, List.not_mem_nil, or_false] at hq
    rcases hq with rfl
    · rintro lo st τ ⟨rfl, hI⟩
      refine ⟨400, ?_⟩
      refine And.intro (fun h1 => ?_) (fun h1 => ?_)
      · exact ⟨_, rfl, sp_75_c4_t (q_r a0) σ (q_r (lo 0)) (q_i (lo 1)) (q_i (lo 2)) τ hI (cm3t h1)⟩
      · refine fun o2 τ2 g2 => ?_
        obtain ⟨r2, rfl, g2⟩ := g2
        refine fun o3 τ3 g3 => ?_
        obtain ⟨r3, rfl, g3⟩ := g3
        refine And.intro (fun h4 => ?_) (fun h4 => ?_)
        · exact ⟨rfl, sp_75_c4_ft (q_r a0) σ (q_r (lo 0)) (q_i (lo 1)) (q_i (lo 2)) τ τ2 r2 τ3 r3 hI (cm3f h1) g2 g3 (cm1t h4)⟩
        · exact ⟨rfl, sp_75_c4_ff (q_r a0) σ (q_r (lo 0)) (q_i (lo 1)) (q_i (lo 2)) τ τ2 r2 τ3 r3 hI (cm3f h1) g2 g3 (cm1f h4)⟩
  · exact ⟨rfl, sp_75_e (q_r a0) σ ⟩
theorem zJ_150 : zJ3 150 z_m150 z_c150 z_h150 := ⟨rfl, rfl, rfl⟩
noncomputable def p_150 (a : Nat) (σ : zSg) (r : Int32) (σ' : zSg) : Prop := a = 0 → xSk σ → σ' = σ ∧ ∀ A nf nt, hH σ 8 A → aI nf nt A → r = fWd A nf
theorem sp_150_e (a0 : Nat) (σ : zSg) (τ1 : zSg) (r1 : Int32) (g1 : p_75 (q_r (σ.1 a0 2)) σ r1 τ1) :
    p_150 (a0) σ r1 τ1 := by
  rintro rfl K
  have d2 : q_r (σ.1 0 2) = 8 := by rw [K.2.1]; rfl
  rw [d2] at g1
  exact g1
noncomputable def qP_150 : zPp := fun as σ o σ' => match as with
  | [a0] => ∃ r, o = .inl (some (.int r)) ∧ p_150 (q_r a0) σ r σ'
  | _ => True
set_option maxRecDepth 100000 in
theorem sp_150 {sx : zX} (S75 : zEe sx 75 1 qP_75) : zEe sx 150 1 qP_150 := by
  refine zfle zJ_150 (sps := [(75, 1, qP_75)]) (fun q hq => by
    simp only [List.mem_cons, List.not_mem_nil, or_false] at hq
    rcases hq with rfl
    · exact S75) (fun as σ hl => ?_)
  match as, hl with
  | [a0], _ =>
  refine ⟨[], 400, ?_, ?_⟩
  · exact fun q hq => absurd hq List.not_mem_nil
  · refine fun o1 τ1 g1 => ?_
    obtain ⟨r1, rfl, g1⟩ := g1
    exact ⟨_, rfl, sp_150_e (q_r a0) σ τ1 r1 g1⟩
theorem zJ_280 : zJ3 280 z_m280 z_c280 z_h280 := ⟨rfl, rfl, rfl⟩
noncomputable def p_280 (a : Nat) (σ : zSg) (r : Int32) (σ' : zSg) : Prop := a = 205 → ∀ A nf nt, rW σ A → aI nf nt A → σ' = r0 σ ∧ r = fWd A nf
noncomputable def i_280 (a : Nat) (σ : zSg) (l0 : Nat) (l1 l2 : Int32) (τ : zSg) : Prop := l0 = a ∧ (a = 205 → ∀ A nf nt, rW σ A → aI nf nt A → τ = r0 σ ∧ ∃ n, n ≤ nf ∧ l2 = Int32.ofNat n ∧ l1 = fWd A n)
theorem sp_280_e (a0 : Nat) (σ : zSg)  :
    i_280 a0 σ a0 (Int32.ofInt (0)) (Int32.ofInt (0)) (q_w σ a0 0 (.int (Int32.ofInt (0)))) := by
  refine ⟨rfl, ?_⟩
  rintro rfl A nf nt w I
  exact ⟨rfl, 0, by omega, rfl, rfl⟩
theorem sp_280_c7_t (a0 : Nat) (σ : zSg) (l0 : Nat) (l1 : Int32) (l2 : Int32) (τ : zSg) (τ1 : zSg) (r1 : Int32) (hI : i_280 a0 σ l0 l1 l2 τ) (g1 : p_184 l0 τ r1 τ1) (h2 : l2.toInt ≥ r1.toInt) :
    p_280 (a0) σ l1 τ1 := by
  obtain ⟨rfl, hI⟩ := hI
  intro h A nf nt w I
  obtain ⟨e0, n, hn, e2, e1⟩ := hI h A nf nt w I
  have k6 := I.1.2.1
  have w0 : rW τ A := by rw [e0]; exact w.el (by omega)
  obtain ⟨ea, ga⟩ := g1
  subst ea
  have x1 := ga h A w0
  rw [x1, I.1.1, e2, o32 (by omega), o32 (by omega)] at h2
  have : n = nf := by omega
  subst this
  exact ⟨e0, e1⟩
theorem sp_280_c7_ft (a0 : Nat) (σ : zSg) (l0 : Nat) (l1 : Int32) (l2 : Int32) (τ : zSg) (τ1 : zSg) (r1 : Int32) (τ3 : zSg) (r3 : Int32) (hI : i_280 a0 σ l0 l1 l2 τ) (g1 : p_184 l0 τ r1 τ1) (h2 : l2.toInt < r1.toInt) (g3 : p_243 l0 l2 τ1 r3 τ3) (h4 : r3.toInt ≠ (1 : Int)) :
    i_280 a0 σ l0 (l1 ||| (Int32.ofInt (0))) (l2 + Int32.ofInt (1)) τ3 := by
  obtain ⟨rfl, hI⟩ := hI
  obtain ⟨ea, ga⟩ := g1
  subst ea
  obtain ⟨eb, gb⟩ := g3
  subst eb
  refine ⟨rfl, fun h A nf nt w I => ?_⟩
  obtain ⟨e0, n, hn, e2, e1⟩ := hI h A nf nt w I
  have k6 := I.1.2.1
  have w0 : rW τ3 A := by rw [e0]; exact w.el (by omega)
  have x1 := ga h A w0
  rw [x1, I.1.1, e2, o32 (by omega), o32 (by omega)] at h2
  have xs : r3 = fSh A n := by rw [gb h A w0, e2]; rfl
  refine ⟨e0, n + 1, by omega, by rw [e2]; exact o32i (by omega), ?_⟩
  show _ = fWd A n ||| _
  rw [if_neg (fun q => h4 (by rw [xs, q]; rfl)), e1]
theorem sp_280_c7_ff (a0 : Nat) (σ : zSg) (l0 : Nat) (l1 : Int32) (l2 : Int32) (τ : zSg) (τ1 : zSg) (r1 : Int32) (τ3 : zSg) (r3 : Int32) (hI : i_280 a0 σ l0 l1 l2 τ) (g1 : p_184 l0 τ r1 τ1) (h2 : l2.toInt < r1.toInt) (g3 : p_243 l0 l2 τ1 r3 τ3) (h4 : r3.toInt = (1 : Int)) :
    i_280 a0 σ l0 (l1 ||| ((Int32.ofInt (1)) <<< (l2 &&& 31))) (l2 + Int32.ofInt (1)) τ3 := by
  obtain ⟨rfl, hI⟩ := hI
  obtain ⟨ea, ga⟩ := g1
  subst ea
  obtain ⟨eb, gb⟩ := g3
  subst eb
  refine ⟨rfl, fun h A nf nt w I => ?_⟩
  obtain ⟨e0, n, hn, e2, e1⟩ := hI h A nf nt w I
  have k6 := I.1.2.1
  have w0 : rW τ3 A := by rw [e0]; exact w.el (by omega)
  have x1 := ga h A w0
  rw [x1, I.1.1, e2, o32 (by omega), o32 (by omega)] at h2
  have xs : r3 = fSh A n := by rw [gb h A w0, e2]; rfl
  refine ⟨e0, n + 1, by omega, by rw [e2]; exact o32i (by omega), ?_⟩
  show _ = fWd A n ||| _
  rw [xs] at h4
  rw [if_pos (Int32.toInt_inj.mp (h4.trans (show (1 : Int) = (Int32.ofInt 1).toInt from rfl))), e1, e2]
noncomputable def qP_280 : zPp := fun as σ o σ' => match as with
  | [a0] => ∃ r, o = .inl (some (.int r)) ∧ p_280 (q_r a0) σ r σ'
  | _ => True
set_option maxRecDepth 100000 in
theorem sp_280 {sx : zX} (S184 : zEe sx 184 1 qP_184) (S243 : zEe sx 243 2 qP_243) : zEe sx 280 1 qP_280 := by
  refine zfle zJ_280 (sps := [(184, 1, qP_184), (243, 2, qP_243)]) (fun q hq => by
    simp only [List.mem_cons, List.not_mem_nil, or_false] at hq
    rcases hq with rfl | rfl
    · exact S184
    · exact S243) (fun as σ hl => ?_)
  match as, hl with
  | [a0], _ =>
  refine ⟨[(7, fun lo st τ => st = [] ∧ i_280 (q_r a0) σ (q_r (lo 0)) (q_i (lo 1)) (q_i (lo 2)) τ)], 400, ?_, ?_⟩
  · intro q hq
    simp only [List.mem_cons, List.not_mem_nil, or_false] at hq
    rcases hq with rfl
    · rintro lo st τ ⟨rfl, hI⟩
      refine ⟨400, ?_⟩
      refine fun o1 τ1 g1 => ?_
      obtain ⟨r1, rfl, g1⟩ := g1
      refine And.intro (fun h2 => ?_) (fun h2 => ?_)
      · exact ⟨_, rfl, sp_280_c7_t (q_r a0) σ (q_r (lo 0)) (q_i (lo 1)) (q_i (lo 2)) τ τ1 r1 hI g1 (cm3t h2)⟩
      · refine fun o3 τ3 g3 => ?_
        obtain ⟨r3, rfl, g3⟩ := g3
        refine And.intro (fun h4 => ?_) (fun h4 => ?_)
        · exact ⟨rfl, sp_280_c7_ft (q_r a0) σ (q_r (lo 0)) (q_i (lo 1)) (q_i (lo 2)) τ τ1 r1 τ3 r3 hI g1 (cm3f h2) g3 (cm1t h4)⟩
        · exact ⟨rfl, sp_280_c7_ff (q_r a0) σ (q_r (lo 0)) (q_i (lo 1)) (q_i (lo 2)) τ τ1 r1 τ3 r3 hI g1 (cm3f h2) g3 (cm1f h4)⟩
  · exact ⟨rfl, sp_280_e (q_r a0) σ ⟩
theorem zJ_116 : zJ3 116 z_m116 z_c116 z_h116 := ⟨rfl, rfl, rfl⟩
noncomputable def p_116 (b : Nat) (σ : zSg) (r : Int32) (σ' : zSg) : Prop := σ' = σ ∧ ∀ A nf nt, hH σ b A → aI nf nt A → r = (fRi A nf).1
noncomputable def i_116 (b : Nat) (σ : zSg) (l0 : Nat) (l1 l2 l3 : Int32) (τ : zSg) : Prop := l0 = b ∧ τ = σ ∧ ∀ A nf nt, hH σ b A → aI nf nt A → ∃ n, n ≤ nf ∧ l3 = Int32.ofNat n ∧ l1 = (fRi A n).1 ∧ l2 = (fRi A n).2
theorem sp_116_e (a0 : Nat) (σ : zSg)  :
    i_116 a0 σ a0 (Int32.ofInt (-1)) (Int32.ofInt (-1)) (Int32.ofInt (0)) σ := by
  exact ⟨rfl, rfl, fun A nf nt _ _ => ⟨0, by omega, rfl, rfl, rfl⟩⟩
theorem sp_116_c6_t (a0 : Nat) (σ : zSg) (l0 : Nat) (l1 : Int32) (l2 : Int32) (l3 : Int32) (τ : zSg) (hI : i_116 a0 σ l0 l1 l2 l3 τ) (h1 : l3.toInt ≥ (q_i (τ.1 (q_r (τ.1 l0 1)) 4)).toInt) :
    p_116 (a0) σ l1 τ := by
  obtain ⟨rfl, rfl, hI⟩ := hI
  refine ⟨rfl, fun A nf nt K I => ?_⟩
  obtain ⟨n, hn, e3, e1⟩ := hI A nf nt K I
  have k6 := I.1.2.1
  have p0 : q_i (τ.1 (l0 + 2) 4) = A 0 := K.p hp_0
  rw [K.k hk_1, p0, I.1.1, e3, o32 (by omega), o32 (by omega)] at h1
  have : n = nf := by omega
  subst this
  exact e1.1
theorem sp_116_c6_ft (a0 : Nat) (σ : zSg) (l0 : Nat) (l1 : Int32) (l2 : Int32) (l3 : Int32) (τ : zSg) (τ2 : zSg) (r2 : Int32) (τ3 : zSg) (r3 : Int32) (hI : i_116 a0 σ l0 l1 l2 l3 τ) (h1 : l3.toInt < (q_i (τ.1 (q_r (τ.1 l0 1)) 4)).toInt) (g2 : p_28 l0 ((Int32.ofInt (1)) <<< (l3 &&& 31)) τ r2 τ2) (g3 : p_311 r2 τ2 r3 τ3) (h4 : 0 ≤ l3.toInt ∧ l3.toInt < (τ3.2.1 (q_r (τ3.1 (q_r (τ3.1 l0 1)) 0)) : Int)) (h5 : ((q_i (τ3.1 (q_r (τ3.1 (q_r (τ3.1 l0 1)) 0)) l3.toNatClampNeg)) + ((q_i (τ3.1 l0 15)) * r3)).toInt ≤ l2.toInt) :
    i_116 a0 σ l0 l1 l2 (l3 + Int32.ofInt (1)) τ3 := by
  obtain ⟨rfl, rfl, hI⟩ := hI
  obtain ⟨ea, g1⟩ := g2
  subst ea
  obtain ⟨eb, x2⟩ := g3
  subst eb
  refine ⟨rfl, rfl, fun A nf nt K I => ?_⟩
  obtain ⟨n, hn, e3, e1⟩ := hI A nf nt K I
  have k6 := I.1.2.1
  have p0 : q_i (τ3.1 (l0 + 2) 4) = A 0 := K.p hp_0
  rw [K.k hk_1, p0, I.1.1, e3, o32 (by omega), o32 (by omega)] at h1
  have x1 := g1 A K
  rw [e3, fHo I (show n < nf by omega)] at x1
  have xs : r3 = fSh A n := by rw [x2, x1]; rfl
  have u0 : q_i (τ3.1 (l0 + 3) n) = A (40 + 4 * n) := K.p (hp_f0 (by omega))
  have u12 : q_i (τ3.1 l0 15) = A 12 := K.p (hp_s (k := 12) (by omega) (by omega))
  have ev : q_i (τ3.1 (q_r (τ3.1 (q_r (τ3.1 l0 1)) 0)) l3.toNatClampNeg) + q_i (τ3.1 l0 15) * r3 = fRv A n := by
    rw [K.k hk_1, K.k hk_f0, e3, o32n (by omega), u0, u12, xs]
    rfl
  rw [ev, e1.2] at h5
  have nl : ¬ (fRi A n).2 < fRv A n := fun q => by rw [Int32.lt_iff_toInt_lt] at q; omega
  rw [← fRi_n nl] at e1
  exact ⟨n + 1, by omega, by rw [e3]; exact o32i (by omega), e1⟩
theorem sp_116_c6_ff (a0 : Nat) (σ : zSg) (l0 : Nat) (l1 : Int32) (l2 : Int32) (l3 : Int32) (τ : zSg) (τ2 : zSg) (r2 : Int32) (τ3 : zSg) (r3 : Int32) (hI : i_116 a0 σ l0 l1 l2 l3 τ) (h1 : l3.toInt < (q_i (τ.1 (q_r (τ.1 l0 1)) 4)).toInt) (g2 : p_28 l0 ((Int32.ofInt (1)) <<< (l3 &&& 31)) τ r2 τ2) (g3 : p_311 r2 τ2 r3 τ3) (h4 : 0 ≤ l3.toInt ∧ l3.toInt < (τ3.2.1 (q_r (τ3.1 (q_r (τ3.1 l0 1)) 0)) : Int)) (h5 : ((q_i (τ3.1 (q_r (τ3.1 (q_r (τ3.1 l0 1)) 0)) l3.toNatClampNeg)) + ((q_i (τ3.1 l0 15)) * r3)).toInt > l2.toInt) :
    i_116 a0 σ l0 l3 ((q_i (τ3.1 (q_r (τ3.1 (q_r (τ3.1 l0 1)) 0)) l3.toNatClampNeg)) + ((q_i (τ3.1 l0 15)) * r3)) (l3 + Int32.ofInt (1)) τ3 := by
  obtain ⟨rfl, rfl, hI⟩ := hI
  obtain ⟨ea, g1⟩ := g2
  subst ea
  obtain ⟨eb, x2⟩ := g3
  subst eb
  refine ⟨rfl, rfl, fun A nf nt K I => ?_⟩
  obtain ⟨n, hn, e3, e1⟩ := hI A nf nt K I
  have k6 := I.1.2.1
  have p0 : q_i (τ3.1 (l0 + 2) 4) = A 0 := K.p hp_0
  rw [K.k hk_1, p0, I.1.1, e3, o32 (by omega), o32 (by omega)] at h1
  have x1 := g1 A K
  rw [e3, fHo I (show n < nf by omega)] at x1
  have xs : r3 = fSh A n := by rw [x2, x1]; rfl
  have u0 : q_i (τ3.1 (l0 + 3) n) = A (40 + 4 * n) := K.p (hp_f0 (by omega))
  have u12 : q_i (τ3.1 l0 15) = A 12 := K.p (hp_s (k := 12) (by omega) (by omega))
  have ev : q_i (τ3.1 (q_r (τ3.1 (q_r (τ3.1 l0 1)) 0)) l3.toNatClampNeg) + q_i (τ3.1 l0 15) * r3 = fRv A n := by
    rw [K.k hk_1, K.k hk_f0, e3, o32n (by omega), u0, u12, xs]
    rfl
  rw [ev, e1.2] at h5
  have yl : (fRi A n).2 < fRv A n := Int32.lt_iff_toInt_lt.mpr (by omega)
  refine ⟨n + 1, by omega, by rw [e3]; exact o32i (by omega), ?_⟩
  rw [fRi_y yl]
  exact ⟨e3, ev⟩
noncomputable def qP_116 : zPp := fun as σ o σ' => match as with
  | [a0] => ∃ r, o = .inl (some (.int r)) ∧ p_116 (q_r a0) σ r σ'
  | _ => True
set_option maxRecDepth 100000 in
theorem sp_116 {sx : zX} (S28 : zEe sx 28 2 qP_28) (S311 : zEe sx 311 1 qP_311) : zEe sx 116 1 qP_116 := by
  refine zfle zJ_116 (sps := [(28, 2, qP_28), (311, 1, qP_311)]) (fun q hq => by
    simp only [List.mem_cons, List.not_mem_nil, or_false] at hq
    rcases hq with rfl | rfl
    · exact S28
    · exact S311) (fun as σ hl => ?_)
  match as, hl with
  | [a0], _ =>
  refine ⟨[(6, fun lo st τ => st = [] ∧ i_116 (q_r a0) σ (q_r (lo 0)) (q_i (lo 1)) (q_i (lo 2)) (q_i (lo 3)) τ)], 400, ?_, ?_⟩
  · intro q hq
    simp only [List.mem_cons, List.not_mem_nil, or_false] at hq
    rcases hq with rfl
    · rintro lo st τ ⟨rfl, hI⟩
      refine ⟨400, ?_⟩
      refine And.intro (fun h1 => ?_) (fun h1 => ?_)
      · exact ⟨_, rfl, sp_116_c6_t (q_r a0) σ (q_r (lo 0)) (q_i (lo 1)) (q_i (lo 2)) (q_i (lo 3)) τ hI (cm3t h1)⟩
      · refine fun o2 τ2 g2 => ?_
        obtain ⟨r2, rfl, g2⟩ := g2
        refine fun o3 τ3 g3 => ?_
        obtain ⟨r3, rfl, g3⟩ := g3
        refine fun h4 => ?_
        refine And.intro (fun h5 => ?_) (fun h5 => ?_)
        · exact ⟨rfl, sp_116_c6_ft (q_r a0) σ (q_r (lo 0)) (q_i (lo 1)) (q_i (lo 2)) (q_i (lo 3)) τ τ2 r2 τ3 r3 hI (cm3f h1) g2 g3 (q_inp h4) (cm5t h5)⟩
        · exact ⟨rfl, sp_116_c6_ff (q_r a0) σ (q_r (lo 0)) (q_i (lo 1)) (q_i (lo 2)) (q_i (lo 3)) τ τ2 r2 τ3 r3 hI (cm3f h1) g2 g3 (q_inp h4) (cm5f h5)⟩
  · exact ⟨rfl, sp_116_e (q_r a0) σ ⟩
theorem zJ_155 : zJ3 155 z_m155 z_c155 z_h155 := ⟨rfl, rfl, rfl⟩
noncomputable def p_155 (a : Nat) (σ : zSg) (r : Int32) (σ' : zSg) : Prop := a = 0 → xSk σ → σ' = σ ∧ ∀ A nf nt, hH σ 8 A → aI nf nt A → r = (fRi A nf).1
theorem sp_155_e (a0 : Nat) (σ : zSg) (τ1 : zSg) (r1 : Int32) (g1 : p_116 (q_r (σ.1 a0 2)) σ r1 τ1) :
    p_155 (a0) σ r1 τ1 := by
  rintro rfl K
  have d2 : q_r (σ.1 0 2) = 8 := by rw [K.2.1]; rfl
  rw [d2] at g1
  exact g1
noncomputable def qP_155 : zPp := fun as σ o σ' => match as with
  | [a0] => ∃ r, o = .inl (some (.int r)) ∧ p_155 (q_r a0) σ r σ'
  | _ => True
set_option maxRecDepth 100000 in
theorem sp_155 {sx : zX} (S116 : zEe sx 116 1 qP_116) : zEe sx 155 1 qP_155 := by
  refine zfle zJ_155 (sps := [(116, 1, qP_116)]) (fun q hq => by
    simp only [List.mem_cons, List.not_mem_nil, or_false] at hq
    rcases hq with rfl
    · exact S116) (fun as σ hl => ?_)
  match as, hl with
  | [a0], _ =>
  refine ⟨[], 400, ?_, ?_⟩
  · exact fun q hq => absurd hq List.not_mem_nil
  · refine fun o1 τ1 g1 => ?_
    obtain ⟨r1, rfl, g1⟩ := g1
    exact ⟨_, rfl, sp_155_e (q_r a0) σ τ1 r1 g1⟩
theorem zJ_301 : zJ3 301 z_m301 z_c301 z_h301 := ⟨rfl, rfl, rfl⟩
noncomputable def p_301 (a : Nat) (σ : zSg) (r : Int32) (σ' : zSg) : Prop := a = 205 → ∀ A nf nt, rW σ A → aI nf nt A → σ' = r0 σ ∧ r = (fRi A nf).1
noncomputable def i_301 (a : Nat) (σ : zSg) (l0 : Nat) (l1 l2 l3 : Int32) (τ : zSg) : Prop := l0 = a ∧ (a = 205 → ∀ A nf nt, rW σ A → aI nf nt A → τ = r0 σ ∧ ∃ n, n ≤ nf ∧ l3 = Int32.ofNat n ∧ l1 = (fRi A n).1 ∧ l2 = (fRi A n).2)
theorem sp_301_e (a0 : Nat) (σ : zSg)  :
    i_301 a0 σ a0 (Int32.ofInt (-1)) (Int32.ofInt (-1)) (Int32.ofInt (0)) (q_w σ a0 0 (.int (Int32.ofInt (0)))) := by
  refine ⟨rfl, ?_⟩
  rintro rfl A nf nt w I
  exact ⟨rfl, 0, by omega, rfl, rfl, rfl⟩
theorem sp_301_c9_t (a0 : Nat) (σ : zSg) (l0 : Nat) (l1 : Int32) (l2 : Int32) (l3 : Int32) (τ : zSg) (τ1 : zSg) (r1 : Int32) (hI : i_301 a0 σ l0 l1 l2 l3 τ) (g1 : p_184 l0 τ r1 τ1) (h2 : l3.toInt ≥ r1.toInt) :
    p_301 (a0) σ l1 τ1 := by
  obtain ⟨rfl, hI⟩ := hI
  intro h A nf nt w I
  obtain ⟨e0, n, hn, e3, e1⟩ := hI h A nf nt w I
  have k6 := I.1.2.1
  have w0 : rW τ A := by rw [e0]; exact w.el (by omega)
  obtain ⟨ea, ga⟩ := g1
  subst ea
  have x1 := ga h A w0
  rw [x1, I.1.1, e3, o32 (by omega), o32 (by omega)] at h2
  have : n = nf := by omega
  subst this
  exact ⟨e0, e1.1⟩
theorem sp_301_c9_ft (a0 : Nat) (σ : zSg) (l0 : Nat) (l1 : Int32) (l2 : Int32) (l3 : Int32) (τ : zSg) (τ1 : zSg) (r1 : Int32) (τ3 : zSg) (r3 : Int32) (τ5 : zSg) (r5 : Int32) (hI : i_301 a0 σ l0 l1 l2 l3 τ) (g1 : p_184 l0 τ r1 τ1) (h2 : l3.toInt < r1.toInt) (g3 : p_190 l0 l3 (Int32.ofInt (0)) τ1 r3 τ3) (h4 : 0 ≤ (Int32.ofInt (12)).toInt ∧ (Int32.ofInt (12)).toInt < (τ3.2.1 (q_r (τ3.1 l0 1)) : Int)) (g5 : p_243 l0 l3 τ3 r5 τ5) (h6 : (r3 + ((q_i (τ3.1 (q_r (τ3.1 l0 1)) (Int32.ofInt (12)).toNatClampNeg)) * r5)).toInt ≤ l2.toInt) :
    i_301 a0 σ l0 l1 (if l2 < (r3 + ((q_i (τ3.1 (q_r (τ3.1 l0 1)) (Int32.ofInt (12)).toNatClampNeg)) * r5)) then (r3 + ((q_i (τ3.1 (q_r (τ3.1 l0 1)) (Int32.ofInt (12)).toNatClampNeg)) * r5)) else l2) (l3 + Int32.ofInt (1)) τ5 := by
  obtain ⟨rfl, hI⟩ := hI
  obtain ⟨ea, ga⟩ := g1
  subst ea
  obtain ⟨eb, gb⟩ := g3
  subst eb
  obtain ⟨ec, gc⟩ := g5
  subst ec
  refine ⟨rfl, fun h A nf nt w I => ?_⟩
  obtain ⟨e0, n, hn, e3, e1⟩ := hI h A nf nt w I
  have k6 := I.1.2.1
  have w0 : rW τ5 A := by rw [e0]; exact w.el (by omega)
  have x1 := ga h A w0
  rw [x1, I.1.1, e3, o32 (by omega), o32 (by omega)] at h2
  have z12 : (Int32.ofInt 12).toNatClampNeg = 12 := rfl
  have xb : r3 = A (40 + 4 * n) := gb h A w0 n 0 e3 (by omega) rfl (by omega)
  have xs : r5 = fSh A n := by rw [gc h A w0, e3]; rfl
  have ev : r3 + q_i (τ5.1 (q_r (τ5.1 l0 1)) (Int32.ofInt 12).toNatClampNeg) * r5 = fRv A n := by
    subst h
    rw [w0.q, z12, w0.i (k := 12) (by omega), xb, xs]
    rfl
  simp only [ev]
  rw [ev, e1.2] at h6
  have nl : ¬ (fRi A n).2 < fRv A n := fun q => by rw [Int32.lt_iff_toInt_lt] at q; omega
  refine ⟨e0, n + 1, by omega, by rw [e3]; exact o32i (by omega), ?_⟩
  rw [fRi_n nl, e1.2, if_neg nl]
  exact ⟨e1.1, rfl⟩
theorem sp_301_c9_ff (a0 : Nat) (σ : zSg) (l0 : Nat) (l1 : Int32) (l2 : Int32) (l3 : Int32) (τ : zSg) (τ1 : zSg) (r1 : Int32) (τ3 : zSg) (r3 : Int32) (τ5 : zSg) (r5 : Int32) (hI : i_301 a0 σ l0 l1 l2 l3 τ) (g1 : p_184 l0 τ r1 τ1) (h2 : l3.toInt < r1.toInt) (g3 : p_190 l0 l3 (Int32.ofInt (0)) τ1 r3 τ3) (h4 : 0 ≤ (Int32.ofInt (12)).toInt ∧ (Int32.ofInt (12)).toInt < (τ3.2.1 (q_r (τ3.1 l0 1)) : Int)) (g5 : p_243 l0 l3 τ3 r5 τ5) (h6 : (r3 + ((q_i (τ3.1 (q_r (τ3.1 l0 1)) (Int32.ofInt (12)).toNatClampNeg)) * r5)).toInt > l2.toInt) :
    i_301 a0 σ l0 l3 (if l2 < (r3 + ((q_i (τ3.1 (q_r (τ3.1 l0 1)) (Int32.ofInt (12)).toNatClampNeg)) * r5)) then (r3 + ((q_i (τ3.1 (q_r (τ3.1 l0 1)) (Int32.ofInt (12)).toNatClampNeg)) * r5)) else l2) (l3 + Int32.ofInt (1)) τ5 := by
  obtain ⟨rfl, hI⟩ := hI
  obtain ⟨ea, ga⟩ := g1
  subst ea
  obtain ⟨eb, gb⟩ := g3
  subst eb
  obtain ⟨ec, gc⟩ := g5
  subst ec
  refine ⟨rfl, fun h A nf nt w I => ?_⟩
  obtain ⟨e0, n, hn, e3, e1⟩ := hI h A nf nt w I
  have k6 := I.1.2.1
  have w0 : rW τ5 A := by rw [e0]; exact w.el (by omega)
  have x1 := ga h A w0
  rw [x1, I.1.1, e3, o32 (by omega), o32 (by omega)] at h2
  have z12 : (Int32.ofInt 12).toNatClampNeg = 12 := rfl
  have xb : r3 = A (40 + 4 * n) := gb h A w0 n 0 e3 (by omega) rfl (by omega)
  have xs : r5 = fSh A n := by rw [gc h A w0, e3]; rfl
  have ev : r3 + q_i (τ5.1 (q_r (τ5.1 l0 1)) (Int32.ofInt 12).toNatClampNeg) * r5 = fRv A n := by
    subst h
    rw [w0.q, z12, w0.i (k := 12) (by omega), xb, xs]
    rfl
  simp only [ev]
  rw [ev, e1.2] at h6
  have yl : (fRi A n).2 < fRv A n := Int32.lt_iff_toInt_lt.mpr (by omega)
  refine ⟨e0, n + 1, by omega, by rw [e3]; exact o32i (by omega), ?_⟩
  rw [fRi_y yl, e1.2, if_pos yl]
  exact ⟨e3, rfl⟩
noncomputable def qP_301 : zPp := fun as σ o σ' => match as with
  | [a0] => ∃ r, o = .inl (some (.int r)) ∧ p_301 (q_r a0) σ r σ'
  | _ => True
set_option maxRecDepth 100000 in
theorem sp_301 {sx : zX} (S184 : zEe sx 184 1 qP_184) (S190 : zEe sx 190 3 qP_190) (S243 : zEe sx 243 2 qP_243) : zEe sx 301 1 qP_301 := by
  refine zfle zJ_301 (sps := [(184, 1, qP_184), (190, 3, qP_190), (243, 2, qP_243)]) (fun q hq => by
    simp only [List.mem_cons, List.not_mem_nil, or_false] at hq
    rcases hq with rfl | rfl | rfl
    · exact S184
    · exact S190
    · exact S243) (fun as σ hl => ?_)
  match as, hl with
  | [a0], _ =>
  refine ⟨[(9, fun lo st τ => st = [] ∧ i_301 (q_r a0) σ (q_r (lo 0)) (q_i (lo 1)) (q_i (lo 2)) (q_i (lo 3)) τ)], 400, ?_, ?_⟩
  · intro q hq
    simp only [List.mem_cons, List.not_mem_nil, or_false] at hq
    rcases hq with rfl
    · rintro lo st τ ⟨rfl, hI⟩
      refine ⟨400, ?_⟩
      refine fun o1 τ1 g1 => ?_
      obtain ⟨r1, rfl, g1⟩ := g1
      refine And.intro (fun h2 => ?_) (fun h2 => ?_)
      · exact ⟨_, rfl, sp_301_c9_t (q_r a0) σ (q_r (lo 0)) (q_i (lo 1)) (q_i (lo 2)) (q_i (lo 3)) τ τ1 r1 hI g1 (cm3t h2)⟩
      · refine fun o3 τ3 g3 => ?_
        obtain ⟨r3, rfl, g3⟩ := g3
        refine fun h4 => ?_
        refine fun o5 τ5 g5 => ?_
        obtain ⟨r5, rfl, g5⟩ := g5
        refine And.intro (fun h6 => ?_) (fun h6 => ?_)
        · exact ⟨rfl, sp_301_c9_ft (q_r a0) σ (q_r (lo 0)) (q_i (lo 1)) (q_i (lo 2)) (q_i (lo 3)) τ τ1 r1 τ3 r3 τ5 r5 hI g1 (cm3f h2) g3 (q_inp h4) g5 (cm5t h6)⟩
        · exact ⟨rfl, sp_301_c9_ff (q_r a0) σ (q_r (lo 0)) (q_i (lo 1)) (q_i (lo 2)) (q_i (lo 3)) τ τ1 r1 τ3 r3 τ5 r5 hI g1 (cm3f h2) g3 (q_inp h4) g5 (cm5f h6)⟩
  · exact ⟨rfl, sp_301_e (q_r a0) σ ⟩
end
section
/-! readers of both sides, exact: log, led; printed with wip/gen/gen_du.py -/
theorem rW.at {σ : zSg} {A : Nat → Int32} (H : rW σ A) {k : Nat} (h : k < 388) : q_i (σ.1 (q_r (σ.1 205 1)) k) = A k := by rw [H.q, H.i h]
theorem z14 : (Int32.ofInt 14).toNatClampNeg = 14 := by decide
theorem i_ex {a : Int32} {n : Nat} (h : 0 ≤ a.toInt ∧ a.toInt < (n : Int)) (hn : n ≤ 1000) : ∃ i, i < n ∧ a = Int32.ofNat i := ⟨a.toInt.toNat, by omega, Int32.toInt_inj.mp (by rw [o32 (by omega)]; omega)⟩
theorem fl60 : (List.range 60).all (fun n => (List.range 60).all (fun i => decide ((if 0 ≤ ((Int32.ofNat n - Int32.ofInt 1 - Int32.ofNat i) ^^^ Int32.ofInt 60).toInt then (Int32.ofNat n - Int32.ofInt 1 - Int32.ofNat i) - (Int32.ofNat n - Int32.ofInt 1 - Int32.ofNat i) / Int32.ofInt 60 * Int32.ofInt 60 else if ((Int32.ofNat n - Int32.ofInt 1 - Int32.ofNat i) - (Int32.ofNat n - Int32.ofInt 1 - Int32.ofNat i) / Int32.ofInt 60 * Int32.ofInt 60).toInt = 0 then (Int32.ofNat n - Int32.ofInt 1 - Int32.ofNat i) - (Int32.ofNat n - Int32.ofInt 1 - Int32.ofNat i) / Int32.ofInt 60 * Int32.ofInt 60 else (Int32.ofNat n - Int32.ofInt 1 - Int32.ofNat i) - (Int32.ofNat n - Int32.ofInt 1 - Int32.ofNat i) / Int32.ofInt 60 * Int32.ofInt 60 + Int32.ofInt 60) = Int32.ofNat ((n + 59 - i) % 60)))) = true := by decide +kernel
theorem fl60_at {n i : Nat} (hn : n < 60) (hi : i < 60) {x : Int32} (e : x = Int32.ofNat n - Int32.ofInt 1 - Int32.ofNat i) : (if 0 ≤ (x ^^^ Int32.ofInt 60).toInt then x - x / Int32.ofInt 60 * Int32.ofInt 60 else if (x - x / Int32.ofInt 60 * Int32.ofInt 60).toInt = 0 then x - x / Int32.ofInt 60 * Int32.ofInt 60 else x - x / Int32.ofInt 60 * Int32.ofInt 60 + Int32.ofInt 60) = Int32.ofNat ((n + 59 - i) % 60) := by
  have := of_decide_eq_true (List.all_eq_true.mp (List.all_eq_true.mp fl60 n (List.mem_range.mpr hn)) i (List.mem_range.mpr hi))
  rw [e]
  exact this
theorem fl5 : (List.range 60).all (fun p => (List.range 5).all (fun w => decide ((Int32.ofNat p * Int32.ofInt 5 + Int32.ofNat w).toNatClampNeg = 5 * p + w) && decide ((Int32.ofInt 88 + Int32.ofInt 5 * Int32.ofNat p + Int32.ofNat w).toNatClampNeg = 88 + 5 * p + w))) = true := by decide +kernel
theorem fl5_at {p w : Nat} (hp : p < 60) (hw : w < 5) : (Int32.ofNat p * Int32.ofInt 5 + Int32.ofNat w).toNatClampNeg = 5 * p + w ∧ (Int32.ofInt 88 + Int32.ofInt 5 * Int32.ofNat p + Int32.ofNat w).toNatClampNeg = 88 + 5 * p + w := by
  have := List.all_eq_true.mp (List.all_eq_true.mp fl5 p (List.mem_range.mpr hp)) w (List.mem_range.mpr hw)
  rw [Bool.and_eq_true, decide_eq_true_eq, decide_eq_true_eq] at this
  exact this
/-- a row of the log so many ago -/
noncomputable def fL (A : Nat → Int32) (s : Nat) (g w v : Int32) : Prop := (∀ i k, g = Int32.ofNat i → i < s → w = Int32.ofNat k → k < 5 → v = A (88 + 5 * i + k)) ∧ (¬ (0 ≤ g.toInt ∧ g.toInt < (s : Int)) → v = Int32.ofInt (-1))
theorem fL.eq {A : Nat → Int32} {s : Nat} {g w v v' : Int32} (h : fL A s g w v) (h' : fL A s g w v') (hs : s ≤ 60) (hw : 0 ≤ w.toInt ∧ w.toInt < 5) : v = v' := by
  by_cases hg : 0 ≤ g.toInt ∧ g.toInt < (s : Int)
  · obtain ⟨i, hi, e1⟩ := i_ex hg (by omega)
    obtain ⟨k, hk, e2⟩ := i_ex (n := 5) hw (by omega)
    rw [h.1 i k e1 hi e2 hk, h'.1 i k e1 hi e2 hk]
  · rw [h.2 hg, h'.2 hg]
noncomputable def p_312l (x y : Int32) (σ : zSg) (r : Int32) (σ' : zSg) : Prop := σ' = σ ∧ (y = Int32.ofInt 60 → ∀ n i, n < 60 → i < 60 → x = Int32.ofNat n - Int32.ofInt 1 - Int32.ofNat i → r = Int32.ofNat ((n + 59 - i) % 60))
theorem sp_312l_et (a0 : Int32) (a1 : Int32) (σ : zSg) (h1 : (a0 ^^^ a1).toInt ≥ (0 : Int)) :
    p_312l (a0) (a1) σ (a0 - a0 / a1 * a1) σ := by
  refine ⟨rfl, ?_⟩
  rintro rfl n i hn hi e
  have g := fl60_at hn hi e
  rw [if_pos h1] at g
  exact g
theorem sp_312l_eft (a0 : Int32) (a1 : Int32) (σ : zSg) (h1 : (a0 ^^^ a1).toInt < (0 : Int)) (h2 : (a0 - a0 / a1 * a1).toInt = (0 : Int)) :
    p_312l (a0) (a1) σ (a0 - a0 / a1 * a1) σ := by
  refine ⟨rfl, ?_⟩
  rintro rfl n i hn hi e
  have g := fl60_at hn hi e
  rw [if_neg (by omega), if_pos h2] at g
  exact g
theorem sp_312l_eff (a0 : Int32) (a1 : Int32) (σ : zSg) (h1 : (a0 ^^^ a1).toInt < (0 : Int)) (h2 : (a0 - a0 / a1 * a1).toInt ≠ (0 : Int)) :
    p_312l (a0) (a1) σ ((a0 - a0 / a1 * a1) + a1) σ := by
  refine ⟨rfl, ?_⟩
  rintro rfl n i hn hi e
  have g := fl60_at hn hi e
  rw [if_neg (by omega), if_neg h2] at g
  exact g
noncomputable def qP_312l : zPp := fun as σ o σ' => match as with
  | [a0, a1] => ∃ r, o = .inl (some (.int r)) ∧ p_312l (q_i a0) (q_i a1) σ r σ'
  | _ => True
set_option maxRecDepth 100000 in
theorem sp_312l {sx : zX}  : zEe sx 312 2 qP_312l := by
  refine zfle zJ_312 (sps := []) (fun q hq => absurd hq List.not_mem_nil) (fun as σ hl => ?_)
  match as, hl with
  | [a0, a1], _ =>
  refine ⟨[], 400, ?_, ?_⟩
  · exact fun q hq => absurd hq List.not_mem_nil
  · refine And.intro (fun h1 => ?_) (fun h1 => ?_)
    · exact ⟨_, rfl, sp_312l_et (q_i a0) (q_i a1) σ (cm3t h1)⟩
    · refine And.intro (fun h2 => ?_) (fun h2 => ?_)
      · exact ⟨_, rfl, sp_312l_eft (q_i a0) (q_i a1) σ (cm3f h1) (cm0t h2)⟩
      · exact ⟨_, rfl, sp_312l_eff (q_i a0) (q_i a1) σ (cm3f h1) (cm0f h2)⟩
theorem zJ_58 : zJ3 58 z_m58 z_c58 z_h58 := ⟨rfl, rfl, rfl⟩
noncomputable def p_58 (a : Nat) (g w : Int32) (σ : zSg) (r : Int32) (σ' : zSg) : Prop := σ' = σ ∧ ∀ b H s, a = b + 10 → hH σ b H → H 14 = Int32.ofNat s → s ≤ 60 → 0 ≤ w.toInt → w.toInt < 5 → fL H s g w r
theorem sp_58_et (a0 : Nat) (a1 : Int32) (a2 : Int32) (σ : zSg) (h1 : a1.toInt < (0 : Int)) :
    p_58 (a0) (a1) (a2) σ (Int32.ofInt (-1)) σ := by
  refine ⟨rfl, ?_⟩
  rintro b H s rfl K e1 hs
  exact fun _ _ => ⟨fun i k e _ _ _ => by rw [e, o32 (by omega)] at h1; omega, fun _ => rfl⟩
theorem sp_58_eft (a0 : Nat) (a1 : Int32) (a2 : Int32) (σ : zSg) (h1 : a1.toInt ≥ (0 : Int)) (h2 : a1.toInt ≥ (q_i (σ.1 a0 2)).toInt) :
    p_58 (a0) (a1) (a2) σ (Int32.ofInt (-1)) σ := by
  refine ⟨rfl, ?_⟩
  rintro b H s rfl K e1 hs
  rw [K.p hp_14, e1, o32 (by omega)] at h2
  exact fun _ _ => ⟨fun i k e _ _ _ => by rw [e, o32 (by omega)] at h2; omega, fun _ => rfl⟩
theorem sp_58_efft (a0 : Nat) (a1 : Int32) (a2 : Int32) (σ : zSg) (h1 : a1.toInt ≥ (0 : Int)) (h2 : a1.toInt < (q_i (σ.1 a0 2)).toInt) (h3 : a2.toInt < (0 : Int)) :
    p_58 (a0) (a1) (a2) σ (Int32.ofInt (-1)) σ := by
  refine ⟨rfl, ?_⟩
  rintro b H s rfl K e1 hs
  exact fun q _ => absurd q (by omega)
theorem sp_58_effft (a0 : Nat) (a1 : Int32) (a2 : Int32) (σ : zSg) (τ5 : zSg) (r5 : Int32) (h1 : a1.toInt ≥ (0 : Int)) (h2 : a1.toInt < (q_i (σ.1 a0 2)).toInt) (h3 : a2.toInt ≥ (0 : Int)) (h4 : a2.toInt < (5 : Int)) (g5 : p_312l (((q_i (σ.1 a0 1)) - (Int32.ofInt (1))) - a1) (Int32.ofInt (60)) σ r5 τ5) (h6 : 0 ≤ ((r5 * (Int32.ofInt (5))) + a2).toInt ∧ ((r5 * (Int32.ofInt (5))) + a2).toInt < (τ5.2.1 (q_r (σ.1 a0 0)) : Int)) :
    p_58 (a0) (a1) (a2) σ (q_i (τ5.1 (q_r (σ.1 a0 0)) ((r5 * (Int32.ofInt (5))) + a2).toNatClampNeg)) τ5 := by
  obtain ⟨rfl, g1⟩ := g5
  refine ⟨rfl, ?_⟩
  rintro b H s rfl K e1 hs
  rw [K.p hp_14, e1, o32 (by omega)] at h2
  intro _ _
  refine ⟨fun i k ei hi ek hk => ?_, fun q => absurd ⟨h1, h2⟩ q⟩
  obtain ⟨nx, hn, en, hr⟩ := K.2.2.2.1
  have e9 : q_i (τ5.1 (b + 10) 1) = Int32.ofNat nx := by rw [en]; rfl
  rw [e9] at g1
  have x1 := g1 rfl nx i hn (by omega) (by rw [ei])
  have hm : (nx + 59 - i) % 60 < 60 := Nat.mod_lt _ (by omega)
  rw [x1, ek, K.k hk_l, (fl5_at hm hk).1, hr i k (by omega) hk]
  rfl
theorem sp_58_effff (a0 : Nat) (a1 : Int32) (a2 : Int32) (σ : zSg) (h1 : a1.toInt ≥ (0 : Int)) (h2 : a1.toInt < (q_i (σ.1 a0 2)).toInt) (h3 : a2.toInt ≥ (0 : Int)) (h4 : a2.toInt ≥ (5 : Int)) :
    p_58 (a0) (a1) (a2) σ (Int32.ofInt (-1)) σ := by
  refine ⟨rfl, ?_⟩
  rintro b H s rfl K e1 hs
  exact fun _ q => absurd q (by omega)
noncomputable def qP_58 : zPp := fun as σ o σ' => match as with
  | [a0, a1, a2] => ∃ r, o = .inl (some (.int r)) ∧ p_58 (q_r a0) (q_i a1) (q_i a2) σ r σ'
  | _ => True
set_option maxRecDepth 100000 in
theorem sp_58 {sx : zX} (S312 : zEe sx 312 2 qP_312l) : zEe sx 58 3 qP_58 := by
  refine zfle zJ_58 (sps := [(312, 2, qP_312l)]) (fun q hq => by
    simp only [List.mem_cons, List.not_mem_nil, or_false] at hq
    rcases hq with rfl
    · exact S312) (fun as σ hl => ?_)
  match as, hl with
  | [a0, a1, a2], _ =>
  refine ⟨[], 400, ?_, ?_⟩
  · exact fun q hq => absurd hq List.not_mem_nil
  · refine And.intro (fun h1 => ?_) (fun h1 => ?_)
    · exact ⟨_, rfl, sp_58_et (q_r a0) (q_i a1) (q_i a2) σ (cm2t h1)⟩
    · refine And.intro (fun h2 => ?_) (fun h2 => ?_)
      · exact ⟨_, rfl, sp_58_eft (q_r a0) (q_i a1) (q_i a2) σ (cm2f h1) (cm3t h2)⟩
      · refine And.intro (fun h3 => ?_) (fun h3 => ?_)
        · exact ⟨_, rfl, sp_58_efft (q_r a0) (q_i a1) (q_i a2) σ (cm2f h1) (cm3f h2) (cm2t h3)⟩
        · refine And.intro (fun h4 => ?_) (fun h4 => ?_)
          · refine fun o5 τ5 g5 => ?_
            obtain ⟨r5, rfl, g5⟩ := g5
            refine fun h6 => ?_
            exact ⟨_, rfl, sp_58_effft (q_r a0) (q_i a1) (q_i a2) σ τ5 r5 (cm2f h1) (cm3f h2) (cm2f h3) (cm2t h4) g5 (q_inp h6)⟩
          · exact ⟨_, rfl, sp_58_effff (q_r a0) (q_i a1) (q_i a2) σ (cm2f h1) (cm3f h2) (cm2f h3) (cm2f h4)⟩
theorem zJ_160 : zJ3 160 z_m160 z_c160 z_h160 := ⟨rfl, rfl, rfl⟩
noncomputable def p_160 (a : Nat) (g w : Int32) (σ : zSg) (e : Int32 ⊕ Nat) (σ' : zSg) : Prop := a = 0 → ∀ A s, xSk σ → hH σ 8 A → A 14 = Int32.ofNat s → s ≤ 60 → (¬ (0 ≤ w.toInt ∧ w.toInt < 5) → e = .inr 3 ∧ σ' = σ) ∧ ((0 ≤ w.toInt ∧ w.toInt < 5) → σ' = σ ∧ ∃ v, e = .inl v ∧ fL A s g w v)
theorem sp_160_en (a0 : Nat) (a1 : Int32) (a2 : Int32) (σ : zSg) (τ1 : zSg) (τ2 : zSg) (r2 : Int32) (g1 : p_169 a0 a2 (Int32.ofInt (4)) σ (.inl 0) τ1) (g2 : p_58 (q_r (τ1.1 (q_r (τ1.1 a0 2)) 3)) a1 a2 τ1 r2 τ2) :
    p_160 (a0) (a1) (a2) σ (.inl r2) τ2 := by
  rintro rfl A s X K es hs
  obtain ⟨e1, u1, -⟩ := g1
  subst e1
  have u1 := u1 rfl
  have z4 : (Int32.ofInt 4).toInt = 4 := rfl
  rw [z4] at u1
  have d2 : q_r (τ1.1 0 2) = 8 := by rw [X.2.1]; rfl
  obtain ⟨e2, g2⟩ := g2
  rw [d2, K.k hk_3] at g2
  exact ⟨fun q => absurd ⟨u1.1, by omega⟩ q, fun q => ⟨e2, _, rfl, g2 8 A s rfl K es hs q.1 q.2⟩⟩
theorem sp_160_ex3_ (a0 : Nat) (a1 : Int32) (a2 : Int32) (σ : zSg) (τ1 : zSg) (g1 : p_169 a0 a2 (Int32.ofInt (4)) σ (.inr 3) τ1) :
    p_160 (a0) (a1) (a2) σ (.inr 3) τ1 := by
  rintro rfl A s X K es hs
  obtain ⟨e1, -, u1⟩ := g1
  have u1 := u1 rfl
  have z4 : (Int32.ofInt 4).toInt = 4 := rfl
  rw [z4] at u1
  exact ⟨fun _ => ⟨rfl, e1⟩, fun q => absurd ⟨q.1, by omega⟩ u1⟩
noncomputable def qP_160 : zPp := fun as σ o σ' => match as with
  | [a0, a1, a2] => (∃ r, o = .inl (some (.int r)) ∧ p_160 (q_r a0) (q_i a1) (q_i a2) σ (.inl r) σ') ∨ (o = .inr 3 ∧ p_160 (q_r a0) (q_i a1) (q_i a2) σ (.inr 3) σ')
  | _ => True
set_option maxRecDepth 100000 in
theorem sp_160 {sx : zX} (S169 : zEe sx 169 3 qP_169) (S58 : zEe sx 58 3 qP_58) : zEe sx 160 3 qP_160 := by
  refine zfle zJ_160 (sps := [(169, 3, qP_169), (58, 3, qP_58)]) (fun q hq => by
    simp only [List.mem_cons, List.not_mem_nil, or_false] at hq
    rcases hq with rfl | rfl
    · exact S169
    · exact S58) (fun as σ hl => ?_)
  match as, hl with
  | [a0, a1, a2], _ =>
  refine ⟨[], 400, ?_, ?_⟩
  · exact fun q hq => absurd hq List.not_mem_nil
  · refine fun o1 τ1 g1 => ?_
    rcases g1 with ⟨rfl, g1⟩ | ⟨rfl, g1⟩
    · refine fun o2 τ2 g2 => ?_
      obtain ⟨r2, rfl, g2⟩ := g2
      exact Or.inl ⟨_, rfl, sp_160_en (q_r a0) (q_i a1) (q_i a2) σ τ1 τ2 r2 g1 g2⟩
    · exact Or.inr (⟨rfl, sp_160_ex3_ (q_r a0) (q_i a1) (q_i a2) σ τ1 g1⟩)
theorem zJ_306 : zJ3 306 z_m306 z_c306 z_h306 := ⟨rfl, rfl, rfl⟩
noncomputable def p_306 (a : Nat) (g w : Int32) (σ : zSg) (r : Int32) (σ' : zSg) : Prop := σ' = σ ∧ (a = 205 → ∀ A, rW σ A → ∀ i k, g = Int32.ofNat i → i < 60 → w = Int32.ofNat k → k < 5 → r = A (88 + 5 * i + k))
theorem sp_306_e (a0 : Nat) (a1 : Int32) (a2 : Int32) (σ : zSg) (h1 : 0 ≤ (((Int32.ofInt (88)) + ((Int32.ofInt (5)) * a1)) + a2).toInt ∧ (((Int32.ofInt (88)) + ((Int32.ofInt (5)) * a1)) + a2).toInt < (σ.2.1 (q_r (σ.1 a0 1)) : Int)) :
    p_306 (a0) (a1) (a2) σ (q_i (σ.1 (q_r (σ.1 a0 1)) (((Int32.ofInt (88)) + ((Int32.ofInt (5)) * a1)) + a2).toNatClampNeg)) σ := by
  refine ⟨rfl, ?_⟩
  rintro rfl A w i k rfl hi rfl hk
  rw [(fl5_at hi hk).2]
  exact w.at (by omega)
noncomputable def qP_306 : zPp := fun as σ o σ' => match as with
  | [a0, a1, a2] => ∃ r, o = .inl (some (.int r)) ∧ p_306 (q_r a0) (q_i a1) (q_i a2) σ r σ'
  | _ => True
set_option maxRecDepth 100000 in
theorem sp_306 {sx : zX}  : zEe sx 306 3 qP_306 := by
  refine zfle zJ_306 (sps := []) (fun q hq => absurd hq List.not_mem_nil) (fun as σ hl => ?_)
  match as, hl with
  | [a0, a1, a2], _ =>
  refine ⟨[], 400, ?_, ?_⟩
  · exact fun q hq => absurd hq List.not_mem_nil
  · refine fun h1 => ?_
    exact ⟨_, rfl, sp_306_e (q_r a0) (q_i a1) (q_i a2) σ (q_inp h1)⟩
theorem zJ_308 : zJ3 308 z_m308 z_c308 z_h308 := ⟨rfl, rfl, rfl⟩
noncomputable def p_308 (a : Nat) (g w : Int32) (σ : zSg) (r : Int32) (σ' : zSg) : Prop := a = 205 → ∀ A s, rW σ A → A 14 = Int32.ofNat s → s ≤ 60 → (¬ (0 ≤ w.toInt ∧ w.toInt < 5) → r = Int32.ofInt 0 ∧ σ' = rTh σ 1) ∧ ((0 ≤ w.toInt ∧ w.toInt < 5) → σ' = r0 σ ∧ fL A s g w r)
theorem sp_308_ett (a0 : Nat) (a1 : Int32) (a2 : Int32) (σ : zSg) (τ1 : zSg) (r1 : Int32) (τ6 : zSg) (r6 : Int32) (g1 : p_177 a2 (Int32.ofInt (0)) (Int32.ofInt (4)) (q_w σ a0 0 (.int (Int32.ofInt (0)))) r1 τ1) (h2 : r1.toInt ≠ (0 : Int)) (h5 : 0 ≤ (Int32.ofInt (14)).toInt ∧ (Int32.ofInt (14)).toInt < (τ1.2.1 (q_r (τ1.1 a0 1)) : Int)) (g6 : p_177 a1 (Int32.ofInt (0)) ((q_i (τ1.1 (q_r (τ1.1 a0 1)) (Int32.ofInt (14)).toNatClampNeg)) - (Int32.ofInt (1))) τ1 r6 τ6) (h7 : r6.toInt = (0 : Int)) :
    p_308 (a0) (a1) (a2) σ (Int32.ofInt (-1)) τ6 := by
  rintro rfl A s w es hs
  have w0 : rW (r0 σ) A := w.el (by omega)
  have z0 : (Int32.ofInt 0).toInt = 0 := rfl
  have z4 : (Int32.ofInt 4).toInt = 4 := rfl
  obtain ⟨e1, u1⟩ := g1
  have e1 : τ1 = r0 σ := e1
  subst e1
  rw [z0, z4] at u1
  have v1 := u1.mp h2
  obtain ⟨e2, u2⟩ := g6
  subst e2
  have e9 : q_i ((r0 σ).1 (q_r ((r0 σ).1 205 1)) (Int32.ofInt 14).toNatClampNeg) = Int32.ofNat s := by rw [z14, w0.at (by omega), es]
  have e8 : (Int32.ofNat s - Int32.ofInt 1).toInt = (s : Int) - 1 := by
    match s, hs with
    | 0, _ => decide
    | s + 1, hs => rw [o32s (by omega), o32 (by omega)]; omega
  rw [e9, e8, z0] at u2
  refine ⟨fun q => absurd ⟨v1.1, by omega⟩ q, fun q => ?_⟩
  exact ⟨rfl, fun i k e hi _ _ => absurd h7 (u2.mpr (by rw [e, o32 (by omega)]; omega)), fun _ => rfl⟩
theorem sp_308_etf (a0 : Nat) (a1 : Int32) (a2 : Int32) (σ : zSg) (τ1 : zSg) (r1 : Int32) (τ6 : zSg) (r6 : Int32) (τ8 : zSg) (r8 : Int32) (g1 : p_177 a2 (Int32.ofInt (0)) (Int32.ofInt (4)) (q_w σ a0 0 (.int (Int32.ofInt (0)))) r1 τ1) (h2 : r1.toInt ≠ (0 : Int)) (h5 : 0 ≤ (Int32.ofInt (14)).toInt ∧ (Int32.ofInt (14)).toInt < (τ1.2.1 (q_r (τ1.1 a0 1)) : Int)) (g6 : p_177 a1 (Int32.ofInt (0)) ((q_i (τ1.1 (q_r (τ1.1 a0 1)) (Int32.ofInt (14)).toNatClampNeg)) - (Int32.ofInt (1))) τ1 r6 τ6) (h7 : r6.toInt ≠ (0 : Int)) (g8 : p_306 a0 a1 a2 τ6 r8 τ8) :
    p_308 (a0) (a1) (a2) σ r8 τ8 := by
  rintro rfl A s w es hs
  have w0 : rW (r0 σ) A := w.el (by omega)
  have z0 : (Int32.ofInt 0).toInt = 0 := rfl
  have z4 : (Int32.ofInt 4).toInt = 4 := rfl
  obtain ⟨e1, u1⟩ := g1
  have e1 : τ1 = r0 σ := e1
  subst e1
  rw [z0, z4] at u1
  have v1 := u1.mp h2
  obtain ⟨e2, u2⟩ := g6
  subst e2
  have e9 : q_i ((r0 σ).1 (q_r ((r0 σ).1 205 1)) (Int32.ofInt 14).toNatClampNeg) = Int32.ofNat s := by rw [z14, w0.at (by omega), es]
  have e8 : (Int32.ofNat s - Int32.ofInt 1).toInt = (s : Int) - 1 := by
    match s, hs with
    | 0, _ => decide
    | s + 1, hs => rw [o32s (by omega), o32 (by omega)]; omega
  rw [e9, e8, z0] at u2
  refine ⟨fun q => absurd ⟨v1.1, by omega⟩ q, fun q => ?_⟩
  have v2 := u2.mp h7
  obtain ⟨e3, g3⟩ := g8
  exact ⟨e3, fun i k e hi ek hk => g3 rfl A w0 i k e (by omega) ek hk, fun q => absurd ⟨v2.1, by omega⟩ q⟩
theorem sp_308_ef (a0 : Nat) (a1 : Int32) (a2 : Int32) (σ : zSg) (τ1 : zSg) (r1 : Int32) (g1 : p_177 a2 (Int32.ofInt (0)) (Int32.ofInt (4)) (q_w σ a0 0 (.int (Int32.ofInt (0)))) r1 τ1) (h2 : r1.toInt = (0 : Int)) :
    p_308 (a0) (a1) (a2) σ (Int32.ofInt (0)) (q_w τ1 a0 0 (.int (Int32.ofInt (1)))) := by
  rintro rfl A s w es hs
  have w0 : rW (r0 σ) A := w.el (by omega)
  have z0 : (Int32.ofInt 0).toInt = 0 := rfl
  have z4 : (Int32.ofInt 4).toInt = 4 := rfl
  obtain ⟨e1, u1⟩ := g1
  have e1 : τ1 = r0 σ := e1
  subst e1
  rw [z0, z4] at u1
  exact ⟨fun _ => ⟨rfl, r0_T⟩, fun q => absurd h2 (u1.mpr ⟨q.1, by omega⟩)⟩
noncomputable def qP_308 : zPp := fun as σ o σ' => match as with
  | [a0, a1, a2] => ∃ r, o = .inl (some (.int r)) ∧ p_308 (q_r a0) (q_i a1) (q_i a2) σ r σ'
  | _ => True
set_option maxRecDepth 100000 in
theorem sp_308 {sx : zX} (S177 : zEe sx 177 3 qP_177) (S176 : zEe sx 176 3 qP_176) (S306 : zEe sx 306 3 qP_306) : zEe sx 308 3 qP_308 := by
  refine zfle zJ_308 (sps := [(177, 3, qP_177), (176, 3, qP_176), (306, 3, qP_306)]) (fun q hq => by
    simp only [List.mem_cons, List.not_mem_nil, or_false] at hq
    rcases hq with rfl | rfl | rfl
    · exact S177
    · exact S176
    · exact S306) (fun as σ hl => ?_)
  match as, hl with
  | [a0, a1, a2], _ =>
  refine ⟨[], 400, ?_, ?_⟩
  · exact fun q hq => absurd hq List.not_mem_nil
  · refine fun o1 τ1 g1 => ?_
    obtain ⟨r1, rfl, g1⟩ := g1
    refine And.intro (fun h2 => ?_) (fun h2 => ?_)
    · refine fun o3 τ3 g3 => ?_
      obtain ⟨r3, rfl, rfl, y3, z3⟩ := g3
      have e3 := (z3 rfl).symm
      subst e3
      refine And.intro (fun _ => ?_) (fun h4 => absurd (show z_cmp 0 (Int32.ofInt (0)) 0 = false from h4) (by decide))
      refine fun h5 => ?_
      refine fun o6 τ6 g6 => ?_
      obtain ⟨r6, rfl, g6⟩ := g6
      refine And.intro (fun h7 => ?_) (fun h7 => ?_)
      · exact ⟨_, rfl, sp_308_ett (q_r a0) (q_i a1) (q_i a2) σ τ1 r1 τ6 r6 g1 (cm1t h2) (q_inp h5) g6 (cm0t h7)⟩
      · refine fun o8 τ8 g8 => ?_
        obtain ⟨r8, rfl, g8⟩ := g8
        exact ⟨_, rfl, sp_308_etf (q_r a0) (q_i a1) (q_i a2) σ τ1 r1 τ6 r6 τ8 r8 g1 (cm1t h2) (q_inp h5) g6 (cm0f h7) g8⟩
    · refine fun o9 τ9 g9 => ?_
      obtain ⟨r9, rfl, rfl, y9, z9⟩ := g9
      have e9 := (y9 (by decide)).symm
      subst e9
      refine And.intro (fun h10 => absurd (show z_cmp 0 (Int32.ofInt (1)) 0 = true from h10) (by decide)) (fun _ => ?_)
      exact ⟨_, rfl, sp_308_ef (q_r a0) (q_i a1) (q_i a2) σ τ1 r1 g1 (cm1f h2)⟩
noncomputable def fLn (A : Nat → Int32) (f : Int32) : Nat → Int32
  | 0 => Int32.ofInt 0
  | n + 1 => fLn A f n + (if A (88 + 5 * n + 2) = f then Int32.ofInt 1 else Int32.ofInt 0)
/-- the day of the latest row from the m-th to ahead of the n-th -/
noncomputable def fLd (A : Nat → Int32) (f : Int32) (m n : Nat) (r : Int32) : Prop := (∃ i, m ≤ i ∧ i < n ∧ A (88 + 5 * i + 2) = f ∧ (∀ j, m ≤ j → j < i → A (88 + 5 * j + 2) ≠ f) ∧ r = A (88 + 5 * i + 0)) ∨ ((∀ j, m ≤ j → j < n → A (88 + 5 * j + 2) ≠ f) ∧ r = Int32.ofInt (-1))
theorem fLd.eq {A : Nat → Int32} {f r r' : Int32} {m n : Nat} (h : fLd A f m n r) (h' : fLd A f m n r') : r = r' := by
  rcases h with ⟨i, a1, a2, a3, a4, rfl⟩ | ⟨a1, rfl⟩ <;> rcases h' with ⟨j, b1, b2, b3, b4, rfl⟩ | ⟨b1, rfl⟩
  · have : i = j := by
      rcases Nat.lt_trichotomy i j with q | q | q
      · exact absurd a3 (b4 i a1 q)
      · exact q
      · exact absurd b3 (a4 j b1 q)
    rw [this]
  · exact absurd a3 (b1 i a1 a2)
  · exact absurd b3 (a1 j b1 b2)
  · rfl
theorem zJ_59 : zJ3 59 z_m59 z_c59 z_h59 := ⟨rfl, rfl, rfl⟩
noncomputable def p_59 (a : Nat) (f : Int32) (σ : zSg) (r : Int32) (σ' : zSg) : Prop := σ' = σ ∧ ∀ b H s, a = b + 10 → hH σ b H → H 14 = Int32.ofNat s → s ≤ 60 → r = fLn H f s
noncomputable def i_59 (a : Nat) (f : Int32) (σ : zSg) (l0 : Nat) (l1 l2 l3 : Int32) (τ : zSg) : Prop := l0 = a ∧ l1 = f ∧ τ = σ ∧ ∀ b H s, a = b + 10 → hH σ b H → H 14 = Int32.ofNat s → s ≤ 60 → ∃ n, n ≤ s ∧ l3 = Int32.ofNat n ∧ l2 = fLn H f n
theorem sp_59_e (a0 : Nat) (a1 : Int32) (σ : zSg)  :
    i_59 a0 a1 σ a0 a1 (Int32.ofInt (0)) (Int32.ofInt (0)) σ := by
  exact ⟨rfl, rfl, rfl, fun b H s _ _ _ _ => ⟨0, by omega, rfl, rfl⟩⟩
theorem sp_59_c4_t (a0 : Nat) (a1 : Int32) (σ : zSg) (l0 : Nat) (l1 : Int32) (l2 : Int32) (l3 : Int32) (τ : zSg) (hI : i_59 a0 a1 σ l0 l1 l2 l3 τ) (h1 : l3.toInt ≥ (q_i (τ.1 l0 2)).toInt) :
    p_59 (a0) (a1) σ l2 τ := by
  obtain ⟨rfl, rfl, rfl, hI⟩ := hI
  refine ⟨rfl, ?_⟩
  rintro b H s rfl K es hs
  obtain ⟨n, hn, e3, e2⟩ := hI b H s rfl K es hs
  subst e3
  rw [K.p hp_14, es, o32 (by omega), o32 (by omega)] at h1
  have : n = s := by omega
  subst this
  exact e2
theorem sp_59_c4_ft (a0 : Nat) (a1 : Int32) (σ : zSg) (l0 : Nat) (l1 : Int32) (l2 : Int32) (l3 : Int32) (τ : zSg) (τ2 : zSg) (r2 : Int32) (hI : i_59 a0 a1 σ l0 l1 l2 l3 τ) (h1 : l3.toInt < (q_i (τ.1 l0 2)).toInt) (g2 : p_58 l0 l3 (Int32.ofInt (2)) τ r2 τ2) (h3 : r2.toInt ≠ l1.toInt) :
    i_59 a0 a1 σ l0 l1 l2 (l3 + Int32.ofInt (1)) τ2 := by
  obtain ⟨rfl, rfl, rfl, hI⟩ := hI
  obtain ⟨rfl, g1⟩ := g2
  refine ⟨rfl, rfl, rfl, ?_⟩
  rintro b H s rfl K es hs
  obtain ⟨n, hn, e3, e2⟩ := hI b H s rfl K es hs
  subst e3
  rw [K.p hp_14, es, o32 (by omega), o32 (by omega)] at h1
  have x1 := (g1 b H s rfl K es hs (by decide) (by decide)).1 n 2 rfl (by omega) rfl (by omega)
  rw [x1] at h3
  refine ⟨n + 1, by omega, o32i (by omega), ?_⟩
  show _ = fLn H l1 n + _
  rw [if_neg (fun q => h3 (congrArg Int32.toInt q)), e2]
  exact (Int32.add_zero _).symm
theorem sp_59_c4_ff (a0 : Nat) (a1 : Int32) (σ : zSg) (l0 : Nat) (l1 : Int32) (l2 : Int32) (l3 : Int32) (τ : zSg) (τ2 : zSg) (r2 : Int32) (hI : i_59 a0 a1 σ l0 l1 l2 l3 τ) (h1 : l3.toInt < (q_i (τ.1 l0 2)).toInt) (g2 : p_58 l0 l3 (Int32.ofInt (2)) τ r2 τ2) (h3 : r2.toInt = l1.toInt) :
    i_59 a0 a1 σ l0 l1 (l2 + Int32.ofInt (1)) (l3 + Int32.ofInt (1)) τ2 := by
  obtain ⟨rfl, rfl, rfl, hI⟩ := hI
  obtain ⟨rfl, g1⟩ := g2
  refine ⟨rfl, rfl, rfl, ?_⟩
  rintro b H s rfl K es hs
  obtain ⟨n, hn, e3, e2⟩ := hI b H s rfl K es hs
  subst e3
  rw [K.p hp_14, es, o32 (by omega), o32 (by omega)] at h1
  have x1 := (g1 b H s rfl K es hs (by decide) (by decide)).1 n 2 rfl (by omega) rfl (by omega)
  rw [x1] at h3
  refine ⟨n + 1, by omega, o32i (by omega), ?_⟩
  show _ = fLn H l1 n + _
  rw [if_pos (Int32.toInt_inj.mp h3), e2]
noncomputable def qP_59 : zPp := fun as σ o σ' => match as with
  | [a0, a1] => ∃ r, o = .inl (some (.int r)) ∧ p_59 (q_r a0) (q_i a1) σ r σ'
  | _ => True
set_option maxRecDepth 100000 in
theorem sp_59 {sx : zX} (S58 : zEe sx 58 3 qP_58) : zEe sx 59 2 qP_59 := by
  refine zfle zJ_59 (sps := [(58, 3, qP_58)]) (fun q hq => by
    simp only [List.mem_cons, List.not_mem_nil, or_false] at hq
    rcases hq with rfl
    · exact S58) (fun as σ hl => ?_)
  match as, hl with
  | [a0, a1], _ =>
  refine ⟨[(4, fun lo st τ => st = [] ∧ i_59 (q_r a0) (q_i a1) σ (q_r (lo 0)) (q_i (lo 1)) (q_i (lo 2)) (q_i (lo 3)) τ)], 400, ?_, ?_⟩
  · intro q hq
    simp only [List.mem_cons, List.not_mem_nil, or_false] at hq
    rcases hq with rfl
    · rintro lo st τ ⟨rfl, hI⟩
      refine ⟨400, ?_⟩
      refine And.intro (fun h1 => ?_) (fun h1 => ?_)
      · exact ⟨_, rfl, sp_59_c4_t (q_r a0) (q_i a1) σ (q_r (lo 0)) (q_i (lo 1)) (q_i (lo 2)) (q_i (lo 3)) τ hI (cm3t h1)⟩
      · refine fun o2 τ2 g2 => ?_
        obtain ⟨r2, rfl, g2⟩ := g2
        refine And.intro (fun h3 => ?_) (fun h3 => ?_)
        · exact ⟨rfl, sp_59_c4_ft (q_r a0) (q_i a1) σ (q_r (lo 0)) (q_i (lo 1)) (q_i (lo 2)) (q_i (lo 3)) τ τ2 r2 hI (cm3f h1) g2 (cm1t h3)⟩
        · exact ⟨rfl, sp_59_c4_ff (q_r a0) (q_i a1) σ (q_r (lo 0)) (q_i (lo 1)) (q_i (lo 2)) (q_i (lo 3)) τ τ2 r2 hI (cm3f h1) g2 (cm1f h3)⟩
  · exact ⟨rfl, sp_59_e (q_r a0) (q_i a1) σ ⟩
theorem zJ_60 : zJ3 60 z_m60 z_c60 z_h60 := ⟨rfl, rfl, rfl⟩
noncomputable def p_60 (a : Nat) (f : Int32) (σ : zSg) (r : Int32) (σ' : zSg) : Prop := σ' = σ ∧ ∀ b H s, a = b + 10 → hH σ b H → H 14 = Int32.ofNat s → s ≤ 60 → fLd H f 0 s r
noncomputable def i_60 (a : Nat) (f : Int32) (σ : zSg) (l0 : Nat) (l1 l2 : Int32) (τ : zSg) : Prop := l0 = a ∧ l1 = f ∧ τ = σ ∧ ∀ b H s, a = b + 10 → hH σ b H → H 14 = Int32.ofNat s → s ≤ 60 → ∃ n, n ≤ s ∧ l2 = Int32.ofNat n ∧ ∀ j, j < n → H (88 + 5 * j + 2) ≠ f
theorem sp_60_e (a0 : Nat) (a1 : Int32) (σ : zSg)  :
    i_60 a0 a1 σ a0 a1 (Int32.ofInt (0)) σ := by
  exact ⟨rfl, rfl, rfl, fun b H s _ _ _ _ => ⟨0, by omega, rfl, fun j hj => absurd hj (Nat.not_lt_zero j)⟩⟩
theorem sp_60_c2_t (a0 : Nat) (a1 : Int32) (σ : zSg) (l0 : Nat) (l1 : Int32) (l2 : Int32) (τ : zSg) (hI : i_60 a0 a1 σ l0 l1 l2 τ) (h1 : l2.toInt ≥ (q_i (τ.1 l0 2)).toInt) :
    p_60 (a0) (a1) σ (Int32.ofInt (-1)) τ := by
  obtain ⟨rfl, rfl, rfl, hI⟩ := hI
  refine ⟨rfl, ?_⟩
  rintro b H s rfl K es hs
  obtain ⟨n, hn, e2, e3⟩ := hI b H s rfl K es hs
  subst e2
  rw [K.p hp_14, es, o32 (by omega), o32 (by omega)] at h1
  exact Or.inr ⟨fun j _ hj => e3 j (by omega), rfl⟩
theorem sp_60_c2_ft (a0 : Nat) (a1 : Int32) (σ : zSg) (l0 : Nat) (l1 : Int32) (l2 : Int32) (τ : zSg) (τ2 : zSg) (r2 : Int32) (hI : i_60 a0 a1 σ l0 l1 l2 τ) (h1 : l2.toInt < (q_i (τ.1 l0 2)).toInt) (g2 : p_58 l0 l2 (Int32.ofInt (2)) τ r2 τ2) (h3 : r2.toInt ≠ l1.toInt) :
    i_60 a0 a1 σ l0 l1 (l2 + Int32.ofInt (1)) τ2 := by
  obtain ⟨rfl, rfl, rfl, hI⟩ := hI
  obtain ⟨rfl, g1⟩ := g2
  refine ⟨rfl, rfl, rfl, ?_⟩
  rintro b H s rfl K es hs
  obtain ⟨n, hn, e2, e3⟩ := hI b H s rfl K es hs
  subst e2
  rw [K.p hp_14, es, o32 (by omega), o32 (by omega)] at h1
  have x1 := (g1 b H s rfl K es hs (by decide) (by decide)).1 n 2 rfl (by omega) rfl (by omega)
  rw [x1] at h3
  refine ⟨n + 1, by omega, o32i (by omega), fun j hj => ?_⟩
  by_cases q : j = n
  · rw [q]; exact fun q2 => h3 (congrArg Int32.toInt q2)
  · exact e3 j (by omega)
theorem sp_60_c2_ff (a0 : Nat) (a1 : Int32) (σ : zSg) (l0 : Nat) (l1 : Int32) (l2 : Int32) (τ : zSg) (τ2 : zSg) (r2 : Int32) (τ4 : zSg) (r4 : Int32) (hI : i_60 a0 a1 σ l0 l1 l2 τ) (h1 : l2.toInt < (q_i (τ.1 l0 2)).toInt) (g2 : p_58 l0 l2 (Int32.ofInt (2)) τ r2 τ2) (h3 : r2.toInt = l1.toInt) (g4 : p_58 l0 l2 (Int32.ofInt (0)) τ2 r4 τ4) :
    p_60 (a0) (a1) σ r4 τ4 := by
  obtain ⟨rfl, rfl, rfl, hI⟩ := hI
  obtain ⟨rfl, g1⟩ := g2
  obtain ⟨rfl, g2⟩ := g4
  refine ⟨rfl, ?_⟩
  rintro b H s rfl K es hs
  obtain ⟨n, hn, e2, e3⟩ := hI b H s rfl K es hs
  subst e2
  rw [K.p hp_14, es, o32 (by omega), o32 (by omega)] at h1
  have x1 := (g1 b H s rfl K es hs (by decide) (by decide)).1 n 2 rfl (by omega) rfl (by omega)
  rw [x1] at h3
  have x2 := (g2 b H s rfl K es hs (by decide) (by decide)).1 n 0 rfl (by omega) rfl (by omega)
  exact Or.inl ⟨n, by omega, by omega, Int32.toInt_inj.mp h3, fun j _ hj => e3 j hj, x2⟩
noncomputable def qP_60 : zPp := fun as σ o σ' => match as with
  | [a0, a1] => ∃ r, o = .inl (some (.int r)) ∧ p_60 (q_r a0) (q_i a1) σ r σ'
  | _ => True
set_option maxRecDepth 100000 in
theorem sp_60 {sx : zX} (S58 : zEe sx 58 3 qP_58) : zEe sx 60 2 qP_60 := by
  refine zfle zJ_60 (sps := [(58, 3, qP_58)]) (fun q hq => by
    simp only [List.mem_cons, List.not_mem_nil, or_false] at hq
    rcases hq with rfl
    · exact S58) (fun as σ hl => ?_)
  match as, hl with
  | [a0, a1], _ =>
  refine ⟨[(2, fun lo st τ => st = [] ∧ i_60 (q_r a0) (q_i a1) σ (q_r (lo 0)) (q_i (lo 1)) (q_i (lo 2)) τ)], 400, ?_, ?_⟩
  · intro q hq
    simp only [List.mem_cons, List.not_mem_nil, or_false] at hq
    rcases hq with rfl
    · rintro lo st τ ⟨rfl, hI⟩
      refine ⟨400, ?_⟩
      refine And.intro (fun h1 => ?_) (fun h1 => ?_)
      · exact ⟨_, rfl, sp_60_c2_t (q_r a0) (q_i a1) σ (q_r (lo 0)) (q_i (lo 1)) (q_i (lo 2)) τ hI (cm3t h1)⟩
      · refine fun o2 τ2 g2 => ?_
        obtain ⟨r2, rfl, g2⟩ := g2
        refine And.intro (fun h3 => ?_) (fun h3 => ?_)
        · exact ⟨rfl, sp_60_c2_ft (q_r a0) (q_i a1) σ (q_r (lo 0)) (q_i (lo 1)) (q_i (lo 2)) τ τ2 r2 hI (cm3f h1) g2 (cm1t h3)⟩
        · refine fun o4 τ4 g4 => ?_
          obtain ⟨r4, rfl, g4⟩ := g4
          exact ⟨_, rfl, sp_60_c2_ff (q_r a0) (q_i a1) σ (q_r (lo 0)) (q_i (lo 1)) (q_i (lo 2)) τ τ2 r2 τ4 r4 hI (cm3f h1) g2 (cm1f h3) g4⟩
  · exact ⟨rfl, sp_60_e (q_r a0) (q_i a1) σ ⟩
theorem zJ_159 : zJ3 159 z_m159 z_c159 z_h159 := ⟨rfl, rfl, rfl⟩
noncomputable def p_159 (a : Nat) (f d : Int32) (σ : zSg) (e : Int32 ⊕ Nat) (σ' : zSg) : Prop := a = 0 → ∀ A nf s, xSk σ → hH σ 8 A → A 0 = Int32.ofNat nf → nf ≤ 6 → A 14 = Int32.ofNat s → s ≤ 60 → (¬ (0 ≤ f.toInt ∧ f.toInt < (nf : Int)) → e = .inr 2 ∧ σ' = σ) ∧ ((0 ≤ f.toInt ∧ f.toInt < (nf : Int)) → σ' = σ ∧ (d.toInt = 0 → e = .inl (fLn A f s)) ∧ (d.toInt ≠ 0 → ∃ v, e = .inl v ∧ fLd A f 0 s v))
theorem sp_159_ent (a0 : Nat) (a1 : Int32) (a2 : Int32) (σ : zSg) (τ1 : zSg) (τ3 : zSg) (r3 : Int32) (g1 : p_167 a0 a1 σ (.inl 0) τ1) (h2 : a2.toInt = (0 : Int)) (g3 : p_59 (q_r (τ1.1 (q_r (τ1.1 a0 2)) 3)) a1 τ1 r3 τ3) :
    p_159 (a0) (a1) (a2) σ (.inl r3) τ3 := by
  rintro rfl A nf s X K ef hf es hs
  obtain ⟨e1, u1⟩ := g1
  subst e1
  have u1 := (u1 rfl X A nf K ef hf).1 rfl
  have d2 : q_r (τ1.1 0 2) = 8 := by rw [X.2.1]; rfl
  obtain ⟨e2, g2⟩ := g3
  rw [d2, K.k hk_3] at g2
  exact ⟨fun q => absurd u1 q, fun _ => ⟨e2, fun _ => congrArg Sum.inl (g2 8 A s rfl K es hs), fun q => absurd h2 q⟩⟩
theorem sp_159_enf (a0 : Nat) (a1 : Int32) (a2 : Int32) (σ : zSg) (τ1 : zSg) (τ4 : zSg) (r4 : Int32) (g1 : p_167 a0 a1 σ (.inl 0) τ1) (h2 : a2.toInt ≠ (0 : Int)) (g4 : p_60 (q_r (τ1.1 (q_r (τ1.1 a0 2)) 3)) a1 τ1 r4 τ4) :
    p_159 (a0) (a1) (a2) σ (.inl r4) τ4 := by
  rintro rfl A nf s X K ef hf es hs
  obtain ⟨e1, u1⟩ := g1
  subst e1
  have u1 := (u1 rfl X A nf K ef hf).1 rfl
  have d2 : q_r (τ1.1 0 2) = 8 := by rw [X.2.1]; rfl
  obtain ⟨e2, g2⟩ := g4
  rw [d2, K.k hk_3] at g2
  exact ⟨fun q => absurd u1 q, fun _ => ⟨e2, fun q => absurd q h2, fun _ => ⟨_, rfl, g2 8 A s rfl K es hs⟩⟩⟩
theorem sp_159_ex2_ (a0 : Nat) (a1 : Int32) (a2 : Int32) (σ : zSg) (τ1 : zSg) (g1 : p_167 a0 a1 σ (.inr 2) τ1) :
    p_159 (a0) (a1) (a2) σ (.inr 2) τ1 := by
  rintro rfl A nf s X K ef hf es hs
  obtain ⟨e1, u1⟩ := g1
  have u1 := (u1 rfl X A nf K ef hf).2 rfl
  exact ⟨fun _ => ⟨rfl, e1⟩, fun q => absurd q u1⟩
noncomputable def qP_159 : zPp := fun as σ o σ' => match as with
  | [a0, a1, a2] => (∃ r, o = .inl (some (.int r)) ∧ p_159 (q_r a0) (q_i a1) (q_i a2) σ (.inl r) σ') ∨ (o = .inr 2 ∧ p_159 (q_r a0) (q_i a1) (q_i a2) σ (.inr 2) σ')
  | _ => True
set_option maxRecDepth 100000 in
theorem sp_159 {sx : zX} (S167 : zEe sx 167 2 qP_167) (S59 : zEe sx 59 2 qP_59) (S60 : zEe sx 60 2 qP_60) : zEe sx 159 3 qP_159 := by
  refine zfle zJ_159 (sps := [(167, 2, qP_167), (59, 2, qP_59), (60, 2, qP_60)]) (fun q hq => by
    simp only [List.mem_cons, List.not_mem_nil, or_false] at hq
    rcases hq with rfl | rfl | rfl
    · exact S167
    · exact S59
    · exact S60) (fun as σ hl => ?_)
  match as, hl with
  | [a0, a1, a2], _ =>
  refine ⟨[], 400, ?_, ?_⟩
  · exact fun q hq => absurd hq List.not_mem_nil
  · refine fun o1 τ1 g1 => ?_
    rcases g1 with ⟨rfl, g1⟩ | ⟨rfl, g1⟩
    · refine And.intro (fun h2 => ?_) (fun h2 => ?_)
      · refine fun o3 τ3 g3 => ?_
        obtain ⟨r3, rfl, g3⟩ := g3
        exact Or.inl ⟨_, rfl, sp_159_ent (q_r a0) (q_i a1) (q_i a2) σ τ1 τ3 r3 g1 (cm0t h2) g3⟩
      · refine fun o4 τ4 g4 => ?_
        obtain ⟨r4, rfl, g4⟩ := g4
        exact Or.inl ⟨_, rfl, sp_159_enf (q_r a0) (q_i a1) (q_i a2) σ τ1 τ4 r4 g1 (cm0f h2) g4⟩
    · exact Or.inr (⟨rfl, sp_159_ex2_ (q_r a0) (q_i a1) (q_i a2) σ τ1 g1⟩)
theorem du_s1 (x : Int32) : x + Int32.ofInt (-1) = x - Int32.ofInt 1 := by rw [Int32.sub_eq_add_neg, show -(Int32.ofInt 1) = Int32.ofInt (-1) by decide]
theorem zJ_307 : zJ3 307 z_m307 z_c307 z_h307 := ⟨rfl, rfl, rfl⟩
noncomputable def p_307 (a : Nat) (f d : Int32) (σ : zSg) (r : Int32) (σ' : zSg) : Prop := a = 205 → ∀ A nf s, rW σ A → A 0 = Int32.ofNat nf → nf ≤ 6 → A 14 = Int32.ofNat s → s ≤ 60 → (¬ (0 ≤ f.toInt ∧ f.toInt < (nf : Int)) → r = Int32.ofInt 0 ∧ σ' = rTh σ 1) ∧ ((0 ≤ f.toInt ∧ f.toInt < (nf : Int)) → σ' = r0 σ ∧ (d.toInt = 0 → r = fLn A f s) ∧ (d.toInt ≠ 0 → fLd A f 0 s r))
noncomputable def i_307 (a : Nat) (f d : Int32) (σ : zSg) (l0 : Nat) (l1 l2 l3 l4 l5 : Int32) (τ : zSg) : Prop := l0 = a ∧ l1 = f ∧ l2 = d ∧ (a = 205 → ∀ A nf s, rW σ A → A 0 = Int32.ofNat nf → nf ≤ 6 → A 14 = Int32.ofNat s → s ≤ 60 → (0 ≤ f.toInt ∧ f.toInt < (nf : Int)) ∧ τ = r0 σ ∧ ∃ n, n ≤ s ∧ l5 = Int32.ofNat n - Int32.ofInt 1 ∧ l3 + fLn A f n = fLn A f s ∧ fLd A f n s l4)
theorem sp_307_et (a0 : Nat) (a1 : Int32) (a2 : Int32) (σ : zSg) (τ1 : zSg) (r1 : Int32) (τ2 : zSg) (r2 : Int32) (g1 : p_195 a0 a1 (q_w σ a0 0 (.int (Int32.ofInt (0)))) r1 τ1) (g2 : p_176 a0 r1 (Int32.ofInt (1)) τ1 r2 τ2) (h3 : r2.toInt = (0 : Int)) (h4 : 0 ≤ (Int32.ofInt (14)).toInt ∧ (Int32.ofInt (14)).toInt < (τ2.2.1 (q_r (τ2.1 a0 1)) : Int)) :
    i_307 a0 a1 a2 σ a0 a1 a2 (Int32.ofInt (0)) (Int32.ofInt (-1)) ((q_i (τ2.1 (q_r (τ2.1 a0 1)) (Int32.ofInt (14)).toNatClampNeg)) - (Int32.ofInt (1))) τ2 := by
  refine ⟨rfl, rfl, rfl, ?_⟩
  rintro rfl A nf s w ef hf es hs
  have w0 : rW (r0 σ) A := w.el (by omega)
  obtain ⟨e1, u1⟩ := g1
  have e1 : τ1 = r0 σ := e1
  subst e1
  have u1 := u1 rfl A w0 nf ef hf
  obtain ⟨x2, y2, n2⟩ := g2
  rw [x2] at h3
  have e2 := n2 h3
  subst e2
  have v1 : 0 ≤ a1.toInt ∧ a1.toInt < (nf : Int) := Decidable.byContradiction (fun q => (u1.mpr q) h3)
  refine ⟨v1, rfl, s, by omega, ?_, ?_, Or.inr ⟨fun j q1 q2 => absurd q2 (by omega), rfl⟩⟩
  · rw [z14, w0.at (by omega), es]
  · exact Int32.zero_add _
theorem sp_307_ef (a0 : Nat) (a1 : Int32) (a2 : Int32) (σ : zSg) (τ1 : zSg) (r1 : Int32) (τ2 : zSg) (r2 : Int32) (g1 : p_195 a0 a1 (q_w σ a0 0 (.int (Int32.ofInt (0)))) r1 τ1) (g2 : p_176 a0 r1 (Int32.ofInt (1)) τ1 r2 τ2) (h3 : r2.toInt ≠ (0 : Int)) :
    p_307 (a0) (a1) (a2) σ (Int32.ofInt (0)) τ2 := by
  rintro rfl A nf s w ef hf es hs
  have w0 : rW (r0 σ) A := w.el (by omega)
  obtain ⟨e1, u1⟩ := g1
  have e1 : τ1 = r0 σ := e1
  subst e1
  have u1 := u1 rfl A w0 nf ef hf
  obtain ⟨x2, y2, n2⟩ := g2
  rw [x2] at h3
  have e2 := y2 h3
  subst e2
  exact ⟨fun _ => ⟨rfl, r0_T⟩, fun q => absurd q (u1.mp h3)⟩
theorem sp_307_c23_tt (a0 : Nat) (a1 : Int32) (a2 : Int32) (σ : zSg) (l0 : Nat) (l1 : Int32) (l2 : Int32) (l3 : Int32) (l4 : Int32) (l5 : Int32) (τ : zSg) (hI : i_307 a0 a1 a2 σ l0 l1 l2 l3 l4 l5 τ) (h5 : l5.toInt < (0 : Int)) (h6 : l2.toInt = (0 : Int)) :
    p_307 (a0) (a1) (a2) σ l3 τ := by
  obtain ⟨rfl, rfl, rfl, hI⟩ := hI
  rintro rfl A nf s w ef hf es hs
  obtain ⟨v1, e0, n, hn, e5, e3, e4⟩ := hI rfl A nf s w ef hf es hs
  have : n = 0 := by
    match n, e5 with
    | 0, _ => rfl
    | n + 1, e5 => rw [e5, o32s (by omega), o32 (by omega)] at h5; omega
  subst this
  have e3 : l3 + Int32.ofInt 0 = fLn A l1 s := e3
  have e3 : l3 = fLn A l1 s := (Int32.add_zero _).symm.trans e3
  exact ⟨fun q => absurd v1 q, fun _ => ⟨e0, fun _ => e3, fun q => absurd h6 q⟩⟩
theorem sp_307_c23_tf (a0 : Nat) (a1 : Int32) (a2 : Int32) (σ : zSg) (l0 : Nat) (l1 : Int32) (l2 : Int32) (l3 : Int32) (l4 : Int32) (l5 : Int32) (τ : zSg) (hI : i_307 a0 a1 a2 σ l0 l1 l2 l3 l4 l5 τ) (h5 : l5.toInt < (0 : Int)) (h6 : l2.toInt ≠ (0 : Int)) :
    p_307 (a0) (a1) (a2) σ l4 τ := by
  obtain ⟨rfl, rfl, rfl, hI⟩ := hI
  rintro rfl A nf s w ef hf es hs
  obtain ⟨v1, e0, n, hn, e5, e3, e4⟩ := hI rfl A nf s w ef hf es hs
  have : n = 0 := by
    match n, e5 with
    | 0, _ => rfl
    | n + 1, e5 => rw [e5, o32s (by omega), o32 (by omega)] at h5; omega
  subst this
  have e3 : l3 + Int32.ofInt 0 = fLn A l1 s := e3
  have e3 : l3 = fLn A l1 s := (Int32.add_zero _).symm.trans e3
  exact ⟨fun q => absurd v1 q, fun _ => ⟨e0, fun q => absurd q h6, fun _ => e4⟩⟩
theorem sp_307_c23_ft (a0 : Nat) (a1 : Int32) (a2 : Int32) (σ : zSg) (l0 : Nat) (l1 : Int32) (l2 : Int32) (l3 : Int32) (l4 : Int32) (l5 : Int32) (τ : zSg) (τ7 : zSg) (r7 : Int32) (τ9 : zSg) (r9 : Int32) (hI : i_307 a0 a1 a2 σ l0 l1 l2 l3 l4 l5 τ) (h5 : l5.toInt ≥ (0 : Int)) (g7 : p_306 l0 l5 (Int32.ofInt (2)) τ r7 τ7) (h8 : r7.toInt = l1.toInt) (g9 : p_306 l0 l5 (Int32.ofInt (0)) τ7 r9 τ9) :
    i_307 a0 a1 a2 σ l0 l1 l2 (l3 + Int32.ofInt (1)) r9 (l5 + Int32.ofInt (-1)) τ9 := by
  obtain ⟨rfl, rfl, rfl, hI⟩ := hI
  refine ⟨rfl, rfl, rfl, ?_⟩
  rintro rfl A nf s w ef hf es hs
  obtain ⟨v1, e0, n, hn, e5, e3, e4⟩ := hI rfl A nf s w ef hf es hs
  have : ∃ q, n = q + 1 := by
    match n, e5 with
    | 0, e5 => rw [e5] at h5; exact absurd h5 (by decide)
    | q + 1, _ => exact ⟨q, rfl⟩
  obtain ⟨n, rfl⟩ := this
  rw [o32s (by omega)] at e5
  subst e5
  have w0 : rW τ A := by rw [e0]; exact w.el (by omega)
  obtain ⟨ea, g1⟩ := g7
  subst ea
  have x1 := g1 rfl A w0 n 2 rfl (by omega) rfl (by omega)
  rw [x1] at h8
  obtain ⟨eb, g2⟩ := g9
  subst eb
  have x2 := g2 rfl A w0 n 0 rfl (by omega) rfl (by omega)
  have m1 := Int32.toInt_inj.mp h8
  refine ⟨v1, e0, n, by omega, du_s1 _, ?_, Or.inl ⟨n, by omega, by omega, m1, fun j j1 j2 => absurd j2 (by omega), x2⟩⟩
  have e3 : l3 + (fLn A l1 n + (if A (88 + 5 * n + 2) = l1 then Int32.ofInt 1 else Int32.ofInt 0)) = fLn A l1 s := e3
  rw [if_pos m1] at e3
  rw [← e3, Int32.add_assoc, Int32.add_comm (Int32.ofInt 1)]
theorem sp_307_c23_ff (a0 : Nat) (a1 : Int32) (a2 : Int32) (σ : zSg) (l0 : Nat) (l1 : Int32) (l2 : Int32) (l3 : Int32) (l4 : Int32) (l5 : Int32) (τ : zSg) (τ7 : zSg) (r7 : Int32) (hI : i_307 a0 a1 a2 σ l0 l1 l2 l3 l4 l5 τ) (h5 : l5.toInt ≥ (0 : Int)) (g7 : p_306 l0 l5 (Int32.ofInt (2)) τ r7 τ7) (h8 : r7.toInt ≠ l1.toInt) :
    i_307 a0 a1 a2 σ l0 l1 l2 l3 l4 (l5 + Int32.ofInt (-1)) τ7 := by
  obtain ⟨rfl, rfl, rfl, hI⟩ := hI
  refine ⟨rfl, rfl, rfl, ?_⟩
  rintro rfl A nf s w ef hf es hs
  obtain ⟨v1, e0, n, hn, e5, e3, e4⟩ := hI rfl A nf s w ef hf es hs
  have : ∃ q, n = q + 1 := by
    match n, e5 with
    | 0, e5 => rw [e5] at h5; exact absurd h5 (by decide)
    | q + 1, _ => exact ⟨q, rfl⟩
  obtain ⟨n, rfl⟩ := this
  rw [o32s (by omega)] at e5
  subst e5
  have w0 : rW τ A := by rw [e0]; exact w.el (by omega)
  obtain ⟨ea, g1⟩ := g7
  subst ea
  have x1 := g1 rfl A w0 n 2 rfl (by omega) rfl (by omega)
  rw [x1] at h8
  refine ⟨v1, e0, n, by omega, du_s1 _, ?_, ?_⟩
  · have e3 : l3 + (fLn A l1 n + (if A (88 + 5 * n + 2) = l1 then Int32.ofInt 1 else Int32.ofInt 0)) = fLn A l1 s := e3
    rw [if_neg (fun q => h8 (congrArg Int32.toInt q))] at e3
    rw [← e3]
    exact congrArg (fun x => l3 + x) (Int32.add_zero _).symm
  · rcases e4 with ⟨i, q1, q2, q3, q4, q5⟩ | ⟨q1, q2⟩
    · exact Or.inl ⟨i, by omega, q2, q3, fun j j1 j2 => by
        by_cases q : j = n
        · rw [q]; exact fun q9 => h8 (congrArg Int32.toInt q9)
        · exact q4 j (by omega) j2, q5⟩
    · exact Or.inr ⟨fun j j1 j2 => by
        by_cases q : j = n
        · rw [q]; exact fun q9 => h8 (congrArg Int32.toInt q9)
        · exact q1 j (by omega) j2, q2⟩
noncomputable def qP_307 : zPp := fun as σ o σ' => match as with
  | [a0, a1, a2] => ∃ r, o = .inl (some (.int r)) ∧ p_307 (q_r a0) (q_i a1) (q_i a2) σ r σ'
  | _ => True
set_option maxRecDepth 100000 in
theorem sp_307 {sx : zX} (S195 : zEe sx 195 2 qP_195) (S176 : zEe sx 176 3 qP_176) (S306 : zEe sx 306 3 qP_306) : zEe sx 307 3 qP_307 := by
  refine zfle zJ_307 (sps := [(195, 2, qP_195), (176, 3, qP_176), (306, 3, qP_306)]) (fun q hq => by
    simp only [List.mem_cons, List.not_mem_nil, or_false] at hq
    rcases hq with rfl | rfl | rfl
    · exact S195
    · exact S176
    · exact S306) (fun as σ hl => ?_)
  match as, hl with
  | [a0, a1, a2], _ =>
  refine ⟨[(23, fun lo st τ => st = [] ∧ i_307 (q_r a0) (q_i a1) (q_i a2) σ (q_r (lo 0)) (q_i (lo 1)) (q_i (lo 2)) (q_i (lo 3)) (q_i (lo 4)) (q_i (lo 5)) τ)], 400, ?_, ?_⟩
  · intro q hq
    simp only [List.mem_cons, List.not_mem_nil, or_false] at hq
    rcases hq with rfl
    · rintro lo st τ ⟨rfl, hI⟩
      refine ⟨400, ?_⟩
      refine And.intro (fun h5 => ?_) (fun h5 => ?_)
      · refine And.intro (fun h6 => ?_) (fun h6 => ?_)
        · exact ⟨_, rfl, sp_307_c23_tt (q_r a0) (q_i a1) (q_i a2) σ (q_r (lo 0)) (q_i (lo 1)) (q_i (lo 2)) (q_i (lo 3)) (q_i (lo 4)) (q_i (lo 5)) τ hI (cm2t h5) (cm0t h6)⟩
        · exact ⟨_, rfl, sp_307_c23_tf (q_r a0) (q_i a1) (q_i a2) σ (q_r (lo 0)) (q_i (lo 1)) (q_i (lo 2)) (q_i (lo 3)) (q_i (lo 4)) (q_i (lo 5)) τ hI (cm2t h5) (cm0f h6)⟩
      · refine fun o7 τ7 g7 => ?_
        obtain ⟨r7, rfl, g7⟩ := g7
        refine And.intro (fun h8 => ?_) (fun h8 => ?_)
        · refine fun o9 τ9 g9 => ?_
          obtain ⟨r9, rfl, g9⟩ := g9
          exact ⟨rfl, sp_307_c23_ft (q_r a0) (q_i a1) (q_i a2) σ (q_r (lo 0)) (q_i (lo 1)) (q_i (lo 2)) (q_i (lo 3)) (q_i (lo 4)) (q_i (lo 5)) τ τ7 r7 τ9 r9 hI (cm2f h5) g7 (cm0t h8) g9⟩
        · exact ⟨rfl, sp_307_c23_ff (q_r a0) (q_i a1) (q_i a2) σ (q_r (lo 0)) (q_i (lo 1)) (q_i (lo 2)) (q_i (lo 3)) (q_i (lo 4)) (q_i (lo 5)) τ τ7 r7 hI (cm2f h5) g7 (cm0f h8)⟩
  · refine fun o1 τ1 g1 => ?_
    obtain ⟨r1, rfl, g1⟩ := g1
    refine fun o2 τ2 g2 => ?_
    obtain ⟨r2, rfl, g2⟩ := g2
    refine And.intro (fun h3 => ?_) (fun h3 => ?_)
    · refine fun h4 => ?_
      exact ⟨rfl, sp_307_et (q_r a0) (q_i a1) (q_i a2) σ τ1 r1 τ2 r2 g1 g2 (cm0t h3) (q_inp h4)⟩
    · exact ⟨_, rfl, sp_307_ef (q_r a0) (q_i a1) (q_i a2) σ τ1 r1 τ2 r2 g1 g2 (cm0f h3)⟩
theorem zJ_341 : zJ3 341 z_m341 z_c341 z_h341 := ⟨rfl, rfl, rfl⟩
noncomputable def p_341 (a : Nat) (a1 a2 : Int32) (o : Nat) (σ : zSg) (k : Int32) (σ' : zSg) : Prop := ∃ e τ, p_159 a a1 a2 σ e τ ∧ ((∃ v, e = .inl v ∧ k = Int32.ofInt 0 ∧ σ' = q_w τ o 0 (.long v.toInt64)) ∨ (e = .inr 2 ∧ k = Int32.ofInt 1 ∧ σ' = τ))
theorem sp_341_en (a0 : Nat) (a1 : Int32) (a2 : Int32) (a3 : Nat) (σ : zSg) (τ1 : zSg) (r1 : Int32) (g1 : p_159 a0 a1 a2 σ (.inl r1) τ1) (h2 : 0 ≤ (Int32.ofInt (0)).toInt ∧ (Int32.ofInt (0)).toInt < (τ1.2.1 a3 : Int)) :
    p_341 (a0) (a1) (a2) (a3) σ (Int32.ofInt (0)) (q_w τ1 a3 (Int32.ofInt (0)).toNatClampNeg (.long r1.toInt64)) := by
  exact ⟨_, _, g1, Or.inl ⟨_, rfl, rfl, rfl⟩⟩
theorem sp_341_ex2_ (a0 : Nat) (a1 : Int32) (a2 : Int32) (a3 : Nat) (σ : zSg) (τ1 : zSg) (g1 : p_159 a0 a1 a2 σ (.inr 2) τ1) :
    p_341 (a0) (a1) (a2) (a3) σ (Int32.ofInt (1)) τ1 := by
  exact ⟨_, _, g1, Or.inr (⟨rfl, rfl, rfl⟩)⟩
noncomputable def qP_341 : zPp := fun as σ o σ' => match as with
  | [a0, a1, a2, a3] => ∃ r, o = .inl (some (.int r)) ∧ p_341 (q_r a0) (q_i a1) (q_i a2) (q_r a3) σ r σ'
  | _ => True
set_option maxRecDepth 100000 in
theorem sp_341 {sx : zX} (S159 : zEe sx 159 3 qP_159) : zEe sx 341 4 qP_341 := by
  refine zfle zJ_341 (sps := [(159, 3, qP_159)]) (fun q hq => by
    simp only [List.mem_cons, List.not_mem_nil, or_false] at hq
    rcases hq with rfl
    · exact S159) (fun as σ hl => ?_)
  match as, hl with
  | [a0, a1, a2, a3], _ =>
  refine ⟨[], 400, ?_, ?_⟩
  · exact fun q hq => absurd hq List.not_mem_nil
  · refine fun o1 τ1 g1 => ?_
    rcases g1 with ⟨r1, rfl, g1⟩ | ⟨rfl, g1⟩
    · refine fun h2 => ?_
      exact ⟨_, rfl, sp_341_en (q_r a0) (q_i a1) (q_i a2) (q_r a3) σ τ1 r1 g1 (q_inp h2)⟩
    · exact ⟨_, rfl, sp_341_ex2_ (q_r a0) (q_i a1) (q_i a2) (q_r a3) σ τ1 g1⟩
theorem zJ_342 : zJ3 342 z_m342 z_c342 z_h342 := ⟨rfl, rfl, rfl⟩
noncomputable def p_342 (a : Nat) (a1 a2 : Int32) (o : Nat) (σ : zSg) (k : Int32) (σ' : zSg) : Prop := ∃ e τ, p_160 a a1 a2 σ e τ ∧ ((∃ v, e = .inl v ∧ k = Int32.ofInt 0 ∧ σ' = q_w τ o 0 (.long v.toInt64)) ∨ (e = .inr 3 ∧ k = Int32.ofInt 1 ∧ σ' = τ))
theorem sp_342_en (a0 : Nat) (a1 : Int32) (a2 : Int32) (a3 : Nat) (σ : zSg) (τ1 : zSg) (r1 : Int32) (g1 : p_160 a0 a1 a2 σ (.inl r1) τ1) (h2 : 0 ≤ (Int32.ofInt (0)).toInt ∧ (Int32.ofInt (0)).toInt < (τ1.2.1 a3 : Int)) :
    p_342 (a0) (a1) (a2) (a3) σ (Int32.ofInt (0)) (q_w τ1 a3 (Int32.ofInt (0)).toNatClampNeg (.long r1.toInt64)) := by
  exact ⟨_, _, g1, Or.inl ⟨_, rfl, rfl, rfl⟩⟩
theorem sp_342_ex3_ (a0 : Nat) (a1 : Int32) (a2 : Int32) (a3 : Nat) (σ : zSg) (τ1 : zSg) (g1 : p_160 a0 a1 a2 σ (.inr 3) τ1) :
    p_342 (a0) (a1) (a2) (a3) σ (Int32.ofInt (1)) τ1 := by
  exact ⟨_, _, g1, Or.inr (⟨rfl, rfl, rfl⟩)⟩
noncomputable def qP_342 : zPp := fun as σ o σ' => match as with
  | [a0, a1, a2, a3] => ∃ r, o = .inl (some (.int r)) ∧ p_342 (q_r a0) (q_i a1) (q_i a2) (q_r a3) σ r σ'
  | _ => True
set_option maxRecDepth 100000 in
theorem sp_342 {sx : zX} (S160 : zEe sx 160 3 qP_160) : zEe sx 342 4 qP_342 := by
  refine zfle zJ_342 (sps := [(160, 3, qP_160)]) (fun q hq => by
    simp only [List.mem_cons, List.not_mem_nil, or_false] at hq
    rcases hq with rfl
    · exact S160) (fun as σ hl => ?_)
  match as, hl with
  | [a0, a1, a2, a3], _ =>
  refine ⟨[], 400, ?_, ?_⟩
  · exact fun q hq => absurd hq List.not_mem_nil
  · refine fun o1 τ1 g1 => ?_
    rcases g1 with ⟨r1, rfl, g1⟩ | ⟨rfl, g1⟩
    · refine fun h2 => ?_
      exact ⟨_, rfl, sp_342_en (q_r a0) (q_i a1) (q_i a2) (q_r a3) σ τ1 r1 g1 (q_inp h2)⟩
    · exact ⟨_, rfl, sp_342_ex3_ (q_r a0) (q_i a1) (q_i a2) (q_r a3) σ τ1 g1⟩
end
section
/-! readers of both sides, exact: common, met, lovers, fewest; printed with wip/gen/gen_dv.py -/
/-- the families that make so much dust -/
noncomputable def fDu (A : Nat → Int32) (nf : Nat) (x : Int32) : Int32 := fB (fun F => decide (A (41 + 4 * F) = x)) nf
noncomputable def fCo (A : Nat → Int32) (nf : Nat) : Nat → Int32
  | 0 => Int32.ofInt 0
  | n + 1 => if (fBc (fDu A nf (fCo A nf n))).toInt < (fBc (fDu A nf (Int32.ofNat (n + 1)))).toInt then Int32.ofNat (n + 1) else fCo A nf n
theorem fCo_y {A : Nat → Int32} {nf n : Nat} (h : (fBc (fDu A nf (fCo A nf n))).toInt < (fBc (fDu A nf (Int32.ofNat (n + 1)))).toInt) : fCo A nf (n + 1) = Int32.ofNat (n + 1) := if_pos h
theorem fCo_n {A : Nat → Int32} {nf n : Nat} (h : ¬ (fBc (fDu A nf (fCo A nf n))).toInt < (fBc (fDu A nf (Int32.ofNat (n + 1)))).toInt) : fCo A nf (n + 1) = fCo A nf n := if_neg h
theorem zJ_20 : zJ3 20 z_m20 z_c20 z_h20 := ⟨rfl, rfl, rfl⟩
noncomputable def p_20 (a : Nat) (x : Int32) (σ : zSg) (r : Int32) (σ' : zSg) : Prop := σ' = σ ∧ ∀ b H nf, a = b + 2 → hH σ b H → H 0 = Int32.ofNat nf → nf ≤ 6 → r = fDu H nf x
noncomputable def i_20 (a : Nat) (x : Int32) (σ : zSg) (l0 : Nat) (l1 l2 l3 : Int32) (τ : zSg) : Prop := l0 = a ∧ l1 = x ∧ τ = σ ∧ ∀ b H nf, a = b + 2 → hH σ b H → H 0 = Int32.ofNat nf → nf ≤ 6 → ∃ n, n ≤ nf ∧ l3 = Int32.ofNat n ∧ l2 = fDu H n x
theorem sp_20_e (a0 : Nat) (a1 : Int32) (σ : zSg)  :
    i_20 a0 a1 σ a0 a1 (Int32.ofInt (0)) (Int32.ofInt (0)) σ := by
  exact ⟨rfl, rfl, rfl, fun b H nf _ _ _ _ => ⟨0, by omega, rfl, rfl⟩⟩
theorem sp_20_c4_t (a0 : Nat) (a1 : Int32) (σ : zSg) (l0 : Nat) (l1 : Int32) (l2 : Int32) (l3 : Int32) (τ : zSg) (hI : i_20 a0 a1 σ l0 l1 l2 l3 τ) (h1 : l3.toInt ≥ (q_i (τ.1 l0 4)).toInt) :
    p_20 (a0) (a1) σ l2 τ := by
  obtain ⟨rfl, rfl, rfl, hI⟩ := hI
  refine ⟨rfl, ?_⟩
  rintro b H nf rfl K e0 yh6
  obtain ⟨n, hn, e3, e2⟩ := hI b H nf rfl K e0 yh6
  subst e3
  rw [K.p hp_0, e0, o32 (by omega), o32 (by omega)] at h1
  have : n = nf := by omega
  subst this
  exact e2
theorem sp_20_c4_ft (a0 : Nat) (a1 : Int32) (σ : zSg) (l0 : Nat) (l1 : Int32) (l2 : Int32) (l3 : Int32) (τ : zSg) (hI : i_20 a0 a1 σ l0 l1 l2 l3 τ) (h1 : l3.toInt < (q_i (τ.1 l0 4)).toInt) (h2 : 0 ≤ l3.toInt ∧ l3.toInt < (τ.2.1 (q_r (τ.1 l0 1)) : Int)) (h3 : (q_i (τ.1 (q_r (τ.1 l0 1)) l3.toNatClampNeg)).toInt ≠ l1.toInt) :
    i_20 a0 a1 σ l0 l1 l2 (l3 + Int32.ofInt (1)) τ := by
  obtain ⟨rfl, rfl, rfl, hI⟩ := hI
  refine ⟨rfl, rfl, rfl, ?_⟩
  rintro b H nf rfl K e0 yh6
  obtain ⟨n, hn, e3, e2⟩ := hI b H nf rfl K e0 yh6
  subst e3
  rw [K.p hp_0, e0, o32 (by omega), o32 (by omega)] at h1
  have x1 : q_i (τ.1 (q_r (τ.1 (b + 2) 1)) (Int32.ofNat n).toNatClampNeg) = H (41 + 4 * n) := by
    rw [K.k hk_f1, o32n (by omega)]
    exact K.p (hp_f1 (by omega))
  rw [x1] at h3
  refine ⟨n + 1, by omega, o32i (by omega), ?_⟩
  show _ = fB (fun F => decide (H (41 + 4 * F) = l1)) n ||| _
  rw [if_neg (fun q => h3 (congrArg Int32.toInt (of_decide_eq_true q))), e2]
  exact Int32.or_zero.symm
theorem sp_20_c4_ff (a0 : Nat) (a1 : Int32) (σ : zSg) (l0 : Nat) (l1 : Int32) (l2 : Int32) (l3 : Int32) (τ : zSg) (hI : i_20 a0 a1 σ l0 l1 l2 l3 τ) (h1 : l3.toInt < (q_i (τ.1 l0 4)).toInt) (h2 : 0 ≤ l3.toInt ∧ l3.toInt < (τ.2.1 (q_r (τ.1 l0 1)) : Int)) (h3 : (q_i (τ.1 (q_r (τ.1 l0 1)) l3.toNatClampNeg)).toInt = l1.toInt) :
    i_20 a0 a1 σ l0 l1 (l2 ||| ((Int32.ofInt (1)) <<< (l3 &&& 31))) (l3 + Int32.ofInt (1)) τ := by
  obtain ⟨rfl, rfl, rfl, hI⟩ := hI
  refine ⟨rfl, rfl, rfl, ?_⟩
  rintro b H nf rfl K e0 yh6
  obtain ⟨n, hn, e3, e2⟩ := hI b H nf rfl K e0 yh6
  subst e3
  rw [K.p hp_0, e0, o32 (by omega), o32 (by omega)] at h1
  have x1 : q_i (τ.1 (q_r (τ.1 (b + 2) 1)) (Int32.ofNat n).toNatClampNeg) = H (41 + 4 * n) := by
    rw [K.k hk_f1, o32n (by omega)]
    exact K.p (hp_f1 (by omega))
  rw [x1] at h3
  refine ⟨n + 1, by omega, o32i (by omega), ?_⟩
  show _ = fB (fun F => decide (H (41 + 4 * F) = l1)) n ||| _
  rw [if_pos (decide_eq_true (Int32.toInt_inj.mp h3)), e2]
  rfl
noncomputable def qP_20 : zPp := fun as σ o σ' => match as with
  | [a0, a1] => ∃ r, o = .inl (some (.int r)) ∧ p_20 (q_r a0) (q_i a1) σ r σ'
  | _ => True
set_option maxRecDepth 100000 in
theorem sp_20 {sx : zX}  : zEe sx 20 2 qP_20 := by
  refine zfle zJ_20 (sps := []) (fun q hq => absurd hq List.not_mem_nil) (fun as σ hl => ?_)
  match as, hl with
  | [a0, a1], _ =>
  refine ⟨[(4, fun lo st τ => st = [] ∧ i_20 (q_r a0) (q_i a1) σ (q_r (lo 0)) (q_i (lo 1)) (q_i (lo 2)) (q_i (lo 3)) τ)], 400, ?_, ?_⟩
  · intro q hq
    simp only [List.mem_cons, List.not_mem_nil, or_false] at hq
    rcases hq with rfl
    · rintro lo st τ ⟨rfl, hI⟩
      refine ⟨400, ?_⟩
      refine And.intro (fun h1 => ?_) (fun h1 => ?_)
      · exact ⟨_, rfl, sp_20_c4_t (q_r a0) (q_i a1) σ (q_r (lo 0)) (q_i (lo 1)) (q_i (lo 2)) (q_i (lo 3)) τ hI (cm3t h1)⟩
      · refine fun h2 => ?_
        refine And.intro (fun h3 => ?_) (fun h3 => ?_)
        · exact ⟨rfl, sp_20_c4_ft (q_r a0) (q_i a1) σ (q_r (lo 0)) (q_i (lo 1)) (q_i (lo 2)) (q_i (lo 3)) τ hI (cm3f h1) (q_inp h2) (cm1t h3)⟩
        · exact ⟨rfl, sp_20_c4_ff (q_r a0) (q_i a1) σ (q_r (lo 0)) (q_i (lo 1)) (q_i (lo 2)) (q_i (lo 3)) τ hI (cm3f h1) (q_inp h2) (cm1f h3)⟩
  · exact ⟨rfl, sp_20_e (q_r a0) (q_i a1) σ ⟩
theorem zJ_21 : zJ3 21 z_m21 z_c21 z_h21 := ⟨rfl, rfl, rfl⟩
noncomputable def p_21 (a : Nat) (σ : zSg) (r : Int32) (σ' : zSg) : Prop := σ' = σ ∧ ∀ b H nf, a = b + 2 → hH σ b H → H 0 = Int32.ofNat nf → nf ≤ 6 → r = fCo H nf 9
noncomputable def i_21 (a : Nat) (σ : zSg) (l0 : Nat) (l1 l2 : Int32) (τ : zSg) : Prop := l0 = a ∧ τ = σ ∧ ∃ n, n ≤ 9 ∧ l2 = Int32.ofNat (n + 1) ∧ ∀ b H nf, a = b + 2 → hH σ b H → H 0 = Int32.ofNat nf → nf ≤ 6 → l1 = fCo H nf n
theorem sp_21_e (a0 : Nat) (σ : zSg)  :
    i_21 a0 σ a0 (Int32.ofInt (0)) (Int32.ofInt (1)) σ := by
  exact ⟨rfl, rfl, 0, by omega, rfl, fun b H nf _ _ _ _ => rfl⟩
theorem sp_21_c4_t (a0 : Nat) (σ : zSg) (l0 : Nat) (l1 : Int32) (l2 : Int32) (τ : zSg) (hI : i_21 a0 σ l0 l1 l2 τ) (h1 : l2.toInt > (9 : Int)) :
    p_21 (a0) σ l1 τ := by
  obtain ⟨rfl, rfl, n, hn, rfl, hI⟩ := hI
  rw [o32 (by omega)] at h1
  have : n = 9 := by omega
  subst this
  exact ⟨rfl, hI⟩
theorem sp_21_c4_ft (a0 : Nat) (σ : zSg) (l0 : Nat) (l1 : Int32) (l2 : Int32) (τ : zSg) (τ2 : zSg) (r2 : Int32) (τ3 : zSg) (r3 : Int32) (τ4 : zSg) (r4 : Int32) (τ5 : zSg) (r5 : Int32) (hI : i_21 a0 σ l0 l1 l2 τ) (h1 : l2.toInt ≤ (9 : Int)) (g2 : p_20 l0 l2 τ r2 τ2) (g3 : p_311 r2 τ2 r3 τ3) (g4 : p_20 l0 l1 τ3 r4 τ4) (g5 : p_311 r4 τ4 r5 τ5) (h6 : r3.toInt ≤ r5.toInt) :
    i_21 a0 σ l0 l1 (l2 + Int32.ofInt (1)) τ5 := by
  obtain ⟨ea, g1⟩ := g2
  subst ea
  obtain ⟨eb, x2⟩ := g3
  subst eb
  obtain ⟨ec, g3⟩ := g4
  subst ec
  obtain ⟨ed, x4⟩ := g5
  subst ed
  obtain ⟨rfl, rfl, n, hn, rfl, hI⟩ := hI
  rw [o32 (by omega)] at h1
  refine ⟨rfl, rfl, n + 1, by omega, o32i (by omega), ?_⟩
  rintro b H nf rfl K e0 yh6
  have e1 := hI b H nf rfl K e0 yh6
  have y1 := g1 b H nf rfl K e0 yh6
  have y3 := g3 b H nf rfl K e0 yh6
  rw [x2, y1, x4, y3, e1] at h6
  rw [fCo_n (by omega)]
  exact e1
theorem sp_21_c4_ff (a0 : Nat) (σ : zSg) (l0 : Nat) (l1 : Int32) (l2 : Int32) (τ : zSg) (τ2 : zSg) (r2 : Int32) (τ3 : zSg) (r3 : Int32) (τ4 : zSg) (r4 : Int32) (τ5 : zSg) (r5 : Int32) (hI : i_21 a0 σ l0 l1 l2 τ) (h1 : l2.toInt ≤ (9 : Int)) (g2 : p_20 l0 l2 τ r2 τ2) (g3 : p_311 r2 τ2 r3 τ3) (g4 : p_20 l0 l1 τ3 r4 τ4) (g5 : p_311 r4 τ4 r5 τ5) (h6 : r3.toInt > r5.toInt) :
    i_21 a0 σ l0 l2 (l2 + Int32.ofInt (1)) τ5 := by
  obtain ⟨ea, g1⟩ := g2
  subst ea
  obtain ⟨eb, x2⟩ := g3
  subst eb
  obtain ⟨ec, g3⟩ := g4
  subst ec
  obtain ⟨ed, x4⟩ := g5
  subst ed
  obtain ⟨rfl, rfl, n, hn, rfl, hI⟩ := hI
  rw [o32 (by omega)] at h1
  refine ⟨rfl, rfl, n + 1, by omega, o32i (by omega), ?_⟩
  rintro b H nf rfl K e0 yh6
  have e1 := hI b H nf rfl K e0 yh6
  have y1 := g1 b H nf rfl K e0 yh6
  have y3 := g3 b H nf rfl K e0 yh6
  rw [x2, y1, x4, y3, e1] at h6
  rw [fCo_y (by omega)]
noncomputable def qP_21 : zPp := fun as σ o σ' => match as with
  | [a0] => ∃ r, o = .inl (some (.int r)) ∧ p_21 (q_r a0) σ r σ'
  | _ => True
set_option maxRecDepth 100000 in
theorem sp_21 {sx : zX} (S20 : zEe sx 20 2 qP_20) (S311 : zEe sx 311 1 qP_311) : zEe sx 21 1 qP_21 := by
  refine zfle zJ_21 (sps := [(20, 2, qP_20), (311, 1, qP_311)]) (fun q hq => by
    simp only [List.mem_cons, List.not_mem_nil, or_false] at hq
    rcases hq with rfl | rfl
    · exact S20
    · exact S311) (fun as σ hl => ?_)
  match as, hl with
  | [a0], _ =>
  refine ⟨[(4, fun lo st τ => st = [] ∧ i_21 (q_r a0) σ (q_r (lo 0)) (q_i (lo 1)) (q_i (lo 2)) τ)], 400, ?_, ?_⟩
  · intro q hq
    simp only [List.mem_cons, List.not_mem_nil, or_false] at hq
    rcases hq with rfl
    · rintro lo st τ ⟨rfl, hI⟩
      refine ⟨400, ?_⟩
      refine And.intro (fun h1 => ?_) (fun h1 => ?_)
      · exact ⟨_, rfl, sp_21_c4_t (q_r a0) σ (q_r (lo 0)) (q_i (lo 1)) (q_i (lo 2)) τ hI (cm4t h1)⟩
      · refine fun o2 τ2 g2 => ?_
        obtain ⟨r2, rfl, g2⟩ := g2
        refine fun o3 τ3 g3 => ?_
        obtain ⟨r3, rfl, g3⟩ := g3
        refine fun o4 τ4 g4 => ?_
        obtain ⟨r4, rfl, g4⟩ := g4
        refine fun o5 τ5 g5 => ?_
        obtain ⟨r5, rfl, g5⟩ := g5
        refine And.intro (fun h6 => ?_) (fun h6 => ?_)
        · exact ⟨rfl, sp_21_c4_ft (q_r a0) σ (q_r (lo 0)) (q_i (lo 1)) (q_i (lo 2)) τ τ2 r2 τ3 r3 τ4 r4 τ5 r5 hI (cm4f h1) g2 g3 g4 g5 (cm5t h6)⟩
        · exact ⟨rfl, sp_21_c4_ff (q_r a0) σ (q_r (lo 0)) (q_i (lo 1)) (q_i (lo 2)) τ τ2 r2 τ3 r3 τ4 r4 τ5 r5 hI (cm4f h1) g2 g3 g4 g5 (cm5f h6)⟩
  · exact ⟨rfl, sp_21_e (q_r a0) σ ⟩
theorem zJ_147 : zJ3 147 z_m147 z_c147 z_h147 := ⟨rfl, rfl, rfl⟩
noncomputable def p_147 (a : Nat) (σ : zSg) (r : Int32) (σ' : zSg) : Prop := a = 0 → xSk σ → σ' = σ ∧ ∀ A nf, hH σ 8 A → A 0 = Int32.ofNat nf → nf ≤ 6 → r = fCo A nf 9
theorem sp_147_e (a0 : Nat) (σ : zSg) (τ1 : zSg) (r1 : Int32) (g1 : p_21 (q_r (σ.1 (q_r (σ.1 a0 2)) 1)) σ r1 τ1) :
    p_147 (a0) σ r1 τ1 := by
  rintro rfl X
  have d2 : q_r (σ.1 0 2) = 8 := by rw [X.2.1]; rfl
  rw [d2] at g1
  refine ⟨g1.1, fun A nf K e0 yh6 => ?_⟩
  have g1 := g1.2
  rw [K.k hk_1] at g1
  exact g1 8 A nf rfl K e0 yh6
noncomputable def qP_147 : zPp := fun as σ o σ' => match as with
  | [a0] => ∃ r, o = .inl (some (.int r)) ∧ p_147 (q_r a0) σ r σ'
  | _ => True
set_option maxRecDepth 100000 in
theorem sp_147 {sx : zX} (S21 : zEe sx 21 1 qP_21) : zEe sx 147 1 qP_147 := by
  refine zfle zJ_147 (sps := [(21, 1, qP_21)]) (fun q hq => by
    simp only [List.mem_cons, List.not_mem_nil, or_false] at hq
    rcases hq with rfl
    · exact S21) (fun as σ hl => ?_)
  match as, hl with
  | [a0], _ =>
  refine ⟨[], 400, ?_, ?_⟩
  · exact fun q hq => absurd hq List.not_mem_nil
  · refine fun o1 τ1 g1 => ?_
    obtain ⟨r1, rfl, g1⟩ := g1
    exact ⟨_, rfl, sp_147_e (q_r a0) σ τ1 r1 g1⟩
theorem zJ_298 : zJ3 298 z_m298 z_c298 z_h298 := ⟨rfl, rfl, rfl⟩
noncomputable def p_298 (a : Nat) (x : Int32) (σ : zSg) (r : Int32) (σ' : zSg) : Prop := σ' = σ ∧ (a = 205 → ∀ A nf, rW σ A → A 0 = Int32.ofNat nf → nf ≤ 6 → r = fDu A nf x)
noncomputable def i_298 (a : Nat) (x : Int32) (σ : zSg) (l0 : Nat) (l1 l2 l3 : Int32) (τ : zSg) : Prop := l0 = a ∧ l1 = x ∧ τ = σ ∧ (a = 205 → ∀ A nf, rW σ A → A 0 = Int32.ofNat nf → nf ≤ 6 → ∃ n, n ≤ nf ∧ l3 = Int32.ofNat n ∧ l2 = fDu A n x)
theorem sp_298_e (a0 : Nat) (a1 : Int32) (σ : zSg)  :
    i_298 a0 a1 σ a0 a1 (Int32.ofInt (0)) (Int32.ofInt (0)) σ := by
  exact ⟨rfl, rfl, rfl, fun _ A nf _ _ _ => ⟨0, by omega, rfl, rfl⟩⟩
theorem sp_298_c4_t (a0 : Nat) (a1 : Int32) (σ : zSg) (l0 : Nat) (l1 : Int32) (l2 : Int32) (l3 : Int32) (τ : zSg) (τ1 : zSg) (r1 : Int32) (hI : i_298 a0 a1 σ l0 l1 l2 l3 τ) (g1 : p_184 l0 τ r1 τ1) (h2 : l3.toInt ≥ r1.toInt) :
    p_298 (a0) (a1) σ l2 τ1 := by
  obtain ⟨ea, ga⟩ := g1
  subst ea
  obtain ⟨rfl, rfl, rfl, hI⟩ := hI
  refine ⟨rfl, ?_⟩
  intro ha A nf w e0 yh6
  obtain ⟨n, hn, e3, e2⟩ := hI ha A nf w e0 yh6
  subst e3
  rw [ga ha A w, e0, o32 (by omega), o32 (by omega)] at h2
  have : n = nf := by omega
  subst this
  exact e2
theorem sp_298_c4_ft (a0 : Nat) (a1 : Int32) (σ : zSg) (l0 : Nat) (l1 : Int32) (l2 : Int32) (l3 : Int32) (τ : zSg) (τ1 : zSg) (r1 : Int32) (τ3 : zSg) (r3 : Int32) (hI : i_298 a0 a1 σ l0 l1 l2 l3 τ) (g1 : p_184 l0 τ r1 τ1) (h2 : l3.toInt < r1.toInt) (g3 : p_190 l0 l3 (Int32.ofInt (1)) τ1 r3 τ3) (h4 : r3.toInt ≠ l1.toInt) :
    i_298 a0 a1 σ l0 l1 (l2 ||| (Int32.ofInt (0))) (l3 + Int32.ofInt (1)) τ3 := by
  obtain ⟨ea, ga⟩ := g1
  subst ea
  obtain ⟨eb, gb⟩ := g3
  subst eb
  obtain ⟨rfl, rfl, rfl, hI⟩ := hI
  refine ⟨rfl, rfl, rfl, ?_⟩
  intro ha A nf w e0 yh6
  obtain ⟨n, hn, e3, e2⟩ := hI ha A nf w e0 yh6
  subst e3
  rw [ga ha A w, e0, o32 (by omega), o32 (by omega)] at h2
  have x1 := gb ha A w n 1 rfl (by omega) rfl (by omega)
  rw [x1] at h4
  have h4 := h4
  refine ⟨n + 1, by omega, o32i (by omega), ?_⟩
  show _ = fB (fun F => decide (A (41 + 4 * F) = l1)) n ||| _
  rw [if_neg (fun q => h4 (congrArg Int32.toInt (of_decide_eq_true q))), e2]
  rfl
theorem sp_298_c4_ff (a0 : Nat) (a1 : Int32) (σ : zSg) (l0 : Nat) (l1 : Int32) (l2 : Int32) (l3 : Int32) (τ : zSg) (τ1 : zSg) (r1 : Int32) (τ3 : zSg) (r3 : Int32) (hI : i_298 a0 a1 σ l0 l1 l2 l3 τ) (g1 : p_184 l0 τ r1 τ1) (h2 : l3.toInt < r1.toInt) (g3 : p_190 l0 l3 (Int32.ofInt (1)) τ1 r3 τ3) (h4 : r3.toInt = l1.toInt) :
    i_298 a0 a1 σ l0 l1 (l2 ||| ((Int32.ofInt (1)) <<< (l3 &&& 31))) (l3 + Int32.ofInt (1)) τ3 := by
  obtain ⟨ea, ga⟩ := g1
  subst ea
  obtain ⟨eb, gb⟩ := g3
  subst eb
  obtain ⟨rfl, rfl, rfl, hI⟩ := hI
  refine ⟨rfl, rfl, rfl, ?_⟩
  intro ha A nf w e0 yh6
  obtain ⟨n, hn, e3, e2⟩ := hI ha A nf w e0 yh6
  subst e3
  rw [ga ha A w, e0, o32 (by omega), o32 (by omega)] at h2
  have x1 := gb ha A w n 1 rfl (by omega) rfl (by omega)
  rw [x1] at h4
  have h4 := h4
  refine ⟨n + 1, by omega, o32i (by omega), ?_⟩
  show _ = fB (fun F => decide (A (41 + 4 * F) = l1)) n ||| _
  rw [if_pos (decide_eq_true (Int32.toInt_inj.mp h4)), e2]
  rfl
noncomputable def qP_298 : zPp := fun as σ o σ' => match as with
  | [a0, a1] => ∃ r, o = .inl (some (.int r)) ∧ p_298 (q_r a0) (q_i a1) σ r σ'
  | _ => True
set_option maxRecDepth 100000 in
theorem sp_298 {sx : zX} (S184 : zEe sx 184 1 qP_184) (S190 : zEe sx 190 3 qP_190) : zEe sx 298 2 qP_298 := by
  refine zfle zJ_298 (sps := [(184, 1, qP_184), (190, 3, qP_190)]) (fun q hq => by
    simp only [List.mem_cons, List.not_mem_nil, or_false] at hq
    rcases hq with rfl | rfl
    · exact S184
    · exact S190) (fun as σ hl => ?_)
  match as, hl with
  | [a0, a1], _ =>
  refine ⟨[(4, fun lo st τ => st = [] ∧ i_298 (q_r a0) (q_i a1) σ (q_r (lo 0)) (q_i (lo 1)) (q_i (lo 2)) (q_i (lo 3)) τ)], 400, ?_, ?_⟩
  · intro q hq
    simp only [List.mem_cons, List.not_mem_nil, or_false] at hq
    rcases hq with rfl
    · rintro lo st τ ⟨rfl, hI⟩
      refine ⟨400, ?_⟩
      refine fun o1 τ1 g1 => ?_
      obtain ⟨r1, rfl, g1⟩ := g1
      refine And.intro (fun h2 => ?_) (fun h2 => ?_)
      · exact ⟨_, rfl, sp_298_c4_t (q_r a0) (q_i a1) σ (q_r (lo 0)) (q_i (lo 1)) (q_i (lo 2)) (q_i (lo 3)) τ τ1 r1 hI g1 (cm3t h2)⟩
      · refine fun o3 τ3 g3 => ?_
        obtain ⟨r3, rfl, g3⟩ := g3
        refine And.intro (fun h4 => ?_) (fun h4 => ?_)
        · exact ⟨rfl, sp_298_c4_ft (q_r a0) (q_i a1) σ (q_r (lo 0)) (q_i (lo 1)) (q_i (lo 2)) (q_i (lo 3)) τ τ1 r1 τ3 r3 hI g1 (cm3f h2) g3 (cm1t h4)⟩
        · exact ⟨rfl, sp_298_c4_ff (q_r a0) (q_i a1) σ (q_r (lo 0)) (q_i (lo 1)) (q_i (lo 2)) (q_i (lo 3)) τ τ1 r1 τ3 r3 hI g1 (cm3f h2) g3 (cm1f h4)⟩
  · exact ⟨rfl, sp_298_e (q_r a0) (q_i a1) σ ⟩
theorem zJ_300 : zJ3 300 z_m300 z_c300 z_h300 := ⟨rfl, rfl, rfl⟩
noncomputable def p_300 (a : Nat) (σ : zSg) (r : Int32) (σ' : zSg) : Prop := a = 205 → ∀ A nf, rW σ A → A 0 = Int32.ofNat nf → nf ≤ 6 → σ' = r0 σ ∧ r = fCo A nf 9
noncomputable def i_300 (a : Nat) (σ : zSg) (l0 : Nat) (l1 l2 : Int32) (τ : zSg) : Prop := l0 = a ∧ ∃ n, n ≤ 9 ∧ l2 = Int32.ofNat (n + 1) ∧ (a = 205 → ∀ A nf, rW σ A → A 0 = Int32.ofNat nf → nf ≤ 6 → τ = r0 σ ∧ l1 = fCo A nf n)
theorem sp_300_e (a0 : Nat) (σ : zSg)  :
    i_300 a0 σ a0 (Int32.ofInt (0)) (Int32.ofInt (1)) (q_w σ a0 0 (.int (Int32.ofInt (0)))) := by
  refine ⟨rfl, 0, by omega, rfl, ?_⟩
  rintro rfl A nf _ _ _
  exact ⟨rfl, rfl⟩
theorem sp_300_c7_t (a0 : Nat) (σ : zSg) (l0 : Nat) (l1 : Int32) (l2 : Int32) (τ : zSg) (hI : i_300 a0 σ l0 l1 l2 τ) (h1 : l2.toInt > (9 : Int)) :
    p_300 (a0) σ l1 τ := by
  obtain ⟨rfl, n, hn, rfl, hI⟩ := hI
  rw [o32 (by omega)] at h1
  have : n = 9 := by omega
  subst this
  exact hI
theorem sp_300_c7_ft (a0 : Nat) (σ : zSg) (l0 : Nat) (l1 : Int32) (l2 : Int32) (τ : zSg) (τ2 : zSg) (r2 : Int32) (τ3 : zSg) (r3 : Int32) (τ4 : zSg) (r4 : Int32) (τ5 : zSg) (r5 : Int32) (hI : i_300 a0 σ l0 l1 l2 τ) (h1 : l2.toInt ≤ (9 : Int)) (g2 : p_298 l0 l2 τ r2 τ2) (g3 : p_311 r2 τ2 r3 τ3) (g4 : p_298 l0 l1 τ3 r4 τ4) (g5 : p_311 r4 τ4 r5 τ5) (h6 : r3.toInt ≤ r5.toInt) :
    i_300 a0 σ l0 l1 (l2 + Int32.ofInt (1)) τ5 := by
  obtain ⟨ea, g1⟩ := g2
  subst ea
  obtain ⟨eb, x2⟩ := g3
  subst eb
  obtain ⟨ec, g3⟩ := g4
  subst ec
  obtain ⟨ed, x4⟩ := g5
  subst ed
  obtain ⟨rfl, n, hn, rfl, hI⟩ := hI
  rw [o32 (by omega)] at h1
  refine ⟨rfl, n + 1, by omega, o32i (by omega), ?_⟩
  intro ha A nf w e0 yh6
  obtain ⟨et, e1⟩ := hI ha A nf w e0 yh6
  have w0 : rW τ5 A := by rw [et]; exact w.el (by omega)
  have y1 := g1 ha A nf w0 e0 yh6
  have y3 := g3 ha A nf w0 e0 yh6
  rw [x2, y1, x4, y3, e1] at h6
  rw [fCo_n (by omega)]
  exact ⟨et, e1⟩
theorem sp_300_c7_ff (a0 : Nat) (σ : zSg) (l0 : Nat) (l1 : Int32) (l2 : Int32) (τ : zSg) (τ2 : zSg) (r2 : Int32) (τ3 : zSg) (r3 : Int32) (τ4 : zSg) (r4 : Int32) (τ5 : zSg) (r5 : Int32) (hI : i_300 a0 σ l0 l1 l2 τ) (h1 : l2.toInt ≤ (9 : Int)) (g2 : p_298 l0 l2 τ r2 τ2) (g3 : p_311 r2 τ2 r3 τ3) (g4 : p_298 l0 l1 τ3 r4 τ4) (g5 : p_311 r4 τ4 r5 τ5) (h6 : r3.toInt > r5.toInt) :
    i_300 a0 σ l0 l2 (l2 + Int32.ofInt (1)) τ5 := by
  obtain ⟨ea, g1⟩ := g2
  subst ea
  obtain ⟨eb, x2⟩ := g3
  subst eb
  obtain ⟨ec, g3⟩ := g4
  subst ec
  obtain ⟨ed, x4⟩ := g5
  subst ed
  obtain ⟨rfl, n, hn, rfl, hI⟩ := hI
  rw [o32 (by omega)] at h1
  refine ⟨rfl, n + 1, by omega, o32i (by omega), ?_⟩
  intro ha A nf w e0 yh6
  obtain ⟨et, e1⟩ := hI ha A nf w e0 yh6
  have w0 : rW τ5 A := by rw [et]; exact w.el (by omega)
  have y1 := g1 ha A nf w0 e0 yh6
  have y3 := g3 ha A nf w0 e0 yh6
  rw [x2, y1, x4, y3, e1] at h6
  rw [fCo_y (by omega)]
  exact ⟨et, rfl⟩
noncomputable def qP_300 : zPp := fun as σ o σ' => match as with
  | [a0] => ∃ r, o = .inl (some (.int r)) ∧ p_300 (q_r a0) σ r σ'
  | _ => True
set_option maxRecDepth 100000 in
theorem sp_300 {sx : zX} (S298 : zEe sx 298 2 qP_298) (S311 : zEe sx 311 1 qP_311) : zEe sx 300 1 qP_300 := by
  refine zfle zJ_300 (sps := [(298, 2, qP_298), (311, 1, qP_311)]) (fun q hq => by
    simp only [List.mem_cons, List.not_mem_nil, or_false] at hq
    rcases hq with rfl | rfl
    · exact S298
    · exact S311) (fun as σ hl => ?_)
  match as, hl with
  | [a0], _ =>
  refine ⟨[(7, fun lo st τ => st = [] ∧ i_300 (q_r a0) σ (q_r (lo 0)) (q_i (lo 1)) (q_i (lo 2)) τ)], 400, ?_, ?_⟩
  · intro q hq
    simp only [List.mem_cons, List.not_mem_nil, or_false] at hq
    rcases hq with rfl
    · rintro lo st τ ⟨rfl, hI⟩
      refine ⟨400, ?_⟩
      refine And.intro (fun h1 => ?_) (fun h1 => ?_)
      · exact ⟨_, rfl, sp_300_c7_t (q_r a0) σ (q_r (lo 0)) (q_i (lo 1)) (q_i (lo 2)) τ hI (cm4t h1)⟩
      · refine fun o2 τ2 g2 => ?_
        obtain ⟨r2, rfl, g2⟩ := g2
        refine fun o3 τ3 g3 => ?_
        obtain ⟨r3, rfl, g3⟩ := g3
        refine fun o4 τ4 g4 => ?_
        obtain ⟨r4, rfl, g4⟩ := g4
        refine fun o5 τ5 g5 => ?_
        obtain ⟨r5, rfl, g5⟩ := g5
        refine And.intro (fun h6 => ?_) (fun h6 => ?_)
        · exact ⟨rfl, sp_300_c7_ft (q_r a0) σ (q_r (lo 0)) (q_i (lo 1)) (q_i (lo 2)) τ τ2 r2 τ3 r3 τ4 r4 τ5 r5 hI (cm4f h1) g2 g3 g4 g5 (cm5t h6)⟩
        · exact ⟨rfl, sp_300_c7_ff (q_r a0) σ (q_r (lo 0)) (q_i (lo 1)) (q_i (lo 2)) τ τ2 r2 τ3 r3 τ4 r4 τ5 r5 hI (cm4f h1) g2 g3 g4 g5 (cm5f h6)⟩
  · exact ⟨rfl, sp_300_e (q_r a0) σ ⟩
theorem zJ_67 : zJ3 67 z_m67 z_c67 z_h67 := ⟨rfl, rfl, rfl⟩
noncomputable def fSn (x : Int32) : Int32 := ((x >>> ((Int32.ofInt (1)) &&& 31)) ||| (x <<< ((Int32.ofInt (23)) &&& 31))) &&& (Int32.ofInt (16777215))
noncomputable def p_67 (x : Int32) (σ : zSg) (r : Int32) (σ' : zSg) : Prop := σ' = σ ∧ r = fSn x
theorem sp_67_e (a0 : Int32) (σ : zSg)  :
    p_67 (a0) σ (((a0 >>> ((Int32.ofInt (1)) &&& 31)) ||| (a0 <<< ((Int32.ofInt (23)) &&& 31))) &&& (Int32.ofInt (16777215))) σ := by
  exact ⟨rfl, rfl⟩
noncomputable def qP_67 : zPp := fun as σ o σ' => match as with
  | [a0] => ∃ r, o = .inl (some (.int r)) ∧ p_67 (q_i a0) σ r σ'
  | _ => True
set_option maxRecDepth 100000 in
theorem sp_67 {sx : zX}  : zEe sx 67 1 qP_67 := by
  refine zfle zJ_67 (sps := []) (fun q hq => absurd hq List.not_mem_nil) (fun as σ hl => ?_)
  match as, hl with
  | [a0], _ =>
  refine ⟨[], 400, ?_, ?_⟩
  · exact fun q hq => absurd hq List.not_mem_nil
  · exact ⟨_, rfl, sp_67_e (q_i a0) σ ⟩
theorem sh_l (x : Int32) {i : Nat} (hi : i < 32) : (x <<< ((Int32.ofInt (23)) &&& 31)).toBitVec.getLsbD i = (decide (23 ≤ i) && x.toBitVec.getLsbD (i - 23)) := by
  rw [Int32.toBitVec_shiftLeft, show ((Int32.ofInt 23 &&& 31).toBitVec.smod 32) = 23#32 from by decide, BitVec.shiftLeft_eq', show (23#32 : BitVec 32).toNat = 23 from rfl, BitVec.getLsbD_shiftLeft]
  by_cases q : i < 23
  · rw [decide_eq_true q, decide_eq_false (show ¬ 23 ≤ i by omega), decide_eq_true hi]
    rfl
  · rw [decide_eq_false q, decide_eq_true (show 23 ≤ i by omega), decide_eq_true hi]
    rfl
theorem sh_r (x : Int32) {i : Nat} (hi : i + 1 < 32) : (x >>> ((Int32.ofInt (1)) &&& 31)).toBitVec.getLsbD i = x.toBitVec.getLsbD (i + 1) := by
  rw [Int32.toBitVec_shiftRight, show ((Int32.ofInt 1 &&& 31).toBitVec.smod 32) = 1#32 from by decide, BitVec.sshiftRight_eq', show (1#32 : BitVec 32).toNat = 1 from rfl, BitVec.getLsbD_sshiftRight]
  rw [decide_eq_false (show ¬ 32 ≤ i by omega), if_pos (show 1 + i < 32 by omega), Nat.add_comm 1 i]
  rfl
theorem fSn_B (P : Nat → Bool) : fSn (fB P 24) = fB (fun h => P ((h + 1) % 24)) 24 := i_bits (fun i hi => by
  have m := List.all_eq_true.mp m1_all i (List.mem_range.mpr hi)
  rw [Bool.and_eq_true, decide_eq_true_eq, decide_eq_true_eq] at m
  unfold fSn
  rw [Int32.toBitVec_and, BitVec.getLsbD_and, m.2, Int32.toBitVec_or, BitVec.getLsbD_or, fB_bit hi 24 (by omega)]
  by_cases q : i < 24
  · rw [sh_r _ (by omega), sh_l _ hi, fB_bit (by omega) 24 (by omega), fB_bit (by omega) 24 (by omega), decide_eq_true q, Bool.and_true, Bool.true_and]
    by_cases q2 : i = 23
    · subst q2
      rfl
    · rw [decide_eq_true (show i + 1 < 24 by omega), decide_eq_false (show ¬ 23 ≤ i by omega), Bool.false_and, Bool.or_false, Bool.true_and, Nat.mod_eq_of_lt (show i + 1 < 24 by omega)]
  · rw [decide_eq_false q, Bool.and_false, Bool.false_and])
theorem fB_and (P Q : Nat → Bool) : fB P 24 &&& fB Q 24 = fB (fun h => P h && Q h) 24 := i_bits (fun i hi => by
  rw [Int32.toBitVec_and, BitVec.getLsbD_and, fB_bit hi 24 (by omega), fB_bit hi 24 (by omega), fB_bit hi 24 (by omega)]
  by_cases q : i < 24
  · rw [decide_eq_true q, Bool.true_and, Bool.true_and, Bool.true_and]
  · rw [decide_eq_false q]; rfl)
theorem fB_or (P Q : Nat → Bool) : fB P 24 ||| fB Q 24 = fB (fun h => P h || Q h) 24 := i_bits (fun i hi => by
  rw [Int32.toBitVec_or, BitVec.getLsbD_or, fB_bit hi 24 (by omega), fB_bit hi 24 (by omega), fB_bit hi 24 (by omega)]
  by_cases q : i < 24
  · rw [decide_eq_true q, Bool.true_and, Bool.true_and, Bool.true_and]
  · rw [decide_eq_false q]; rfl)
/-- does the one come behind the other, either way -/
noncomputable def fMp (A : Nat → Int32) (x y : Int32) (h : Nat) : Bool := decide (A (16 + h) = x) && decide (A (16 + (h + 1) % 24) = y)
noncomputable def fMt (A : Nat → Int32) (F G : Nat) : Int32 := fB (fun h => fMp A (Int32.ofNat F) (Int32.ofNat G) h || fMp A (Int32.ofNat G) (Int32.ofNat F) h) 24
theorem fMt_c (A : Nat → Int32) (F G : Nat) : fMt A F G = fMt A G F := fB_cg 24 (fun h _ => Bool.or_comm _ _)
theorem fMt_e (A : Nat → Int32) (F G : Nat) : (fHs A F &&& fSn (fHs A G)) ||| (fHs A G &&& fSn (fHs A F)) = fMt A F G := by
  unfold fHs
  rw [fSn_B, fSn_B, fB_and, fB_and, fB_or]
  rfl
theorem zJ_70 : zJ3 70 z_m70 z_c70 z_h70 := ⟨rfl, rfl, rfl⟩
noncomputable def p_70 (b : Nat) (f g : Int32) (σ : zSg) (r : Int32) (σ' : zSg) : Prop := σ' = σ ∧ ∀ A nf nt, hH σ b A → aI nf nt A → ∀ F G, f = Int32.ofNat F → F < nf → g = Int32.ofNat G → G < nf → r = fMt A F G
theorem sp_70_e (a0 : Nat) (a1 : Int32) (a2 : Int32) (σ : zSg) (τ1 : zSg) (r1 : Int32) (τ2 : zSg) (r2 : Int32) (τ3 : zSg) (r3 : Int32) (τ4 : zSg) (r4 : Int32) (g1 : p_28 a0 ((Int32.ofInt (1)) <<< (a1 &&& 31)) σ r1 τ1) (g2 : p_28 a0 ((Int32.ofInt (1)) <<< (a2 &&& 31)) τ1 r2 τ2) (g3 : p_67 r2 τ2 r3 τ3) (g4 : p_67 r1 τ3 r4 τ4) :
    p_70 (a0) (a1) (a2) σ ((r1 &&& r3) ||| (r2 &&& r4)) τ4 := by
  obtain ⟨ea, g1⟩ := g1
  subst ea
  obtain ⟨eb, g2⟩ := g2
  subst eb
  obtain ⟨ec, x3⟩ := g3
  subst ec
  obtain ⟨ed, x4⟩ := g4
  subst ed
  refine ⟨rfl, ?_⟩
  rintro A nf nt K I F G rfl hF rfl hG
  have y1 := g1 A K
  have y2 := g2 A K
  rw [fHo I hF] at y1
  rw [fHo I hG] at y2
  rw [x3, x4, y1, y2]
  exact fMt_e A F G
noncomputable def qP_70 : zPp := fun as σ o σ' => match as with
  | [a0, a1, a2] => ∃ r, o = .inl (some (.int r)) ∧ p_70 (q_r a0) (q_i a1) (q_i a2) σ r σ'
  | _ => True
set_option maxRecDepth 100000 in
theorem sp_70 {sx : zX} (S28 : zEe sx 28 2 qP_28) (S67 : zEe sx 67 1 qP_67) : zEe sx 70 3 qP_70 := by
  refine zfle zJ_70 (sps := [(28, 2, qP_28), (67, 1, qP_67)]) (fun q hq => by
    simp only [List.mem_cons, List.not_mem_nil, or_false] at hq
    rcases hq with rfl | rfl
    · exact S28
    · exact S67) (fun as σ hl => ?_)
  match as, hl with
  | [a0, a1, a2], _ =>
  refine ⟨[], 400, ?_, ?_⟩
  · exact fun q hq => absurd hq List.not_mem_nil
  · refine fun o1 τ1 g1 => ?_
    obtain ⟨r1, rfl, g1⟩ := g1
    refine fun o2 τ2 g2 => ?_
    obtain ⟨r2, rfl, g2⟩ := g2
    refine fun o3 τ3 g3 => ?_
    obtain ⟨r3, rfl, g3⟩ := g3
    refine fun o4 τ4 g4 => ?_
    obtain ⟨r4, rfl, g4⟩ := g4
    exact ⟨_, rfl, sp_70_e (q_r a0) (q_i a1) (q_i a2) σ τ1 r1 τ2 r2 τ3 r3 τ4 r4 g1 g2 g3 g4⟩
theorem zJ_137 : zJ3 137 z_m137 z_c137 z_h137 := ⟨rfl, rfl, rfl⟩
noncomputable def p_137 (a : Nat) (f g : Int32) (σ : zSg) (e : Int32 ⊕ Nat) (σ' : zSg) : Prop := a = 0 → ∀ A nf nt, xSk σ → hH σ 8 A → aI nf nt A → σ' = σ ∧ (¬ ((0 ≤ f.toInt ∧ f.toInt < (nf : Int)) ∧ (0 ≤ g.toInt ∧ g.toInt < (nf : Int))) → e = .inr 2) ∧ (((0 ≤ f.toInt ∧ f.toInt < (nf : Int)) ∧ (0 ≤ g.toInt ∧ g.toInt < (nf : Int))) → (f.toInt = g.toInt → e = .inr 0) ∧ (f.toInt ≠ g.toInt → ∀ F G, f = Int32.ofNat F → F < nf → g = Int32.ofNat G → G < nf → e = .inl (fMt A F G)))
theorem sp_137_ennn (a0 : Nat) (a1 : Int32) (a2 : Int32) (σ : zSg) (τ1 : zSg) (τ2 : zSg) (τ3 : zSg) (τ4 : zSg) (r4 : Int32) (g1 : p_167 a0 a1 σ (.inl 0) τ1) (g2 : p_167 a0 a2 τ1 (.inl 0) τ2) (g3 : p_171 a0 a1 a2 τ2 (.inl 0) τ3) (g4 : p_70 (q_r (τ3.1 a0 2)) a1 a2 τ3 r4 τ4) :
    p_137 (a0) (a1) (a2) σ (.inl r4) τ4 := by
  rintro rfl A nf nt X K I
  obtain ⟨e1, u1⟩ := g1
  subst e1
  have v1 := (u1 rfl X A nf K I.1.1 I.1.2.1).1 rfl
  obtain ⟨e2, u2⟩ := g2
  subst e2
  have v2 := (u2 rfl X A nf K I.1.1 I.1.2.1).1 rfl
  obtain ⟨e3, u3, -⟩ := g3
  subst e3
  have v3 := u3 rfl
  have d2 : q_r (τ3.1 0 2) = 8 := by rw [X.2.1]; rfl
  rw [d2] at g4
  obtain ⟨e4, g4⟩ := g4
  exact ⟨e4, fun q => absurd ⟨v1, v2⟩ q, fun _ => ⟨fun q => absurd q v3, fun _ F G eF hF eG hG => congrArg Sum.inl (g4 A nf nt K I F G eF hF eG hG)⟩⟩
theorem sp_137_ennx0_ (a0 : Nat) (a1 : Int32) (a2 : Int32) (σ : zSg) (τ1 : zSg) (τ2 : zSg) (τ3 : zSg) (g1 : p_167 a0 a1 σ (.inl 0) τ1) (g2 : p_167 a0 a2 τ1 (.inl 0) τ2) (g3 : p_171 a0 a1 a2 τ2 (.inr 0) τ3) :
    p_137 (a0) (a1) (a2) σ (.inr 0) τ3 := by
  rintro rfl A nf nt X K I
  obtain ⟨e1, u1⟩ := g1
  subst e1
  have v1 := (u1 rfl X A nf K I.1.1 I.1.2.1).1 rfl
  obtain ⟨e2, u2⟩ := g2
  subst e2
  have v2 := (u2 rfl X A nf K I.1.1 I.1.2.1).1 rfl
  obtain ⟨e3, -, u3⟩ := g3
  have v3 := u3 rfl
  exact ⟨e3, fun q => absurd ⟨v1, v2⟩ q, fun _ => ⟨fun _ => rfl, fun q => absurd v3 q⟩⟩
theorem sp_137_enx2_ (a0 : Nat) (a1 : Int32) (a2 : Int32) (σ : zSg) (τ1 : zSg) (τ2 : zSg) (g1 : p_167 a0 a1 σ (.inl 0) τ1) (g2 : p_167 a0 a2 τ1 (.inr 2) τ2) :
    p_137 (a0) (a1) (a2) σ (.inr 2) τ2 := by
  rintro rfl A nf nt X K I
  obtain ⟨e1, -⟩ := g1
  subst e1
  obtain ⟨e2, u2⟩ := g2
  have v2 := (u2 rfl X A nf K I.1.1 I.1.2.1).2 rfl
  exact ⟨e2, fun _ => rfl, fun q => absurd q.2 v2⟩
theorem sp_137_ex2_ (a0 : Nat) (a1 : Int32) (a2 : Int32) (σ : zSg) (τ1 : zSg) (g1 : p_167 a0 a1 σ (.inr 2) τ1) :
    p_137 (a0) (a1) (a2) σ (.inr 2) τ1 := by
  rintro rfl A nf nt X K I
  obtain ⟨e1, u1⟩ := g1
  have v1 := (u1 rfl X A nf K I.1.1 I.1.2.1).2 rfl
  exact ⟨e1, fun _ => rfl, fun q => absurd q.1 v1⟩
noncomputable def qP_137 : zPp := fun as σ o σ' => match as with
  | [a0, a1, a2] => (∃ r, o = .inl (some (.int r)) ∧ p_137 (q_r a0) (q_i a1) (q_i a2) σ (.inl r) σ') ∨ (o = .inr 2 ∧ p_137 (q_r a0) (q_i a1) (q_i a2) σ (.inr 2) σ') ∨ (o = .inr 0 ∧ p_137 (q_r a0) (q_i a1) (q_i a2) σ (.inr 0) σ')
  | _ => True
set_option maxRecDepth 100000 in
theorem sp_137 {sx : zX} (S167 : zEe sx 167 2 qP_167) (S171 : zEe sx 171 3 qP_171) (S70 : zEe sx 70 3 qP_70) : zEe sx 137 3 qP_137 := by
  refine zfle zJ_137 (sps := [(167, 2, qP_167), (171, 3, qP_171), (70, 3, qP_70)]) (fun q hq => by
    simp only [List.mem_cons, List.not_mem_nil, or_false] at hq
    rcases hq with rfl | rfl | rfl
    · exact S167
    · exact S171
    · exact S70) (fun as σ hl => ?_)
  match as, hl with
  | [a0, a1, a2], _ =>
  refine ⟨[], 400, ?_, ?_⟩
  · exact fun q hq => absurd hq List.not_mem_nil
  · refine fun o1 τ1 g1 => ?_
    rcases g1 with ⟨rfl, g1⟩ | ⟨rfl, g1⟩
    · refine fun o2 τ2 g2 => ?_
      rcases g2 with ⟨rfl, g2⟩ | ⟨rfl, g2⟩
      · refine fun o3 τ3 g3 => ?_
        rcases g3 with ⟨rfl, g3⟩ | ⟨rfl, g3⟩
        · refine fun o4 τ4 g4 => ?_
          obtain ⟨r4, rfl, g4⟩ := g4
          exact Or.inl ⟨_, rfl, sp_137_ennn (q_r a0) (q_i a1) (q_i a2) σ τ1 τ2 τ3 τ4 r4 g1 g2 g3 g4⟩
        · exact Or.inr (Or.inr (⟨rfl, sp_137_ennx0_ (q_r a0) (q_i a1) (q_i a2) σ τ1 τ2 τ3 g1 g2 g3⟩))
      · exact Or.inr (Or.inl (⟨rfl, sp_137_enx2_ (q_r a0) (q_i a1) (q_i a2) σ τ1 τ2 g1 g2⟩))
    · exact Or.inr (Or.inl (⟨rfl, sp_137_ex2_ (q_r a0) (q_i a1) (q_i a2) σ τ1 g1⟩))
theorem zJ_275 : zJ3 275 z_m275 z_c275 z_h275 := ⟨rfl, rfl, rfl⟩
noncomputable def p_275 (a : Nat) (x y h : Int32) (σ : zSg) (r : Int32) (σ' : zSg) : Prop := σ' = σ ∧ (a = 205 → ∀ A n, rW σ A → h = Int32.ofNat n → n < 24 → (r.toInt ≠ 0 ↔ fMp A x y n = true))
theorem sp_275_et (a0 : Nat) (a1 : Int32) (a2 : Int32) (a3 : Int32) (σ : zSg) (τ1 : zSg) (r1 : Int32) (g1 : p_186 a0 a3 σ r1 τ1) (h2 : r1.toInt ≠ a1.toInt) :
    p_275 (a0) (a1) (a2) (a3) σ (Int32.ofInt (0)) τ1 := by
  obtain ⟨ea, ga⟩ := g1
  subst ea
  refine ⟨rfl, ?_⟩
  intro ha A n w eh hn
  rw [ga ha A n w eh hn] at h2
  exact ⟨fun q => absurd rfl q, fun q => absurd (congrArg Int32.toInt (of_decide_eq_true (Bool.and_eq_true_iff.mp q).1)) h2⟩
theorem sp_275_eft (a0 : Nat) (a1 : Int32) (a2 : Int32) (a3 : Int32) (σ : zSg) (τ1 : zSg) (r1 : Int32) (τ3 : zSg) (r3 : Int32) (τ4 : zSg) (r4 : Int32) (g1 : p_186 a0 a3 σ r1 τ1) (h2 : r1.toInt = a1.toInt) (g3 : p_187 a3 τ1 r3 τ3) (g4 : p_186 a0 r3 τ3 r4 τ4) (h5 : r4.toInt ≠ a2.toInt) :
    p_275 (a0) (a1) (a2) (a3) σ (Int32.ofInt (0)) τ4 := by
  obtain ⟨ea, ga⟩ := g1
  subst ea
  obtain ⟨eb, gb⟩ := g3
  subst eb
  obtain ⟨ec, gc⟩ := g4
  subst ec
  refine ⟨rfl, ?_⟩
  intro ha A n w eh hn
  rw [gc ha A _ w (gb n eh hn) (Nat.mod_lt _ (by omega))] at h5
  exact ⟨fun q => absurd rfl q, fun q => absurd (congrArg Int32.toInt (of_decide_eq_true (Bool.and_eq_true_iff.mp q).2)) h5⟩
theorem sp_275_eff (a0 : Nat) (a1 : Int32) (a2 : Int32) (a3 : Int32) (σ : zSg) (τ1 : zSg) (r1 : Int32) (τ3 : zSg) (r3 : Int32) (τ4 : zSg) (r4 : Int32) (g1 : p_186 a0 a3 σ r1 τ1) (h2 : r1.toInt = a1.toInt) (g3 : p_187 a3 τ1 r3 τ3) (g4 : p_186 a0 r3 τ3 r4 τ4) (h5 : r4.toInt = a2.toInt) :
    p_275 (a0) (a1) (a2) (a3) σ (Int32.ofInt (1)) τ4 := by
  obtain ⟨ea, ga⟩ := g1
  subst ea
  obtain ⟨eb, gb⟩ := g3
  subst eb
  obtain ⟨ec, gc⟩ := g4
  subst ec
  refine ⟨rfl, ?_⟩
  intro ha A n w eh hn
  rw [ga ha A n w eh hn] at h2
  rw [gc ha A _ w (gb n eh hn) (Nat.mod_lt _ (by omega))] at h5
  exact ⟨fun _ => Bool.and_eq_true_iff.mpr ⟨decide_eq_true (Int32.toInt_inj.mp h2), decide_eq_true (Int32.toInt_inj.mp h5)⟩, fun _ => by decide⟩
noncomputable def qP_275 : zPp := fun as σ o σ' => match as with
  | [a0, a1, a2, a3] => ∃ r, o = .inl (some (.int r)) ∧ p_275 (q_r a0) (q_i a1) (q_i a2) (q_i a3) σ r σ'
  | _ => True
set_option maxRecDepth 100000 in
theorem sp_275 {sx : zX} (S186 : zEe sx 186 2 qP_186) (S187 : zEe sx 187 1 qP_187) : zEe sx 275 4 qP_275 := by
  refine zfle zJ_275 (sps := [(186, 2, qP_186), (187, 1, qP_187)]) (fun q hq => by
    simp only [List.mem_cons, List.not_mem_nil, or_false] at hq
    rcases hq with rfl | rfl
    · exact S186
    · exact S187) (fun as σ hl => ?_)
  match as, hl with
  | [a0, a1, a2, a3], _ =>
  refine ⟨[], 400, ?_, ?_⟩
  · exact fun q hq => absurd hq List.not_mem_nil
  · refine fun o1 τ1 g1 => ?_
    obtain ⟨r1, rfl, g1⟩ := g1
    refine And.intro (fun h2 => ?_) (fun h2 => ?_)
    · exact ⟨_, rfl, sp_275_et (q_r a0) (q_i a1) (q_i a2) (q_i a3) σ τ1 r1 g1 (cm1t h2)⟩
    · refine fun o3 τ3 g3 => ?_
      obtain ⟨r3, rfl, g3⟩ := g3
      refine fun o4 τ4 g4 => ?_
      obtain ⟨r4, rfl, g4⟩ := g4
      refine And.intro (fun h5 => ?_) (fun h5 => ?_)
      · exact ⟨_, rfl, sp_275_eft (q_r a0) (q_i a1) (q_i a2) (q_i a3) σ τ1 r1 τ3 r3 τ4 r4 g1 (cm1f h2) g3 g4 (cm1t h5)⟩
      · exact ⟨_, rfl, sp_275_eff (q_r a0) (q_i a1) (q_i a2) (q_i a3) σ τ1 r1 τ3 r3 τ4 r4 g1 (cm1f h2) g3 g4 (cm1f h5)⟩
theorem zJ_276 : zJ3 276 z_m276 z_c276 z_h276 := ⟨rfl, rfl, rfl⟩
noncomputable def p_276 (a : Nat) (x y : Int32) (σ : zSg) (r : Int32) (σ' : zSg) : Prop := σ' = σ ∧ (a = 205 → ∀ A, rW σ A → r = fB (fun h => fMp A x y h || fMp A y x h) 24)
noncomputable def i_276 (a : Nat) (x y : Int32) (σ : zSg) (l0 : Nat) (l1 l2 l3 l4 : Int32) (τ : zSg) : Prop := l0 = a ∧ l1 = x ∧ l2 = y ∧ τ = σ ∧ ∃ n, n ≤ 24 ∧ l4 = Int32.ofNat n ∧ (a = 205 → ∀ A, rW σ A → l3 = fB (fun h => fMp A x y h || fMp A y x h) n)
theorem sp_276_e (a0 : Nat) (a1 : Int32) (a2 : Int32) (σ : zSg)  :
    i_276 a0 a1 a2 σ a0 a1 a2 (Int32.ofInt (0)) (Int32.ofInt (0)) σ := by
  exact ⟨rfl, rfl, rfl, rfl, 0, by omega, rfl, fun _ A _ => rfl⟩
theorem sp_276_c4_t (a0 : Nat) (a1 : Int32) (a2 : Int32) (σ : zSg) (l0 : Nat) (l1 : Int32) (l2 : Int32) (l3 : Int32) (l4 : Int32) (τ : zSg) (hI : i_276 a0 a1 a2 σ l0 l1 l2 l3 l4 τ) (h1 : l4.toInt ≥ (24 : Int)) :
    p_276 (a0) (a1) (a2) σ l3 τ := by
  obtain ⟨rfl, rfl, rfl, rfl, n, hn, rfl, hI⟩ := hI
  rw [o32 (by omega)] at h1
  have : n = 24 := by omega
  subst this
  exact ⟨rfl, hI⟩
theorem sp_276_c4_ft (a0 : Nat) (a1 : Int32) (a2 : Int32) (σ : zSg) (l0 : Nat) (l1 : Int32) (l2 : Int32) (l3 : Int32) (l4 : Int32) (τ : zSg) (τ2 : zSg) (r2 : Int32) (hI : i_276 a0 a1 a2 σ l0 l1 l2 l3 l4 τ) (h1 : l4.toInt < (24 : Int)) (g2 : p_275 l0 l1 l2 l4 τ r2 τ2) (h3 : r2.toInt ≠ (0 : Int)) :
    i_276 a0 a1 a2 σ l0 l1 l2 (l3 ||| ((Int32.ofInt (1)) <<< (l4 &&& 31))) (l4 + Int32.ofInt (1)) τ2 := by
  obtain ⟨ea, ga⟩ := g2
  subst ea
  obtain ⟨rfl, rfl, rfl, rfl, n, hn, rfl, hI⟩ := hI
  rw [o32 (by omega)] at h1
  refine ⟨rfl, rfl, rfl, rfl, n + 1, by omega, o32i (by omega), fun ha A w => ?_⟩
  show _ = fB (fun h => fMp A l1 l2 h || fMp A l2 l1 h) n ||| _
  have t1 := (ga ha A n w rfl (by omega)).mp h3
  rw [if_pos (by show (fMp A l1 l2 n || fMp A l2 l1 n) = true; rw [t1]; rfl), hI ha A w]
theorem sp_276_c4_fft (a0 : Nat) (a1 : Int32) (a2 : Int32) (σ : zSg) (l0 : Nat) (l1 : Int32) (l2 : Int32) (l3 : Int32) (l4 : Int32) (τ : zSg) (τ2 : zSg) (r2 : Int32) (τ4 : zSg) (r4 : Int32) (hI : i_276 a0 a1 a2 σ l0 l1 l2 l3 l4 τ) (h1 : l4.toInt < (24 : Int)) (g2 : p_275 l0 l1 l2 l4 τ r2 τ2) (h3 : r2.toInt = (0 : Int)) (g4 : p_275 l0 l2 l1 l4 τ2 r4 τ4) (h5 : r4.toInt = (0 : Int)) :
    i_276 a0 a1 a2 σ l0 l1 l2 (l3 ||| (Int32.ofInt (0))) (l4 + Int32.ofInt (1)) τ4 := by
  obtain ⟨ea, ga⟩ := g2
  subst ea
  obtain ⟨eb, gb⟩ := g4
  subst eb
  obtain ⟨rfl, rfl, rfl, rfl, n, hn, rfl, hI⟩ := hI
  rw [o32 (by omega)] at h1
  refine ⟨rfl, rfl, rfl, rfl, n + 1, by omega, o32i (by omega), fun ha A w => ?_⟩
  show _ = fB (fun h => fMp A l1 l2 h || fMp A l2 l1 h) n ||| _
  have t1 : ¬ fMp A l1 l2 n = true := fun q => (ga ha A n w rfl (by omega)).mpr q h3
  have t2 : ¬ fMp A l2 l1 n = true := fun q => (gb ha A n w rfl (by omega)).mpr q h5
  rw [Bool.not_eq_true] at t1 t2
  rw [if_neg (fun q => by
    have q : (fMp A l1 l2 n || fMp A l2 l1 n) = true := q
    rw [t1, t2] at q
    cases q), hI ha A w]
theorem sp_276_c4_fff (a0 : Nat) (a1 : Int32) (a2 : Int32) (σ : zSg) (l0 : Nat) (l1 : Int32) (l2 : Int32) (l3 : Int32) (l4 : Int32) (τ : zSg) (τ2 : zSg) (r2 : Int32) (τ4 : zSg) (r4 : Int32) (hI : i_276 a0 a1 a2 σ l0 l1 l2 l3 l4 τ) (h1 : l4.toInt < (24 : Int)) (g2 : p_275 l0 l1 l2 l4 τ r2 τ2) (h3 : r2.toInt = (0 : Int)) (g4 : p_275 l0 l2 l1 l4 τ2 r4 τ4) (h5 : r4.toInt ≠ (0 : Int)) :
    i_276 a0 a1 a2 σ l0 l1 l2 (l3 ||| ((Int32.ofInt (1)) <<< (l4 &&& 31))) (l4 + Int32.ofInt (1)) τ4 := by
  obtain ⟨ea, ga⟩ := g2
  subst ea
  obtain ⟨eb, gb⟩ := g4
  subst eb
  obtain ⟨rfl, rfl, rfl, rfl, n, hn, rfl, hI⟩ := hI
  rw [o32 (by omega)] at h1
  refine ⟨rfl, rfl, rfl, rfl, n + 1, by omega, o32i (by omega), fun ha A w => ?_⟩
  show _ = fB (fun h => fMp A l1 l2 h || fMp A l2 l1 h) n ||| _
  have t2 := (gb ha A n w rfl (by omega)).mp h5
  rw [if_pos (by show (fMp A l1 l2 n || fMp A l2 l1 n) = true; rw [t2, Bool.or_true]), hI ha A w]
noncomputable def qP_276 : zPp := fun as σ o σ' => match as with
  | [a0, a1, a2] => ∃ r, o = .inl (some (.int r)) ∧ p_276 (q_r a0) (q_i a1) (q_i a2) σ r σ'
  | _ => True
set_option maxRecDepth 100000 in
theorem sp_276 {sx : zX} (S275 : zEe sx 275 4 qP_275) : zEe sx 276 3 qP_276 := by
  refine zfle zJ_276 (sps := [(275, 4, qP_275)]) (fun q hq => by
    simp only [List.mem_cons, List.not_mem_nil, or_false] at hq
    rcases hq with rfl
    · exact S275) (fun as σ hl => ?_)
  match as, hl with
  | [a0, a1, a2], _ =>
  refine ⟨[(4, fun lo st τ => st = [] ∧ i_276 (q_r a0) (q_i a1) (q_i a2) σ (q_r (lo 0)) (q_i (lo 1)) (q_i (lo 2)) (q_i (lo 3)) (q_i (lo 4)) τ)], 400, ?_, ?_⟩
  · intro q hq
    simp only [List.mem_cons, List.not_mem_nil, or_false] at hq
    rcases hq with rfl
    · rintro lo st τ ⟨rfl, hI⟩
      refine ⟨400, ?_⟩
      refine And.intro (fun h1 => ?_) (fun h1 => ?_)
      · exact ⟨_, rfl, sp_276_c4_t (q_r a0) (q_i a1) (q_i a2) σ (q_r (lo 0)) (q_i (lo 1)) (q_i (lo 2)) (q_i (lo 3)) (q_i (lo 4)) τ hI (cm3t h1)⟩
      · refine fun o2 τ2 g2 => ?_
        obtain ⟨r2, rfl, g2⟩ := g2
        refine And.intro (fun h3 => ?_) (fun h3 => ?_)
        · exact ⟨rfl, sp_276_c4_ft (q_r a0) (q_i a1) (q_i a2) σ (q_r (lo 0)) (q_i (lo 1)) (q_i (lo 2)) (q_i (lo 3)) (q_i (lo 4)) τ τ2 r2 hI (cm3f h1) g2 (cm1t h3)⟩
        · refine fun o4 τ4 g4 => ?_
          obtain ⟨r4, rfl, g4⟩ := g4
          refine And.intro (fun h5 => ?_) (fun h5 => ?_)
          · exact ⟨rfl, sp_276_c4_fft (q_r a0) (q_i a1) (q_i a2) σ (q_r (lo 0)) (q_i (lo 1)) (q_i (lo 2)) (q_i (lo 3)) (q_i (lo 4)) τ τ2 r2 τ4 r4 hI (cm3f h1) g2 (cm1f h3) g4 (cm0t h5)⟩
          · exact ⟨rfl, sp_276_c4_fff (q_r a0) (q_i a1) (q_i a2) σ (q_r (lo 0)) (q_i (lo 1)) (q_i (lo 2)) (q_i (lo 3)) (q_i (lo 4)) τ τ2 r2 τ4 r4 hI (cm3f h1) g2 (cm1f h3) g4 (cm0f h5)⟩
  · exact ⟨rfl, sp_276_e (q_r a0) (q_i a1) (q_i a2) σ ⟩
theorem zJ_277 : zJ3 277 z_m277 z_c277 z_h277 := ⟨rfl, rfl, rfl⟩
noncomputable def p_277 (a : Nat) (f g : Int32) (σ : zSg) (r : Int32) (σ' : zSg) : Prop := a = 205 → ∀ A nf, rW σ A → A 0 = Int32.ofNat nf → nf ≤ 6 → (¬ ((0 ≤ f.toInt ∧ f.toInt < (nf : Int)) ∧ (0 ≤ g.toInt ∧ g.toInt < (nf : Int))) → r = Int32.ofInt 0 ∧ σ' = rTh σ 1) ∧ (((0 ≤ f.toInt ∧ f.toInt < (nf : Int)) ∧ (0 ≤ g.toInt ∧ g.toInt < (nf : Int))) → (f.toInt = g.toInt → r = Int32.ofInt 0 ∧ σ' = rTh σ 2) ∧ (f.toInt ≠ g.toInt → σ' = r0 σ ∧ r = fB (fun h => fMp A f g h || fMp A g f h) 24))
theorem sp_277_et (a0 : Nat) (a1 : Int32) (a2 : Int32) (σ : zSg) (τ1 : zSg) (r1 : Int32) (g1 : p_195 a0 a1 (q_w σ a0 0 (.int (Int32.ofInt (0)))) r1 τ1) (h2 : r1.toInt ≠ (0 : Int)) :
    p_277 (a0) (a1) (a2) σ (Int32.ofInt (0)) (q_w τ1 a0 0 (.int (Int32.ofInt (1)))) := by
  rintro rfl A nf w ef hf
  have w0 : rW (r0 σ) A := w.el (by omega)
  obtain ⟨e1, u1⟩ := g1
  have e1 : τ1 = r0 σ := e1
  subst e1
  have u1 := u1 rfl A w0 nf ef hf
  exact ⟨fun _ => ⟨rfl, r0_T⟩, fun q => absurd q.1 (u1.mp h2)⟩
theorem sp_277_eftt (a0 : Nat) (a1 : Int32) (a2 : Int32) (σ : zSg) (τ1 : zSg) (r1 : Int32) (τ5 : zSg) (r5 : Int32) (τ12 : zSg) (r12 : Int32) (g1 : p_195 a0 a1 (q_w σ a0 0 (.int (Int32.ofInt (0)))) r1 τ1) (h2 : r1.toInt = (0 : Int)) (g5 : p_195 a0 a2 τ1 r5 τ5) (h6 : r5.toInt = (0 : Int)) (h9 : a1.toInt ≠ a2.toInt) (g12 : p_276 a0 a1 a2 τ5 r12 τ12) :
    p_277 (a0) (a1) (a2) σ r12 τ12 := by
  rintro rfl A nf w ef hf
  have w0 : rW (r0 σ) A := w.el (by omega)
  obtain ⟨e1, u1⟩ := g1
  have e1 : τ1 = r0 σ := e1
  subst e1
  have u1 := u1 rfl A w0 nf ef hf
  have v1 : 0 ≤ a1.toInt ∧ a1.toInt < (nf : Int) := Decidable.byContradiction (fun q => (u1.mpr q) h2)
  obtain ⟨e2, u2⟩ := g5
  have e2 : τ5 = r0 σ := e2
  subst e2
  have u2 := u2 rfl A w0 nf ef hf
  have v2 : 0 ≤ a2.toInt ∧ a2.toInt < (nf : Int) := Decidable.byContradiction (fun q => (u2.mpr q) h6)
  obtain ⟨e3, g3⟩ := g12
  exact ⟨fun q => absurd ⟨v1, v2⟩ q, fun _ => ⟨fun q => absurd q h9, fun _ => ⟨e3, g3 rfl A w0⟩⟩⟩
theorem sp_277_eftf (a0 : Nat) (a1 : Int32) (a2 : Int32) (σ : zSg) (τ1 : zSg) (r1 : Int32) (τ5 : zSg) (r5 : Int32) (g1 : p_195 a0 a1 (q_w σ a0 0 (.int (Int32.ofInt (0)))) r1 τ1) (h2 : r1.toInt = (0 : Int)) (g5 : p_195 a0 a2 τ1 r5 τ5) (h6 : r5.toInt = (0 : Int)) (h9 : a1.toInt = a2.toInt) :
    p_277 (a0) (a1) (a2) σ (Int32.ofInt (0)) (q_w τ5 a0 0 (.int (Int32.ofInt (2)))) := by
  rintro rfl A nf w ef hf
  have w0 : rW (r0 σ) A := w.el (by omega)
  obtain ⟨e1, u1⟩ := g1
  have e1 : τ1 = r0 σ := e1
  subst e1
  have u1 := u1 rfl A w0 nf ef hf
  have v1 : 0 ≤ a1.toInt ∧ a1.toInt < (nf : Int) := Decidable.byContradiction (fun q => (u1.mpr q) h2)
  obtain ⟨e2, u2⟩ := g5
  have e2 : τ5 = r0 σ := e2
  subst e2
  have u2 := u2 rfl A w0 nf ef hf
  have v2 : 0 ≤ a2.toInt ∧ a2.toInt < (nf : Int) := Decidable.byContradiction (fun q => (u2.mpr q) h6)
  exact ⟨fun q => absurd ⟨v1, v2⟩ q, fun _ => ⟨fun _ => ⟨rfl, r0_T⟩, fun q => absurd h9 q⟩⟩
theorem sp_277_eff (a0 : Nat) (a1 : Int32) (a2 : Int32) (σ : zSg) (τ1 : zSg) (r1 : Int32) (τ5 : zSg) (r5 : Int32) (g1 : p_195 a0 a1 (q_w σ a0 0 (.int (Int32.ofInt (0)))) r1 τ1) (h2 : r1.toInt = (0 : Int)) (g5 : p_195 a0 a2 τ1 r5 τ5) (h6 : r5.toInt ≠ (0 : Int)) :
    p_277 (a0) (a1) (a2) σ (Int32.ofInt (0)) (q_w τ5 a0 0 (.int (Int32.ofInt (1)))) := by
  rintro rfl A nf w ef hf
  have w0 : rW (r0 σ) A := w.el (by omega)
  obtain ⟨e1, u1⟩ := g1
  have e1 : τ1 = r0 σ := e1
  subst e1
  have u1 := u1 rfl A w0 nf ef hf
  have v1 : 0 ≤ a1.toInt ∧ a1.toInt < (nf : Int) := Decidable.byContradiction (fun q => (u1.mpr q) h2)
  obtain ⟨e2, u2⟩ := g5
  have e2 : τ5 = r0 σ := e2
  subst e2
  have u2 := u2 rfl A w0 nf ef hf
  exact ⟨fun _ => ⟨rfl, r0_T⟩, fun q => absurd q.2 (u2.mp h6)⟩
noncomputable def qP_277 : zPp := fun as σ o σ' => match as with
  | [a0, a1, a2] => ∃ r, o = .inl (some (.int r)) ∧ p_277 (q_r a0) (q_i a1) (q_i a2) σ r σ'
  | _ => True
set_option maxRecDepth 100000 in
theorem sp_277 {sx : zX} (S195 : zEe sx 195 2 qP_195) (S176 : zEe sx 176 3 qP_176) (S276 : zEe sx 276 3 qP_276) : zEe sx 277 3 qP_277 := by
  refine zfle zJ_277 (sps := [(195, 2, qP_195), (176, 3, qP_176), (276, 3, qP_276)]) (fun q hq => by
    simp only [List.mem_cons, List.not_mem_nil, or_false] at hq
    rcases hq with rfl | rfl | rfl
    · exact S195
    · exact S176
    · exact S276) (fun as σ hl => ?_)
  match as, hl with
  | [a0, a1, a2], _ =>
  refine ⟨[], 400, ?_, ?_⟩
  · exact fun q hq => absurd hq List.not_mem_nil
  · refine fun o1 τ1 g1 => ?_
    obtain ⟨r1, rfl, g1⟩ := g1
    refine And.intro (fun h2 => ?_) (fun h2 => ?_)
    · refine fun o3 τ3 g3 => ?_
      obtain ⟨r3, rfl, rfl, y3, z3⟩ := g3
      have e3 := (y3 (by decide)).symm
      subst e3
      refine And.intro (fun _ => ?_) (fun h4 => absurd (show z_cmp 1 (Int32.ofInt (1)) 0 = false from h4) (by decide))
      exact ⟨_, rfl, sp_277_et (q_r a0) (q_i a1) (q_i a2) σ τ1 r1 g1 (cm1t h2)⟩
    · refine fun o5 τ5 g5 => ?_
      obtain ⟨r5, rfl, g5⟩ := g5
      refine And.intro (fun h6 => ?_) (fun h6 => ?_)
      · refine fun o7 τ7 g7 => ?_
        obtain ⟨r7, rfl, rfl, y7, z7⟩ := g7
        have e7 := (z7 rfl).symm
        subst e7
        refine And.intro (fun h8 => absurd (show z_cmp 1 (Int32.ofInt (0)) 0 = true from h8) (by decide)) (fun _ => ?_)
        refine And.intro (fun h9 => ?_) (fun h9 => ?_)
        · refine fun o10 τ10 g10 => ?_
          obtain ⟨r10, rfl, rfl, y10, z10⟩ := g10
          have e10 := (z10 rfl).symm
          subst e10
          refine And.intro (fun _ => ?_) (fun h11 => absurd (show z_cmp 0 (Int32.ofInt (0)) 0 = false from h11) (by decide))
          refine fun o12 τ12 g12 => ?_
          obtain ⟨r12, rfl, g12⟩ := g12
          exact ⟨_, rfl, sp_277_eftt (q_r a0) (q_i a1) (q_i a2) σ τ1 r1 τ5 r5 τ12 r12 g1 (cm1f h2) g5 (cm0t h6) (cm1t h9) g12⟩
        · refine fun o13 τ13 g13 => ?_
          obtain ⟨r13, rfl, rfl, y13, z13⟩ := g13
          have e13 := (y13 (by decide)).symm
          subst e13
          refine And.intro (fun h14 => absurd (show z_cmp 0 (Int32.ofInt (1)) 0 = true from h14) (by decide)) (fun _ => ?_)
          exact ⟨_, rfl, sp_277_eftf (q_r a0) (q_i a1) (q_i a2) σ τ1 r1 τ5 r5 g1 (cm1f h2) g5 (cm0t h6) (cm1f h9)⟩
      · refine fun o15 τ15 g15 => ?_
        obtain ⟨r15, rfl, rfl, y15, z15⟩ := g15
        have e15 := (y15 (by decide)).symm
        subst e15
        refine And.intro (fun _ => ?_) (fun h16 => absurd (show z_cmp 1 (Int32.ofInt (1)) 0 = false from h16) (by decide))
        exact ⟨_, rfl, sp_277_eff (q_r a0) (q_i a1) (q_i a2) σ τ1 r1 τ5 r5 g1 (cm1f h2) g5 (cm0f h6)⟩
/-- lovers of the family a among those ahead of b; among all ahead of a -/
noncomputable def fLi (A : Nat → Int32) (a : Nat) : Nat → Int32
  | 0 => Int32.ofInt 0
  | b + 1 => fLi A a b + (if 1 < (fBc (fMt A a b)).toInt then Int32.ofInt 1 else Int32.ofInt 0)
noncomputable def fLo (A : Nat → Int32) : Nat → Int32
  | 0 => Int32.ofInt 0
  | a + 1 => fLo A a + fLi A a a
theorem zJ_72 : zJ3 72 z_m72 z_c72 z_h72 := ⟨rfl, rfl, rfl⟩
noncomputable def p_72 (b : Nat) (σ : zSg) (r : Int32) (σ' : zSg) : Prop := σ' = σ ∧ ∀ A nf nt, hH σ b A → aI nf nt A → r = fLo A nf
noncomputable def i_72 (b : Nat) (σ : zSg) (l0 : Nat) (l1 l2 : Int32) (τ : zSg) : Prop := l0 = b ∧ τ = σ ∧ ∀ A nf nt, hH σ b A → aI nf nt A → ∃ a, 1 ≤ a ∧ (a ≤ nf ∨ a = 1) ∧ l2 = Int32.ofNat a ∧ l1 = fLo A a
noncomputable def j_72 (b : Nat) (σ : zSg) (l0 : Nat) (l1 l2 l3 : Int32) (τ : zSg) : Prop := l0 = b ∧ τ = σ ∧ ∀ A nf nt, hH σ b A → aI nf nt A → ∃ a d, a < nf ∧ d ≤ a ∧ l2 = Int32.ofNat a ∧ l3 = Int32.ofNat d ∧ l1 = fLo A a + fLi A a d
theorem sp_72_e (a0 : Nat) (σ : zSg)  :
    i_72 a0 σ a0 (Int32.ofInt (0)) (Int32.ofInt (1)) σ := by
  exact ⟨rfl, rfl, fun A nf nt _ _ => ⟨1, by omega, Or.inr rfl, rfl, rfl⟩⟩
theorem sp_72_c4_t (a0 : Nat) (σ : zSg) (l0 : Nat) (l1 : Int32) (l2 : Int32) (τ : zSg) (hI : i_72 a0 σ l0 l1 l2 τ) (h1 : l2.toInt ≥ (q_i (τ.1 (q_r (τ.1 l0 1)) 4)).toInt) :
    p_72 (a0) σ l1 τ := by
  obtain ⟨rfl, rfl, hI⟩ := hI
  refine ⟨rfl, fun A nf nt K I => ?_⟩
  obtain ⟨a, ha1, ha, e2, e1⟩ := hI A nf nt K I
  have k6 := I.1.2.1
  have p0 : q_i (τ.1 (l0 + 2) 4) = A 0 := K.p hp_0
  rw [K.k hk_1, p0, I.1.1, e2, o32 (by omega), o32 (by omega)] at h1
  by_cases yh1 : nf = 0
  · have : a = 1 := by omega
    subst this
    rw [e1, yh1]
    rfl
  · have : a = nf := by omega
    subst this
    exact e1
theorem sp_72_c4_f (a0 : Nat) (σ : zSg) (l0 : Nat) (l1 : Int32) (l2 : Int32) (τ : zSg) (hI : i_72 a0 σ l0 l1 l2 τ) (h1 : l2.toInt < (q_i (τ.1 (q_r (τ.1 l0 1)) 4)).toInt) :
    j_72 a0 σ l0 l1 l2 (Int32.ofInt (0)) τ := by
  obtain ⟨rfl, rfl, hI⟩ := hI
  refine ⟨rfl, rfl, fun A nf nt K I => ?_⟩
  obtain ⟨a, ha1, ha, e2, e1⟩ := hI A nf nt K I
  have k6 := I.1.2.1
  have p0 : q_i (τ.1 (l0 + 2) 4) = A 0 := K.p hp_0
  rw [K.k hk_1, p0, I.1.1, e2, o32 (by omega), o32 (by omega)] at h1
  refine ⟨a, 0, by omega, by omega, e2, rfl, ?_⟩
  rw [e1]
  exact (Int32.add_zero _).symm
theorem sp_72_c11_t (a0 : Nat) (σ : zSg) (l0 : Nat) (l1 : Int32) (l2 : Int32) (l3 : Int32) (τ : zSg) (hI : j_72 a0 σ l0 l1 l2 l3 τ) (h2 : l3.toInt ≥ l2.toInt) :
    i_72 a0 σ l0 l1 (l2 + Int32.ofInt (1)) τ := by
  obtain ⟨rfl, rfl, hI⟩ := hI
  refine ⟨rfl, rfl, fun A nf nt K I => ?_⟩
  obtain ⟨a, b, ha, hb, e2, e3, e1⟩ := hI A nf nt K I
  have k6 := I.1.2.1
  rw [e2, e3, o32 (by omega), o32 (by omega)] at h2
  have : b = a := by omega
  subst this
  refine ⟨b + 1, by omega, by omega, by rw [e2]; exact o32i (by omega), ?_⟩
  rw [e1]
  rfl
theorem sp_72_c11_ft (a0 : Nat) (σ : zSg) (l0 : Nat) (l1 : Int32) (l2 : Int32) (l3 : Int32) (τ : zSg) (τ3 : zSg) (r3 : Int32) (τ4 : zSg) (r4 : Int32) (hI : j_72 a0 σ l0 l1 l2 l3 τ) (h2 : l3.toInt < l2.toInt) (g3 : p_70 l0 l3 l2 τ r3 τ3) (g4 : p_311 r3 τ3 r4 τ4) (h5 : r4.toInt < (2 : Int)) :
    j_72 a0 σ l0 l1 l2 (l3 + Int32.ofInt (1)) τ4 := by
  obtain ⟨ea, g1⟩ := g3
  subst ea
  obtain ⟨eb, x2⟩ := g4
  subst eb
  obtain ⟨rfl, rfl, hI⟩ := hI
  refine ⟨rfl, rfl, fun A nf nt K I => ?_⟩
  obtain ⟨a, b, ha, hb, e2, e3, e1⟩ := hI A nf nt K I
  have k6 := I.1.2.1
  rw [e2, e3, o32 (by omega), o32 (by omega)] at h2
  have y1 := g1 A nf nt K I b a e3 (by omega) e2 ha
  rw [x2, y1, fMt_c] at h5
  refine ⟨a, b + 1, ha, by omega, e2, by rw [e3]; exact o32i (by omega), ?_⟩
  show _ = fLo A a + (fLi A a b + _)
  rw [if_neg (by omega), e1]
  exact congrArg (fun x => fLo A a + x) (Int32.add_zero _).symm
theorem sp_72_c11_ff (a0 : Nat) (σ : zSg) (l0 : Nat) (l1 : Int32) (l2 : Int32) (l3 : Int32) (τ : zSg) (τ3 : zSg) (r3 : Int32) (τ4 : zSg) (r4 : Int32) (hI : j_72 a0 σ l0 l1 l2 l3 τ) (h2 : l3.toInt < l2.toInt) (g3 : p_70 l0 l3 l2 τ r3 τ3) (g4 : p_311 r3 τ3 r4 τ4) (h5 : r4.toInt ≥ (2 : Int)) :
    j_72 a0 σ l0 (l1 + Int32.ofInt (1)) l2 (l3 + Int32.ofInt (1)) τ4 := by
  obtain ⟨ea, g1⟩ := g3
  subst ea
  obtain ⟨eb, x2⟩ := g4
  subst eb
  obtain ⟨rfl, rfl, hI⟩ := hI
  refine ⟨rfl, rfl, fun A nf nt K I => ?_⟩
  obtain ⟨a, b, ha, hb, e2, e3, e1⟩ := hI A nf nt K I
  have k6 := I.1.2.1
  rw [e2, e3, o32 (by omega), o32 (by omega)] at h2
  have y1 := g1 A nf nt K I b a e3 (by omega) e2 ha
  rw [x2, y1, fMt_c] at h5
  refine ⟨a, b + 1, ha, by omega, e2, by rw [e3]; exact o32i (by omega), ?_⟩
  show _ = fLo A a + (fLi A a b + _)
  rw [if_pos (by omega), e1]
  exact Int32.add_assoc _ _ _
noncomputable def qP_72 : zPp := fun as σ o σ' => match as with
  | [a0] => ∃ r, o = .inl (some (.int r)) ∧ p_72 (q_r a0) σ r σ'
  | _ => True
set_option maxRecDepth 100000 in
theorem sp_72 {sx : zX} (S70 : zEe sx 70 3 qP_70) (S311 : zEe sx 311 1 qP_311) : zEe sx 72 1 qP_72 := by
  refine zfle zJ_72 (sps := [(70, 3, qP_70), (311, 1, qP_311)]) (fun q hq => by
    simp only [List.mem_cons, List.not_mem_nil, or_false] at hq
    rcases hq with rfl | rfl
    · exact S70
    · exact S311) (fun as σ hl => ?_)
  match as, hl with
  | [a0], _ =>
  refine ⟨[(4, fun lo st τ => st = [] ∧ i_72 (q_r a0) σ (q_r (lo 0)) (q_i (lo 1)) (q_i (lo 2)) τ), (11, fun lo st τ => st = [] ∧ j_72 (q_r a0) σ (q_r (lo 0)) (q_i (lo 1)) (q_i (lo 2)) (q_i (lo 3)) τ)], 400, ?_, ?_⟩
  · intro q hq
    simp only [List.mem_cons, List.not_mem_nil, or_false] at hq
    rcases hq with rfl | rfl
    · rintro lo st τ ⟨rfl, hI⟩
      refine ⟨400, ?_⟩
      refine And.intro (fun h1 => ?_) (fun h1 => ?_)
      · exact ⟨_, rfl, sp_72_c4_t (q_r a0) σ (q_r (lo 0)) (q_i (lo 1)) (q_i (lo 2)) τ hI (cm3t h1)⟩
      · exact ⟨rfl, sp_72_c4_f (q_r a0) σ (q_r (lo 0)) (q_i (lo 1)) (q_i (lo 2)) τ hI (cm3f h1)⟩
    · rintro lo st τ ⟨rfl, hI⟩
      refine ⟨400, ?_⟩
      refine And.intro (fun h2 => ?_) (fun h2 => ?_)
      · exact ⟨rfl, sp_72_c11_t (q_r a0) σ (q_r (lo 0)) (q_i (lo 1)) (q_i (lo 2)) (q_i (lo 3)) τ hI (cm3t h2)⟩
      · refine fun o3 τ3 g3 => ?_
        obtain ⟨r3, rfl, g3⟩ := g3
        refine fun o4 τ4 g4 => ?_
        obtain ⟨r4, rfl, g4⟩ := g4
        refine And.intro (fun h5 => ?_) (fun h5 => ?_)
        · exact ⟨rfl, sp_72_c11_ft (q_r a0) σ (q_r (lo 0)) (q_i (lo 1)) (q_i (lo 2)) (q_i (lo 3)) τ τ3 r3 τ4 r4 hI (cm3f h2) g3 g4 (cm2t h5)⟩
        · exact ⟨rfl, sp_72_c11_ff (q_r a0) σ (q_r (lo 0)) (q_i (lo 1)) (q_i (lo 2)) (q_i (lo 3)) τ τ3 r3 τ4 r4 hI (cm3f h2) g3 g4 (cm2f h5)⟩
  · exact ⟨rfl, sp_72_e (q_r a0) σ ⟩
theorem zJ_148 : zJ3 148 z_m148 z_c148 z_h148 := ⟨rfl, rfl, rfl⟩
noncomputable def p_148 (a : Nat) (σ : zSg) (r : Int32) (σ' : zSg) : Prop := a = 0 → xSk σ → σ' = σ ∧ ∀ A nf nt, hH σ 8 A → aI nf nt A → r = fLo A nf
theorem sp_148_e (a0 : Nat) (σ : zSg) (τ1 : zSg) (r1 : Int32) (g1 : p_72 (q_r (σ.1 a0 2)) σ r1 τ1) :
    p_148 (a0) σ r1 τ1 := by
  rintro rfl X
  have d2 : q_r (σ.1 0 2) = 8 := by rw [X.2.1]; rfl
  rw [d2] at g1
  exact g1
noncomputable def qP_148 : zPp := fun as σ o σ' => match as with
  | [a0] => ∃ r, o = .inl (some (.int r)) ∧ p_148 (q_r a0) σ r σ'
  | _ => True
set_option maxRecDepth 100000 in
theorem sp_148 {sx : zX} (S72 : zEe sx 72 1 qP_72) : zEe sx 148 1 qP_148 := by
  refine zfle zJ_148 (sps := [(72, 1, qP_72)]) (fun q hq => by
    simp only [List.mem_cons, List.not_mem_nil, or_false] at hq
    rcases hq with rfl
    · exact S72) (fun as σ hl => ?_)
  match as, hl with
  | [a0], _ =>
  refine ⟨[], 400, ?_, ?_⟩
  · exact fun q hq => absurd hq List.not_mem_nil
  · refine fun o1 τ1 g1 => ?_
    obtain ⟨r1, rfl, g1⟩ := g1
    exact ⟨_, rfl, sp_148_e (q_r a0) σ τ1 r1 g1⟩
theorem zJ_278 : zJ3 278 z_m278 z_c278 z_h278 := ⟨rfl, rfl, rfl⟩
noncomputable def p_278 (a : Nat) (σ : zSg) (r : Int32) (σ' : zSg) : Prop := a = 205 → ∀ A nf nt, rW σ A → aI nf nt A → σ' = r0 σ ∧ r = fLo A nf
noncomputable def i_278 (a : Nat) (σ : zSg) (l0 : Nat) (l1 l2 : Int32) (τ : zSg) : Prop := l0 = a ∧ (a = 205 → ∀ A nf nt, rW σ A → aI nf nt A → τ = r0 σ ∧ ∃ c, c ≤ nf ∧ l2 = Int32.ofNat c ∧ l1 = fLo A c)
noncomputable def j_278 (a : Nat) (σ : zSg) (l0 : Nat) (l1 l2 l3 : Int32) (τ : zSg) : Prop := l0 = a ∧ (a = 205 → ∀ A nf nt, rW σ A → aI nf nt A → τ = r0 σ ∧ ∃ c d, c < nf ∧ d ≤ c ∧ l2 = Int32.ofNat c ∧ l3 = Int32.ofNat d ∧ l1 = fLo A c + fLi A c d)
theorem sp_278_e (a0 : Nat) (σ : zSg)  :
    i_278 a0 σ a0 (Int32.ofInt (0)) (Int32.ofInt (0)) (q_w σ a0 0 (.int (Int32.ofInt (0)))) := by
  refine ⟨rfl, ?_⟩
  rintro rfl A nf nt w I
  exact ⟨rfl, 0, by omega, rfl, rfl⟩
theorem sp_278_c7_t (a0 : Nat) (σ : zSg) (l0 : Nat) (l1 : Int32) (l2 : Int32) (τ : zSg) (τ1 : zSg) (r1 : Int32) (hI : i_278 a0 σ l0 l1 l2 τ) (g1 : p_184 l0 τ r1 τ1) (h2 : l2.toInt ≥ r1.toInt) :
    p_278 (a0) σ l1 τ1 := by
  obtain ⟨ea, ga⟩ := g1
  subst ea
  obtain ⟨rfl, hI⟩ := hI
  intro h A nf nt w I
  obtain ⟨e0, a, ha, e2, e1⟩ := hI h A nf nt w I
  have k6 := I.1.2.1
  have w0 : rW τ1 A := by rw [e0]; exact w.el (by omega)
  rw [ga h A w0, I.1.1, e2, o32 (by omega), o32 (by omega)] at h2
  have : a = nf := by omega
  subst this
  exact ⟨e0, e1⟩
theorem sp_278_c7_f (a0 : Nat) (σ : zSg) (l0 : Nat) (l1 : Int32) (l2 : Int32) (τ : zSg) (τ1 : zSg) (r1 : Int32) (hI : i_278 a0 σ l0 l1 l2 τ) (g1 : p_184 l0 τ r1 τ1) (h2 : l2.toInt < r1.toInt) :
    j_278 a0 σ l0 l1 l2 (Int32.ofInt (0)) τ1 := by
  obtain ⟨ea, ga⟩ := g1
  subst ea
  obtain ⟨rfl, hI⟩ := hI
  refine ⟨rfl, ?_⟩
  intro h A nf nt w I
  obtain ⟨e0, a, ha, e2, e1⟩ := hI h A nf nt w I
  have k6 := I.1.2.1
  have w0 : rW τ1 A := by rw [e0]; exact w.el (by omega)
  rw [ga h A w0, I.1.1, e2, o32 (by omega), o32 (by omega)] at h2
  refine ⟨e0, a, 0, by omega, by omega, e2, rfl, ?_⟩
  rw [e1]
  exact (Int32.add_zero _).symm
theorem sp_278_c13_t (a0 : Nat) (σ : zSg) (l0 : Nat) (l1 : Int32) (l2 : Int32) (l3 : Int32) (τ : zSg) (hI : j_278 a0 σ l0 l1 l2 l3 τ) (h3 : l3.toInt ≥ l2.toInt) :
    i_278 a0 σ l0 l1 (l2 + Int32.ofInt (1)) τ := by
  obtain ⟨rfl, hI⟩ := hI
  refine ⟨rfl, fun h A nf nt w I => ?_⟩
  obtain ⟨e0, a, b, ha, hb, e2, e3, e1⟩ := hI h A nf nt w I
  have k6 := I.1.2.1
  rw [e2, e3, o32 (by omega), o32 (by omega)] at h3
  have : b = a := by omega
  subst this
  refine ⟨e0, b + 1, by omega, by rw [e2]; exact o32i (by omega), ?_⟩
  rw [e1]
  rfl
theorem sp_278_c13_ft (a0 : Nat) (σ : zSg) (l0 : Nat) (l1 : Int32) (l2 : Int32) (l3 : Int32) (τ : zSg) (τ4 : zSg) (r4 : Int32) (τ5 : zSg) (r5 : Int32) (hI : j_278 a0 σ l0 l1 l2 l3 τ) (h3 : l3.toInt < l2.toInt) (g4 : p_276 l0 l2 l3 τ r4 τ4) (g5 : p_311 r4 τ4 r5 τ5) (h6 : r5.toInt ≤ (1 : Int)) :
    j_278 a0 σ l0 (l1 + (Int32.ofInt (0))) l2 (l3 + Int32.ofInt (1)) τ5 := by
  obtain ⟨ea, g1⟩ := g4
  subst ea
  obtain ⟨eb, x2⟩ := g5
  subst eb
  obtain ⟨rfl, hI⟩ := hI
  refine ⟨rfl, fun h A nf nt w I => ?_⟩
  obtain ⟨e0, a, b, ha, hb, e2, e3, e1⟩ := hI h A nf nt w I
  have k6 := I.1.2.1
  have w0 : rW τ5 A := by rw [e0]; exact w.el (by omega)
  rw [e2, e3, o32 (by omega), o32 (by omega)] at h3
  have y1 := g1 h A w0
  rw [e2, e3] at y1
  have y1 : r4 = fMt A a b := y1
  rw [x2, y1] at h6
  refine ⟨e0, a, b + 1, ha, by omega, e2, by rw [e3]; exact o32i (by omega), ?_⟩
  show _ = fLo A a + (fLi A a b + _)
  rw [if_neg (by omega), e1]
  exact Int32.add_assoc _ _ _
theorem sp_278_c13_ff (a0 : Nat) (σ : zSg) (l0 : Nat) (l1 : Int32) (l2 : Int32) (l3 : Int32) (τ : zSg) (τ4 : zSg) (r4 : Int32) (τ5 : zSg) (r5 : Int32) (hI : j_278 a0 σ l0 l1 l2 l3 τ) (h3 : l3.toInt < l2.toInt) (g4 : p_276 l0 l2 l3 τ r4 τ4) (g5 : p_311 r4 τ4 r5 τ5) (h6 : r5.toInt > (1 : Int)) :
    j_278 a0 σ l0 (l1 + (Int32.ofInt (1))) l2 (l3 + Int32.ofInt (1)) τ5 := by
  obtain ⟨ea, g1⟩ := g4
  subst ea
  obtain ⟨eb, x2⟩ := g5
  subst eb
  obtain ⟨rfl, hI⟩ := hI
  refine ⟨rfl, fun h A nf nt w I => ?_⟩
  obtain ⟨e0, a, b, ha, hb, e2, e3, e1⟩ := hI h A nf nt w I
  have k6 := I.1.2.1
  have w0 : rW τ5 A := by rw [e0]; exact w.el (by omega)
  rw [e2, e3, o32 (by omega), o32 (by omega)] at h3
  have y1 := g1 h A w0
  rw [e2, e3] at y1
  have y1 : r4 = fMt A a b := y1
  rw [x2, y1] at h6
  refine ⟨e0, a, b + 1, ha, by omega, e2, by rw [e3]; exact o32i (by omega), ?_⟩
  show _ = fLo A a + (fLi A a b + _)
  rw [if_pos (by omega), e1]
  exact Int32.add_assoc _ _ _
noncomputable def qP_278 : zPp := fun as σ o σ' => match as with
  | [a0] => ∃ r, o = .inl (some (.int r)) ∧ p_278 (q_r a0) σ r σ'
  | _ => True
set_option maxRecDepth 100000 in
theorem sp_278 {sx : zX} (S184 : zEe sx 184 1 qP_184) (S276 : zEe sx 276 3 qP_276) (S311 : zEe sx 311 1 qP_311) : zEe sx 278 1 qP_278 := by
  refine zfle zJ_278 (sps := [(184, 1, qP_184), (276, 3, qP_276), (311, 1, qP_311)]) (fun q hq => by
    simp only [List.mem_cons, List.not_mem_nil, or_false] at hq
    rcases hq with rfl | rfl | rfl
    · exact S184
    · exact S276
    · exact S311) (fun as σ hl => ?_)
  match as, hl with
  | [a0], _ =>
  refine ⟨[(7, fun lo st τ => st = [] ∧ i_278 (q_r a0) σ (q_r (lo 0)) (q_i (lo 1)) (q_i (lo 2)) τ), (13, fun lo st τ => st = [] ∧ j_278 (q_r a0) σ (q_r (lo 0)) (q_i (lo 1)) (q_i (lo 2)) (q_i (lo 3)) τ)], 400, ?_, ?_⟩
  · intro q hq
    simp only [List.mem_cons, List.not_mem_nil, or_false] at hq
    rcases hq with rfl | rfl
    · rintro lo st τ ⟨rfl, hI⟩
      refine ⟨400, ?_⟩
      refine fun o1 τ1 g1 => ?_
      obtain ⟨r1, rfl, g1⟩ := g1
      refine And.intro (fun h2 => ?_) (fun h2 => ?_)
      · exact ⟨_, rfl, sp_278_c7_t (q_r a0) σ (q_r (lo 0)) (q_i (lo 1)) (q_i (lo 2)) τ τ1 r1 hI g1 (cm3t h2)⟩
      · exact ⟨rfl, sp_278_c7_f (q_r a0) σ (q_r (lo 0)) (q_i (lo 1)) (q_i (lo 2)) τ τ1 r1 hI g1 (cm3f h2)⟩
    · rintro lo st τ ⟨rfl, hI⟩
      refine ⟨400, ?_⟩
      refine And.intro (fun h3 => ?_) (fun h3 => ?_)
      · exact ⟨rfl, sp_278_c13_t (q_r a0) σ (q_r (lo 0)) (q_i (lo 1)) (q_i (lo 2)) (q_i (lo 3)) τ hI (cm3t h3)⟩
      · refine fun o4 τ4 g4 => ?_
        obtain ⟨r4, rfl, g4⟩ := g4
        refine fun o5 τ5 g5 => ?_
        obtain ⟨r5, rfl, g5⟩ := g5
        refine And.intro (fun h6 => ?_) (fun h6 => ?_)
        · exact ⟨rfl, sp_278_c13_ft (q_r a0) σ (q_r (lo 0)) (q_i (lo 1)) (q_i (lo 2)) (q_i (lo 3)) τ τ4 r4 τ5 r5 hI (cm3f h3) g4 g5 (cm5t h6)⟩
        · exact ⟨rfl, sp_278_c13_ff (q_r a0) σ (q_r (lo 0)) (q_i (lo 1)) (q_i (lo 2)) (q_i (lo 3)) τ τ4 r4 τ5 r5 hI (cm3f h3) g4 g5 (cm5f h6)⟩
  · exact ⟨rfl, sp_278_e (q_r a0) σ ⟩
noncomputable def fFe (A : Nat → Int32) : Nat → Int32
  | 0 => if fB (fun h => decide (A (16 + h) = Int32.ofInt (-1))) 24 = Int32.ofInt 0 then Int32.ofInt 0 else Int32.ofInt 1
  | n + 1 => fFe A n + (if fHs A n = Int32.ofInt 0 then Int32.ofInt 0 else Int32.ofInt 1)
noncomputable def fFw (x : Int32) : Int32 := if x.toInt < 2 then Int32.ofInt 0 else x
theorem zJ_80 : zJ3 80 z_m80 z_c80 z_h80 := ⟨rfl, rfl, rfl⟩
noncomputable def p_80 (b : Nat) (σ : zSg) (r : Int32) (σ' : zSg) : Prop := σ' = σ ∧ ∀ A nf nt, hH σ b A → aI nf nt A → r = fFw (fFe A nf)
noncomputable def i_80 (b : Nat) (σ : zSg) (l0 : Nat) (l1 l2 : Int32) (τ : zSg) : Prop := l0 = b ∧ τ = σ ∧ ∀ A nf nt, hH σ b A → aI nf nt A → ∃ n, n ≤ nf ∧ l2 = Int32.ofNat n ∧ l1 = fFe A n
theorem sp_80_et (a0 : Nat) (σ : zSg) (τ1 : zSg) (r1 : Int32) (g1 : p_71 a0 σ r1 τ1) (h2 : r1.toInt ≠ (0 : Int)) :
    i_80 a0 σ a0 (Int32.ofInt (1)) (Int32.ofInt (0)) τ1 := by
  obtain ⟨ea, g1⟩ := g1
  subst ea
  refine ⟨rfl, rfl, fun A nf nt K I => ⟨0, by omega, rfl, ?_⟩⟩
  have y1 := g1 A nf nt K I
  rw [y1] at h2
  show _ = (if fB (fun h => decide (A (16 + h) = Int32.ofInt (-1))) 24 = Int32.ofInt 0 then Int32.ofInt 0 else Int32.ofInt 1)
  rw [if_neg (fun q => h2 (by rw [q]; rfl))]
theorem sp_80_ef (a0 : Nat) (σ : zSg) (τ1 : zSg) (r1 : Int32) (g1 : p_71 a0 σ r1 τ1) (h2 : r1.toInt = (0 : Int)) :
    i_80 a0 σ a0 (Int32.ofInt (0)) (Int32.ofInt (0)) τ1 := by
  obtain ⟨ea, g1⟩ := g1
  subst ea
  refine ⟨rfl, rfl, fun A nf nt K I => ⟨0, by omega, rfl, ?_⟩⟩
  have y1 := g1 A nf nt K I
  rw [y1] at h2
  show _ = (if fB (fun h => decide (A (16 + h) = Int32.ofInt (-1))) 24 = Int32.ofInt 0 then Int32.ofInt 0 else Int32.ofInt 1)
  rw [if_pos (Int32.toInt_inj.mp h2)]
theorem sp_80_c9_tt (a0 : Nat) (σ : zSg) (l0 : Nat) (l1 : Int32) (l2 : Int32) (τ : zSg) (hI : i_80 a0 σ l0 l1 l2 τ) (h3 : l2.toInt ≥ (q_i (τ.1 (q_r (τ.1 l0 1)) 4)).toInt) (h4 : l1.toInt ≥ (2 : Int)) :
    p_80 (a0) σ l1 τ := by
  obtain ⟨rfl, rfl, hI⟩ := hI
  refine ⟨rfl, fun A nf nt K I => ?_⟩
  obtain ⟨n, hn, e2, e1⟩ := hI A nf nt K I
  have k6 := I.1.2.1
  have p0 : q_i (τ.1 (l0 + 2) 4) = A 0 := K.p hp_0
  rw [K.k hk_1, p0, I.1.1, e2, o32 (by omega), o32 (by omega)] at h3
  have : n = nf := by omega
  subst this
  rw [e1] at h4
  show _ = (if (fFe A n).toInt < 2 then Int32.ofInt 0 else fFe A n)
  rw [if_neg (by omega)]
  exact e1
theorem sp_80_c9_tf (a0 : Nat) (σ : zSg) (l0 : Nat) (l1 : Int32) (l2 : Int32) (τ : zSg) (hI : i_80 a0 σ l0 l1 l2 τ) (h3 : l2.toInt ≥ (q_i (τ.1 (q_r (τ.1 l0 1)) 4)).toInt) (h4 : l1.toInt < (2 : Int)) :
    p_80 (a0) σ (Int32.ofInt (0)) τ := by
  obtain ⟨rfl, rfl, hI⟩ := hI
  refine ⟨rfl, fun A nf nt K I => ?_⟩
  obtain ⟨n, hn, e2, e1⟩ := hI A nf nt K I
  have k6 := I.1.2.1
  have p0 : q_i (τ.1 (l0 + 2) 4) = A 0 := K.p hp_0
  rw [K.k hk_1, p0, I.1.1, e2, o32 (by omega), o32 (by omega)] at h3
  have : n = nf := by omega
  subst this
  rw [e1] at h4
  show _ = (if (fFe A n).toInt < 2 then Int32.ofInt 0 else fFe A n)
  rw [if_pos (by omega)]
theorem sp_80_c9_ft (a0 : Nat) (σ : zSg) (l0 : Nat) (l1 : Int32) (l2 : Int32) (τ : zSg) (τ5 : zSg) (r5 : Int32) (hI : i_80 a0 σ l0 l1 l2 τ) (h3 : l2.toInt < (q_i (τ.1 (q_r (τ.1 l0 1)) 4)).toInt) (g5 : p_28 l0 ((Int32.ofInt (1)) <<< (l2 &&& 31)) τ r5 τ5) (h6 : r5.toInt = (0 : Int)) :
    i_80 a0 σ l0 l1 (l2 + Int32.ofInt (1)) τ5 := by
  obtain ⟨ea, g1⟩ := g5
  subst ea
  obtain ⟨rfl, rfl, hI⟩ := hI
  refine ⟨rfl, rfl, fun A nf nt K I => ?_⟩
  obtain ⟨n, hn, e2, e1⟩ := hI A nf nt K I
  have k6 := I.1.2.1
  have p0 : q_i (τ5.1 (l0 + 2) 4) = A 0 := K.p hp_0
  rw [K.k hk_1, p0, I.1.1, e2, o32 (by omega), o32 (by omega)] at h3
  have y1 := g1 A K
  rw [e2, fHo I (show n < nf by omega)] at y1
  rw [y1] at h6
  refine ⟨n + 1, by omega, by rw [e2]; exact o32i (by omega), ?_⟩
  show _ = fFe A n + _
  rw [if_pos (Int32.toInt_inj.mp h6), e1]
  exact (Int32.add_zero _).symm
theorem sp_80_c9_ff (a0 : Nat) (σ : zSg) (l0 : Nat) (l1 : Int32) (l2 : Int32) (τ : zSg) (τ5 : zSg) (r5 : Int32) (hI : i_80 a0 σ l0 l1 l2 τ) (h3 : l2.toInt < (q_i (τ.1 (q_r (τ.1 l0 1)) 4)).toInt) (g5 : p_28 l0 ((Int32.ofInt (1)) <<< (l2 &&& 31)) τ r5 τ5) (h6 : r5.toInt ≠ (0 : Int)) :
    i_80 a0 σ l0 (l1 + Int32.ofInt (1)) (l2 + Int32.ofInt (1)) τ5 := by
  obtain ⟨ea, g1⟩ := g5
  subst ea
  obtain ⟨rfl, rfl, hI⟩ := hI
  refine ⟨rfl, rfl, fun A nf nt K I => ?_⟩
  obtain ⟨n, hn, e2, e1⟩ := hI A nf nt K I
  have k6 := I.1.2.1
  have p0 : q_i (τ5.1 (l0 + 2) 4) = A 0 := K.p hp_0
  rw [K.k hk_1, p0, I.1.1, e2, o32 (by omega), o32 (by omega)] at h3
  have y1 := g1 A K
  rw [e2, fHo I (show n < nf by omega)] at y1
  rw [y1] at h6
  refine ⟨n + 1, by omega, by rw [e2]; exact o32i (by omega), ?_⟩
  show _ = fFe A n + _
  rw [if_neg (fun q => h6 (by rw [q]; rfl)), e1]
noncomputable def qP_80 : zPp := fun as σ o σ' => match as with
  | [a0] => ∃ r, o = .inl (some (.int r)) ∧ p_80 (q_r a0) σ r σ'
  | _ => True
set_option maxRecDepth 100000 in
theorem sp_80 {sx : zX} (S71 : zEe sx 71 1 qP_71) (S28 : zEe sx 28 2 qP_28) : zEe sx 80 1 qP_80 := by
  refine zfle zJ_80 (sps := [(71, 1, qP_71), (28, 2, qP_28)]) (fun q hq => by
    simp only [List.mem_cons, List.not_mem_nil, or_false] at hq
    rcases hq with rfl | rfl
    · exact S71
    · exact S28) (fun as σ hl => ?_)
  match as, hl with
  | [a0], _ =>
  refine ⟨[(9, fun lo st τ => st = [] ∧ i_80 (q_r a0) σ (q_r (lo 0)) (q_i (lo 1)) (q_i (lo 2)) τ)], 400, ?_, ?_⟩
  · intro q hq
    simp only [List.mem_cons, List.not_mem_nil, or_false] at hq
    rcases hq with rfl
    · rintro lo st τ ⟨rfl, hI⟩
      refine ⟨400, ?_⟩
      refine And.intro (fun h3 => ?_) (fun h3 => ?_)
      · refine And.intro (fun h4 => ?_) (fun h4 => ?_)
        · exact ⟨_, rfl, sp_80_c9_tt (q_r a0) σ (q_r (lo 0)) (q_i (lo 1)) (q_i (lo 2)) τ hI (cm3t h3) (cm3t h4)⟩
        · exact ⟨_, rfl, sp_80_c9_tf (q_r a0) σ (q_r (lo 0)) (q_i (lo 1)) (q_i (lo 2)) τ hI (cm3t h3) (cm3f h4)⟩
      · refine fun o5 τ5 g5 => ?_
        obtain ⟨r5, rfl, g5⟩ := g5
        refine And.intro (fun h6 => ?_) (fun h6 => ?_)
        · exact ⟨rfl, sp_80_c9_ft (q_r a0) σ (q_r (lo 0)) (q_i (lo 1)) (q_i (lo 2)) τ τ5 r5 hI (cm3f h3) g5 (cm0t h6)⟩
        · exact ⟨rfl, sp_80_c9_ff (q_r a0) σ (q_r (lo 0)) (q_i (lo 1)) (q_i (lo 2)) τ τ5 r5 hI (cm3f h3) g5 (cm0f h6)⟩
  · refine fun o1 τ1 g1 => ?_
    obtain ⟨r1, rfl, g1⟩ := g1
    refine And.intro (fun h2 => ?_) (fun h2 => ?_)
    · exact ⟨rfl, sp_80_et (q_r a0) σ τ1 r1 g1 (cm1t h2)⟩
    · exact ⟨rfl, sp_80_ef (q_r a0) σ τ1 r1 g1 (cm1f h2)⟩
theorem zJ_141 : zJ3 141 z_m141 z_c141 z_h141 := ⟨rfl, rfl, rfl⟩
noncomputable def p_141 (a : Nat) (σ : zSg) (r : Int32) (σ' : zSg) : Prop := a = 0 → xSk σ → σ' = σ ∧ ∀ A nf nt, hH σ 8 A → aI nf nt A → r = fFw (fFe A nf)
theorem sp_141_e (a0 : Nat) (σ : zSg) (τ1 : zSg) (r1 : Int32) (g1 : p_80 (q_r (σ.1 a0 2)) σ r1 τ1) :
    p_141 (a0) σ r1 τ1 := by
  rintro rfl X
  have d2 : q_r (σ.1 0 2) = 8 := by rw [X.2.1]; rfl
  rw [d2] at g1
  exact g1
noncomputable def qP_141 : zPp := fun as σ o σ' => match as with
  | [a0] => ∃ r, o = .inl (some (.int r)) ∧ p_141 (q_r a0) σ r σ'
  | _ => True
set_option maxRecDepth 100000 in
theorem sp_141 {sx : zX} (S80 : zEe sx 80 1 qP_80) : zEe sx 141 1 qP_141 := by
  refine zfle zJ_141 (sps := [(80, 1, qP_80)]) (fun q hq => by
    simp only [List.mem_cons, List.not_mem_nil, or_false] at hq
    rcases hq with rfl
    · exact S80) (fun as σ hl => ?_)
  match as, hl with
  | [a0], _ =>
  refine ⟨[], 400, ?_, ?_⟩
  · exact fun q hq => absurd hq List.not_mem_nil
  · refine fun o1 τ1 g1 => ?_
    obtain ⟨r1, rfl, g1⟩ := g1
    exact ⟨_, rfl, sp_141_e (q_r a0) σ τ1 r1 g1⟩
theorem zJ_329 : zJ3 329 z_m329 z_c329 z_h329 := ⟨rfl, rfl, rfl⟩
noncomputable def p_329 (a : Nat) (a1 a2 : Int32) (o : Nat) (σ : zSg) (k : Int32) (σ' : zSg) : Prop := ∃ e τ, p_137 a a1 a2 σ e τ ∧ ((∃ v, e = .inl v ∧ k = Int32.ofInt 0 ∧ σ' = q_w τ o 0 (.long v.toInt64)) ∨ (e = .inr 2 ∧ k = Int32.ofInt 1 ∧ σ' = τ) ∨ (e = .inr 0 ∧ k = Int32.ofInt 2 ∧ σ' = τ))
theorem sp_329_en (a0 : Nat) (a1 : Int32) (a2 : Int32) (a3 : Nat) (σ : zSg) (τ1 : zSg) (r1 : Int32) (g1 : p_137 a0 a1 a2 σ (.inl r1) τ1) (h2 : 0 ≤ (Int32.ofInt (0)).toInt ∧ (Int32.ofInt (0)).toInt < (τ1.2.1 a3 : Int)) :
    p_329 (a0) (a1) (a2) (a3) σ (Int32.ofInt (0)) (q_w τ1 a3 (Int32.ofInt (0)).toNatClampNeg (.long r1.toInt64)) := by
  exact ⟨_, _, g1, Or.inl ⟨_, rfl, rfl, rfl⟩⟩
theorem sp_329_ex2_ (a0 : Nat) (a1 : Int32) (a2 : Int32) (a3 : Nat) (σ : zSg) (τ1 : zSg) (g1 : p_137 a0 a1 a2 σ (.inr 2) τ1) :
    p_329 (a0) (a1) (a2) (a3) σ (Int32.ofInt (1)) τ1 := by
  exact ⟨_, _, g1, Or.inr (Or.inl (⟨rfl, rfl, rfl⟩))⟩
theorem sp_329_ex0_ (a0 : Nat) (a1 : Int32) (a2 : Int32) (a3 : Nat) (σ : zSg) (τ1 : zSg) (g1 : p_137 a0 a1 a2 σ (.inr 0) τ1) :
    p_329 (a0) (a1) (a2) (a3) σ (Int32.ofInt (2)) τ1 := by
  exact ⟨_, _, g1, Or.inr (Or.inr (⟨rfl, rfl, rfl⟩))⟩
noncomputable def qP_329 : zPp := fun as σ o σ' => match as with
  | [a0, a1, a2, a3] => ∃ r, o = .inl (some (.int r)) ∧ p_329 (q_r a0) (q_i a1) (q_i a2) (q_r a3) σ r σ'
  | _ => True
set_option maxRecDepth 100000 in
theorem sp_329 {sx : zX} (S137 : zEe sx 137 3 qP_137) : zEe sx 329 4 qP_329 := by
  refine zfle zJ_329 (sps := [(137, 3, qP_137)]) (fun q hq => by
    simp only [List.mem_cons, List.not_mem_nil, or_false] at hq
    rcases hq with rfl
    · exact S137) (fun as σ hl => ?_)
  match as, hl with
  | [a0, a1, a2, a3], _ =>
  refine ⟨[], 400, ?_, ?_⟩
  · exact fun q hq => absurd hq List.not_mem_nil
  · refine fun o1 τ1 g1 => ?_
    rcases g1 with ⟨r1, rfl, g1⟩ | ⟨rfl, g1⟩ | ⟨rfl, g1⟩
    · refine fun h2 => ?_
      exact ⟨_, rfl, sp_329_en (q_r a0) (q_i a1) (q_i a2) (q_r a3) σ τ1 r1 g1 (q_inp h2)⟩
    · exact ⟨_, rfl, sp_329_ex2_ (q_r a0) (q_i a1) (q_i a2) (q_r a3) σ τ1 g1⟩
    · exact ⟨_, rfl, sp_329_ex0_ (q_r a0) (q_i a1) (q_i a2) (q_r a3) σ τ1 g1⟩
end
section
/-! how many bits a set of 24 has -/
theorem n_and (a b : Nat) : Int32.ofNat a &&& Int32.ofNat b = Int32.ofNat (a &&& b) := Int32.toBitVec_inj.mp (by
  rw [Int32.toBitVec_and]
  exact BitVec.ofNat_and.symm)
theorem n_or (a b : Nat) : Int32.ofNat a ||| Int32.ofNat b = Int32.ofNat (a ||| b) := Int32.toBitVec_inj.mp (by
  rw [Int32.toBitVec_or]
  exact BitVec.ofNat_or.symm)
theorem u_i (u : UInt32) : u.toInt32 = Int32.ofNat u.toNat := Int32.toBitVec_inj.mp (by
  show u.toBitVec = BitVec.ofNat 32 u.toBitVec.toNat
  apply BitVec.eq_of_toNat_eq
  rw [BitVec.toNat_ofNat, Nat.mod_eq_of_lt u.toBitVec.isLt])
theorem n_sr {n c : Nat} {k : UInt32} (hk : k.toNat = c) (hc : c < 32) (hn : n < 4294967296) : ((Int32.ofNat n).toUInt32 >>> k).toInt32 = Int32.ofNat (n / 2 ^ c) := by
  rw [u_i, UInt32.toNat_shiftRight, hk, Nat.mod_eq_of_lt hc, Nat.shiftRight_eq_div_pow]
  have : (Int32.ofNat n).toUInt32.toNat = n := by
    show (BitVec.ofNat 32 n).toNat = n
    rw [BitVec.toNat_ofNat, Nat.mod_eq_of_lt hn]
  rw [this]
theorem and256 {a m : Nat} (q M : Nat) (ha : a < 256) (hm : m < 256) : (a + 256 * q) &&& (m + 256 * M) = (a &&& m) + 256 * (q &&& M) := by
  have h1 := Nat.and_mod_two_pow (a := a + 256 * q) (b := m + 256 * M) (n := 8)
  have h2 := Nat.and_div_two_pow (a := a + 256 * q) (b := m + 256 * M) (n := 8)
  have e : (2 : Nat) ^ 8 = 256 := rfl
  rw [e, show (a + 256 * q) % 256 = a by omega, show (m + 256 * M) % 256 = m by omega] at h1
  rw [e, show (a + 256 * q) / 256 = q by omega, show (m + 256 * M) / 256 = M by omega] at h2
  omega
/-- the steps of the count, of numbers -/
noncomputable def nS1 (n : Nat) : Nat := n - ((n / 2) &&& 1431655765)
noncomputable def nS2 (n : Nat) : Nat := (n &&& 858993459) + ((n / 4) &&& 858993459)
noncomputable def nS3 (n : Nat) : Nat := (n + n / 16) &&& 252645135
noncomputable def nS4 (n : Nat) : Nat := n + n / 256
noncomputable def nS5 (n : Nat) : Nat := n + n / 65536
noncomputable def nS6 (n : Nat) : Nat := n &&& 63
noncomputable def bq1 (a : Nat) : Nat := a - ((a / 2) &&& 85)
noncomputable def bq2 (a : Nat) : Nat := (bq1 a &&& 51) + ((bq1 a / 4) &&& 51)
noncomputable def bq3 (a : Nat) : Nat := a % 2 + a / 2 % 2 + a / 4 % 2 + a / 8 % 2 + a / 16 % 2 + a / 32 % 2 + a / 64 % 2 + a / 128 % 2
theorem b_t1 : (List.range 256).all (fun a => (List.range 2).all (fun r => decide ((a / 2 + 128 * r) &&& 85 = (a / 2) &&& 85) && decide ((a / 2) &&& 85 ≤ a))) = true := by decide +kernel
theorem b_t1_at {a r : Nat} (ha : a < 256) (hr : r < 2) : (a / 2 + 128 * r) &&& 85 = (a / 2) &&& 85 ∧ (a / 2) &&& 85 ≤ a := by
  have := List.all_eq_true.mp (List.all_eq_true.mp b_t1 a (List.mem_range.mpr ha)) r (List.mem_range.mpr hr)
  rw [Bool.and_eq_true, decide_eq_true_eq, decide_eq_true_eq] at this
  exact this
theorem b_t2 : (List.range 256).all (fun a => (List.range 4).all (fun r => decide ((a / 4 + 64 * r) &&& 51 = (a / 4) &&& 51) && (decide (bq2 a ≤ 68) && (decide (bq2 a % 16 ≤ 4) && decide ((bq2 a + bq2 a / 16) % 16 = bq3 a))))) = true := by decide +kernel
theorem b_t2_at {a r : Nat} (ha : a < 256) (hr : r < 4) : (a / 4 + 64 * r) &&& 51 = (a / 4) &&& 51 ∧ bq2 a ≤ 68 ∧ bq2 a % 16 ≤ 4 ∧ (bq2 a + bq2 a / 16) % 16 = bq3 a := by
  have := List.all_eq_true.mp (List.all_eq_true.mp b_t2 a (List.mem_range.mpr ha)) r (List.mem_range.mpr hr)
  rw [Bool.and_eq_true, Bool.and_eq_true, Bool.and_eq_true, decide_eq_true_eq, decide_eq_true_eq, decide_eq_true_eq, decide_eq_true_eq] at this
  exact this
theorem nS1_b {a b c : Nat} (ha : a < 256) (hb : b < 256) (hc : c < 256) : nS1 (a + 256 * (b + 256 * c)) = bq1 a + 256 * (bq1 b + 256 * bq1 c) := by
  unfold nS1
  have e : (a + 256 * (b + 256 * c)) / 2 = (a / 2 + 128 * (b % 2)) + 256 * ((b / 2 + 128 * (c % 2)) + 256 * ((c / 2 + 128 * 0) + 256 * 0)) := by omega
  have em : (1431655765 : Nat) = 85 + 256 * (85 + 256 * (85 + 256 * 85)) := rfl
  obtain ⟨t1, l1⟩ := b_t1_at ha (Nat.mod_lt b (show 0 < 2 by omega))
  obtain ⟨t2, l2⟩ := b_t1_at hb (Nat.mod_lt c (show 0 < 2 by omega))
  obtain ⟨t3, l3⟩ := b_t1_at hc (show 0 < 2 by omega)
  rw [e, em, and256 _ _ (by omega) (by omega), and256 _ _ (by omega) (by omega), and256 _ _ (by omega) (by omega), t1, t2, t3, Nat.zero_and]
  unfold bq1
  omega
theorem bq1_lt {a : Nat} (h : a < 256) : bq1 a < 256 := by
  unfold bq1
  omega
theorem nS2_b {a b c : Nat} (ha : a < 256) (hb : b < 256) (hc : c < 256) : nS2 (bq1 a + 256 * (bq1 b + 256 * bq1 c)) = bq2 a + 256 * (bq2 b + 256 * bq2 c) := by
  have ka := bq1_lt ha
  have kb := bq1_lt hb
  have kc := bq1_lt hc
  unfold nS2 bq2
  generalize bq1 a = x at *
  generalize bq1 b = y at *
  generalize bq1 c = z at *
  have e : (x + 256 * (y + 256 * z)) / 4 = (x / 4 + 64 * (y % 4)) + 256 * ((y / 4 + 64 * (z % 4)) + 256 * ((z / 4 + 64 * 0) + 256 * 0)) := by omega
  have e0 : x + 256 * (y + 256 * z) = x + 256 * (y + 256 * (z + 256 * 0)) := by omega
  have em : (858993459 : Nat) = 51 + 256 * (51 + 256 * (51 + 256 * 51)) := rfl
  have t1 := (b_t2_at ka (Nat.mod_lt y (show 0 < 4 by omega))).1
  have t2 := (b_t2_at kb (Nat.mod_lt z (show 0 < 4 by omega))).1
  have t3 := (b_t2_at kc (show 0 < 4 by omega)).1
  rw [e, e0, em, and256 _ _ (by omega) (by omega), and256 _ _ (by omega) (by omega), and256 _ _ (by omega) (by omega), and256 _ _ (by omega) (by omega), and256 _ _ (by omega) (by omega), and256 _ _ (by omega) (by omega), t1, t2, t3, Nat.zero_and]
  omega
theorem nS3_b {a b c : Nat} (ha : a < 256) (hb : b < 256) (hc : c < 256) : nS3 (bq2 a + 256 * (bq2 b + 256 * bq2 c)) = bq3 a + 256 * (bq3 b + 256 * bq3 c) := by
  obtain ⟨-, a1, a2, a3⟩ := b_t2_at ha (show 0 < 4 by omega)
  obtain ⟨-, h5, h6, h7⟩ := b_t2_at hb (show 0 < 4 by omega)
  obtain ⟨-, c1, c2, c3⟩ := b_t2_at hc (show 0 < 4 by omega)
  unfold nS3
  rw [← a3, ← h7, ← c3]
  generalize bq2 a = x at *
  generalize bq2 b = y at *
  generalize bq2 c = z at *
  have e : x + 256 * (y + 256 * z) + (x + 256 * (y + 256 * z)) / 16 = (x + x / 16 + 16 * (y % 16)) + 256 * ((y + y / 16 + 16 * (z % 16)) + 256 * ((z + z / 16) + 256 * 0)) := by omega
  have em : (252645135 : Nat) = 15 + 256 * (15 + 256 * (15 + 256 * 15)) := rfl
  have m15 : ∀ n : Nat, n &&& 15 = n % 16 := fun n => Nat.and_two_pow_sub_one_eq_mod n 4
  rw [e, em, and256 _ _ (by omega) (by omega), and256 _ _ (by omega) (by omega), and256 _ _ (by omega) (by omega), m15, m15, m15, Nat.zero_and]
  omega
theorem bq3_le (a : Nat) : bq3 a ≤ 8 := by
  unfold bq3
  omega
theorem nS_all {a b c : Nat} (ha : a < 256) (hb : b < 256) (hc : c < 256) : nS6 (nS5 (nS4 (nS3 (nS2 (nS1 (a + 256 * (b + 256 * c))))))) = bq3 a + bq3 b + bq3 c := by
  rw [nS1_b ha hb hc, nS2_b ha hb hc, nS3_b ha hb hc]
  have ka := bq3_le a
  have kb := bq3_le b
  have kc := bq3_le c
  generalize bq3 a = x at *
  generalize bq3 b = y at *
  generalize bq3 c = z at *
  have h4 : nS4 (x + 256 * (y + 256 * z)) = (x + y) + 256 * (y + z) + 65536 * z := by unfold nS4; omega
  have h5 : nS5 ((x + y) + 256 * (y + z) + 65536 * z) = (x + y + z) + 256 * (y + z) + 65536 * z := by unfold nS5; omega
  rw [h4, h5]
  unfold nS6
  rw [show (63 : Nat) = 2 ^ 6 - 1 from rfl, Nat.and_two_pow_sub_one_eq_mod, show (2 : Nat) ^ 6 = 64 from rfl]
  omega
noncomputable def gS1 (x : Int32) : Int32 := x - (((x.toUInt32 >>> ((Int32.ofInt (1)).toUInt32 &&& Int32.toUInt32 31)).toInt32) &&& (Int32.ofInt (1431655765)))
noncomputable def gS2 (x : Int32) : Int32 := (x &&& (Int32.ofInt (858993459))) + (((x.toUInt32 >>> ((Int32.ofInt (2)).toUInt32 &&& Int32.toUInt32 31)).toInt32) &&& (Int32.ofInt (858993459)))
noncomputable def gS3 (x : Int32) : Int32 := (x + ((x.toUInt32 >>> ((Int32.ofInt (4)).toUInt32 &&& Int32.toUInt32 31)).toInt32)) &&& (Int32.ofInt (252645135))
noncomputable def gS4 (x : Int32) : Int32 := x + ((x.toUInt32 >>> ((Int32.ofInt (8)).toUInt32 &&& Int32.toUInt32 31)).toInt32)
noncomputable def gS5 (x : Int32) : Int32 := x + ((x.toUInt32 >>> ((Int32.ofInt (16)).toUInt32 &&& Int32.toUInt32 31)).toInt32)
noncomputable def gS6 (x : Int32) : Int32 := x &&& (Int32.ofInt (63))
theorem fBc_g (x : Int32) : fBc x = gS6 (gS5 (gS4 (gS3 (gS2 (gS1 x))))) := rfl
theorem gS1_n {n : Nat} (h : n < 4294967296) : gS1 (Int32.ofNat n) = Int32.ofNat (nS1 n) := by
  unfold gS1 nS1
  have hl : (n / 2) &&& 1431655765 ≤ n := Nat.le_trans Nat.and_le_left (Nat.div_le_self _ _)
  rw [n_sr (c := 1) (by decide) (by omega) h, show Int32.ofInt 1431655765 = Int32.ofNat 1431655765 from by decide, n_and, ← Int32.ofNat_sub _ _ hl]
theorem gS2_n {n : Nat} (h : n < 4294967296) : gS2 (Int32.ofNat n) = Int32.ofNat (nS2 n) := by
  unfold gS2 nS2
  rw [n_sr (c := 2) (by decide) (by omega) h, show Int32.ofInt 858993459 = Int32.ofNat 858993459 from by decide, n_and, n_and, ← Int32.ofNat_add]
theorem gS3_n {n : Nat} (h : n < 4294967296) : gS3 (Int32.ofNat n) = Int32.ofNat (nS3 n) := by
  unfold gS3 nS3
  rw [n_sr (c := 4) (by decide) (by omega) h, show Int32.ofInt 252645135 = Int32.ofNat 252645135 from by decide, ← Int32.ofNat_add, n_and]
theorem gS4_n {n : Nat} (h : n < 4294967296) : gS4 (Int32.ofNat n) = Int32.ofNat (nS4 n) := by
  unfold gS4 nS4
  rw [n_sr (c := 8) (by decide) (by omega) h, ← Int32.ofNat_add]
theorem gS5_n {n : Nat} (h : n < 4294967296) : gS5 (Int32.ofNat n) = Int32.ofNat (nS5 n) := by
  unfold gS5 nS5
  rw [n_sr (c := 16) (by decide) (by omega) h, ← Int32.ofNat_add]
theorem gS6_n (n : Nat) : gS6 (Int32.ofNat n) = Int32.ofNat (nS6 n) := by
  unfold gS6 nS6
  rw [show Int32.ofInt 63 = Int32.ofNat 63 from by decide, n_and]
theorem fBc_n {a b c : Nat} (ha : a < 256) (hb : b < 256) (hc : c < 256) : fBc (Int32.ofNat (a + 256 * (b + 256 * c))) = Int32.ofNat (bq3 a + bq3 b + bq3 c) := by
  have e1 := nS1_b ha hb hc
  have e2 := nS2_b ha hb hc
  have e3 := nS3_b ha hb hc
  have e := nS_all ha hb hc
  have k1 := bq1_lt ha
  have k2 := bq1_lt hb
  have k3 := bq1_lt hc
  have l1 := (b_t2_at ha (show 0 < 4 by omega)).2.1
  have l2 := (b_t2_at hb (show 0 < 4 by omega)).2.1
  have l3 := (b_t2_at hc (show 0 < 4 by omega)).2.1
  have m1 := bq3_le a
  have m2 := bq3_le b
  have m3 := bq3_le c
  have u4 : nS4 (bq3 a + 256 * (bq3 b + 256 * bq3 c)) < 4294967296 := by unfold nS4; omega
  rw [fBc_g, gS1_n (by omega), gS2_n (by rw [e1]; omega), gS3_n (by rw [e1, e2]; omega), gS4_n (by rw [e1, e2, e3]; omega), gS5_n (by rw [e1, e2, e3]; exact u4), gS6_n, e]
/-- a set's number, and how many it has -/
noncomputable def cB (P : Nat → Bool) : Nat → Nat
  | 0 => 0
  | n + 1 => cB P n + 2 ^ n * (P n).toNat
noncomputable def cNb (P : Nat → Bool) : Nat → Nat
  | 0 => 0
  | n + 1 => cNb P n + (P n).toNat
theorem bN_le (b : Bool) : b.toNat ≤ 1 := by cases b <;> decide
theorem cB_lt (P : Nat → Bool) : ∀ n, cB P n < 2 ^ n
  | 0 => by show (0 : Nat) < 1; decide
  | n + 1 => by
    have h := cB_lt P n
    have hb := bN_le (P n)
    show cB P n + 2 ^ n * (P n).toNat < 2 ^ (n + 1)
    rw [Nat.pow_succ]
    have : 2 ^ n * (P n).toNat ≤ 2 ^ n * 1 := Nat.mul_le_mul_left _ hb
    omega
theorem cB_add (P : Nat → Bool) (m : Nat) : ∀ n, cB P (m + n) = cB P m + 2 ^ m * cB (fun i => P (m + i)) n
  | 0 => rfl
  | n + 1 => by
    show cB P (m + n) + 2 ^ (m + n) * (P (m + n)).toNat = cB P m + 2 ^ m * (cB (fun i => P (m + i)) n + 2 ^ n * (P (m + n)).toNat)
    rw [cB_add P m n, Nat.mul_add, Nat.pow_add, Nat.mul_assoc, Nat.add_assoc]
theorem cNb_add (P : Nat → Bool) (m : Nat) : ∀ n, cNb P (m + n) = cNb P m + cNb (fun i => P (m + i)) n
  | 0 => rfl
  | n + 1 => by
    show cNb P (m + n) + (P (m + n)).toNat = cNb P m + (cNb (fun i => P (m + i)) n + (P (m + n)).toNat)
    rw [cNb_add P m n, Nat.add_assoc]
theorem cNb_le (P : Nat → Bool) : ∀ n, cNb P n ≤ n
  | 0 => Nat.le_refl _
  | n + 1 => by
    have h := cNb_le P n
    have hb := bN_le (P n)
    show cNb P n + (P n).toNat ≤ n + 1
    omega
theorem bq3_all : ∀ p q r s t u v w : Bool, bq3 (0 + 2 ^ 0 * p.toNat + 2 ^ 1 * q.toNat + 2 ^ 2 * r.toNat + 2 ^ 3 * s.toNat + 2 ^ 4 * t.toNat + 2 ^ 5 * u.toNat + 2 ^ 6 * v.toNat + 2 ^ 7 * w.toNat) = 0 + p.toNat + q.toNat + r.toNat + s.toNat + t.toNat + u.toNat + v.toNat + w.toNat := by decide +kernel
theorem bq3_c (P : Nat → Bool) : bq3 (cB P 8) = cNb P 8 := bq3_all (P 0) (P 1) (P 2) (P 3) (P 4) (P 5) (P 6) (P 7)
theorem sl2_all : (List.range 24).all (fun n => decide (Int32.ofInt 1 <<< (Int32.ofNat n &&& 31) = Int32.ofNat (2 ^ n))) = true := by decide +kernel
theorem fB_n (P : Nat → Bool) : ∀ n, n ≤ 24 → fB P n = Int32.ofNat (cB P n)
  | 0, _ => rfl
  | n + 1, hn => by
    have e := of_decide_eq_true (List.all_eq_true.mp sl2_all n (List.mem_range.mpr (by omega)))
    show fB P n ||| (if P n = true then Int32.ofInt 1 <<< (Int32.ofNat n &&& 31) else Int32.ofInt 0) = Int32.ofNat (cB P n + 2 ^ n * (P n).toNat)
    rw [fB_n P n (by omega)]
    by_cases h : P n = true
    · have o := Nat.two_pow_add_eq_or_of_lt (cB_lt P n) 1
      rw [if_pos h, e, n_or, h, Nat.or_comm]
      rw [Nat.mul_one] at o
      rw [← o, show true.toNat = 1 from rfl, Nat.mul_one, Nat.add_comm]
    · rw [if_neg h]
      rw [Bool.not_eq_true] at h
      rw [h]
      exact Int32.or_zero
/-- the count of bits is the count -/
theorem fBc_c (P : Nat → Bool) : fBc (fB P 24) = Int32.ofNat (cNb P 24) := by
  have e1 := cB_add P 8 16
  have e2 := cB_add (fun i => P (8 + i)) 8 8
  have f1 := cNb_add P 8 16
  have f2 := cNb_add (fun i => P (8 + i)) 8 8
  have x1 := cB_lt P 8
  have x2 := cB_lt (fun i => P (8 + i)) 8
  have x3 := cB_lt (fun i => P (8 + (8 + i))) 8
  have y1 := bq3_c P
  have y2 := bq3_c (fun i => P (8 + i))
  have y3 := bq3_c (fun i => P (8 + (8 + i)))
  have e9 : cB P 24 = cB P 8 + 256 * (cB (fun i => P (8 + i)) 8 + 256 * cB (fun i => P (8 + (8 + i))) 8) := by
    rw [show (24 : Nat) = 8 + 16 from rfl, e1, show (16 : Nat) = 8 + 8 from rfl, e2]
  have f9 : cNb P 24 = cNb P 8 + (cNb (fun i => P (8 + i)) 8 + cNb (fun i => P (8 + (8 + i))) 8) := by
    rw [show (24 : Nat) = 8 + 16 from rfl, f1, show (16 : Nat) = 8 + 8 from rfl, f2]
  rw [fB_n P 24 (by omega), e9, fBc_n x1 x2 x3, y1, y2, y3, f9, Nat.add_assoc]
theorem cN_0 {P : Nat → Bool} : ∀ n, cNb P n = 0 → ∀ i, i < n → P i = false
  | 0, _, i, hi => absurd hi (Nat.not_lt_zero i)
  | n + 1, h, i, hi => by
    have h : cNb P n + (P n).toNat = 0 := h
    by_cases q : i = n
    · subst q
      cases hp : P i
      · rfl
      · rw [hp] at h
        exact absurd h (by show ¬ cNb P i + 1 = 0; omega)
    · exact cN_0 n (by omega) i (by omega)
theorem fB_f : ∀ n, fB (fun _ => false) n = Int32.ofInt 0
  | 0 => rfl
  | n + 1 => by
    show fB (fun _ => false) n ||| Int32.ofInt 0 = Int32.ofInt 0
    rw [fB_f n]
    rfl
theorem fBc_pos (P : Nat → Bool) : (fBc (fB P 24)).toInt > 0 ↔ fB P 24 ≠ Int32.ofInt 0 := by
  have hl := cNb_le P 24
  constructor
  · intro h e
    rw [e] at h
    exact absurd h (by decide)
  · intro h
    rw [fBc_c, o32 (by omega)]
    have : cNb P 24 ≠ 0 := fun e => h (by
      rw [fB_cg (Q := fun _ => false) 24 (fun i hi => cN_0 24 e i hi)]
      exact fB_f 24)
    omega
end
section
/-! readers of both sides, exact: fewest of the reference; printed with wip/gen/gen_dw.py -/
theorem zJ_281 : zJ3 281 z_m281 z_c281 z_h281 := ⟨rfl, rfl, rfl⟩
noncomputable def p_281 (a : Nat) (σ : zSg) (r : Int32) (σ' : zSg) : Prop := a = 205 → ∀ A nf nt, rW σ A → aI nf nt A → σ' = r0 σ ∧ r = fFw (fFe A nf)
noncomputable def i_281 (a : Nat) (σ : zSg) (l0 : Nat) (l1 l2 : Int32) (τ : zSg) : Prop := l0 = a ∧ (a = 205 → ∀ A nf nt, rW σ A → aI nf nt A → τ = r0 σ ∧ ∃ n, n ≤ nf ∧ l2 = Int32.ofNat n ∧ l1 = fFe A n)
theorem sp_281_et (a0 : Nat) (σ : zSg) (τ1 : zSg) (r1 : Int32) (g1 : p_242 a0 (Int32.ofInt (-1)) (q_w σ a0 0 (.int (Int32.ofInt (0)))) r1 τ1) (h2 : r1.toInt = (0 : Int)) :
    i_281 a0 σ a0 (Int32.ofInt (0)) (Int32.ofInt (0)) τ1 := by
  obtain ⟨ea, g1⟩ := g1
  subst ea
  refine ⟨rfl, ?_⟩
  rintro rfl A nf nt w I
  have w0 : rW (r0 σ) A := w.el (by omega)
  refine ⟨rfl, 0, by omega, rfl, ?_⟩
  have y1 := g1 rfl A w0
  rw [y1] at h2
  show _ = (if fB (fun h => decide (A (16 + h) = Int32.ofInt (-1))) 24 = Int32.ofInt 0 then Int32.ofInt 0 else Int32.ofInt 1)
  rw [if_pos (Int32.toInt_inj.mp h2)]
theorem sp_281_ef (a0 : Nat) (σ : zSg) (τ1 : zSg) (r1 : Int32) (g1 : p_242 a0 (Int32.ofInt (-1)) (q_w σ a0 0 (.int (Int32.ofInt (0)))) r1 τ1) (h2 : r1.toInt ≠ (0 : Int)) :
    i_281 a0 σ a0 (Int32.ofInt (1)) (Int32.ofInt (0)) τ1 := by
  obtain ⟨ea, g1⟩ := g1
  subst ea
  refine ⟨rfl, ?_⟩
  rintro rfl A nf nt w I
  have w0 : rW (r0 σ) A := w.el (by omega)
  refine ⟨rfl, 0, by omega, rfl, ?_⟩
  have y1 := g1 rfl A w0
  rw [y1] at h2
  show _ = (if fB (fun h => decide (A (16 + h) = Int32.ofInt (-1))) 24 = Int32.ofInt 0 then Int32.ofInt 0 else Int32.ofInt 1)
  rw [if_neg (fun q => h2 (by rw [q]; rfl))]
theorem sp_281_c13_tt (a0 : Nat) (σ : zSg) (l0 : Nat) (l1 : Int32) (l2 : Int32) (τ : zSg) (τ3 : zSg) (r3 : Int32) (hI : i_281 a0 σ l0 l1 l2 τ) (g3 : p_184 l0 τ r3 τ3) (h4 : l2.toInt ≥ r3.toInt) (h5 : l1.toInt ≥ (2 : Int)) :
    p_281 (a0) σ l1 τ3 := by
  obtain ⟨ea, ga⟩ := g3
  subst ea
  obtain ⟨rfl, hI⟩ := hI
  intro h A nf nt w I
  obtain ⟨e0, n, hn, e2, e1⟩ := hI h A nf nt w I
  have k6 := I.1.2.1
  have w0 : rW τ3 A := by rw [e0]; exact w.el (by omega)
  rw [ga h A w0, I.1.1, e2, o32 (by omega), o32 (by omega)] at h4
  have : n = nf := by omega
  subst this
  refine ⟨e0, ?_⟩
  rw [e1] at h5
  show _ = (if (fFe A n).toInt < 2 then Int32.ofInt 0 else fFe A n)
  rw [if_neg (by omega)]
  exact e1
theorem sp_281_c13_tf (a0 : Nat) (σ : zSg) (l0 : Nat) (l1 : Int32) (l2 : Int32) (τ : zSg) (τ3 : zSg) (r3 : Int32) (hI : i_281 a0 σ l0 l1 l2 τ) (g3 : p_184 l0 τ r3 τ3) (h4 : l2.toInt ≥ r3.toInt) (h5 : l1.toInt < (2 : Int)) :
    p_281 (a0) σ (Int32.ofInt (0)) τ3 := by
  obtain ⟨ea, ga⟩ := g3
  subst ea
  obtain ⟨rfl, hI⟩ := hI
  intro h A nf nt w I
  obtain ⟨e0, n, hn, e2, e1⟩ := hI h A nf nt w I
  have k6 := I.1.2.1
  have w0 : rW τ3 A := by rw [e0]; exact w.el (by omega)
  rw [ga h A w0, I.1.1, e2, o32 (by omega), o32 (by omega)] at h4
  have : n = nf := by omega
  subst this
  refine ⟨e0, ?_⟩
  rw [e1] at h5
  show _ = (if (fFe A n).toInt < 2 then Int32.ofInt 0 else fFe A n)
  rw [if_pos (by omega)]
theorem sp_281_c13_ft (a0 : Nat) (σ : zSg) (l0 : Nat) (l1 : Int32) (l2 : Int32) (τ : zSg) (τ3 : zSg) (r3 : Int32) (τ6 : zSg) (r6 : Int32) (hI : i_281 a0 σ l0 l1 l2 τ) (g3 : p_184 l0 τ r3 τ3) (h4 : l2.toInt < r3.toInt) (g6 : p_243 l0 l2 τ3 r6 τ6) (h7 : r6.toInt ≤ (0 : Int)) :
    i_281 a0 σ l0 (l1 + (Int32.ofInt (0))) (l2 + Int32.ofInt (1)) τ6 := by
  obtain ⟨ea, ga⟩ := g3
  subst ea
  obtain ⟨eb, gb⟩ := g6
  subst eb
  obtain ⟨rfl, hI⟩ := hI
  refine ⟨rfl, ?_⟩
  intro h A nf nt w I
  obtain ⟨e0, n, hn, e2, e1⟩ := hI h A nf nt w I
  have k6 := I.1.2.1
  have w0 : rW τ6 A := by rw [e0]; exact w.el (by omega)
  rw [ga h A w0, I.1.1, e2, o32 (by omega), o32 (by omega)] at h4
  have y1 := gb h A w0
  rw [e2] at y1
  have y1 : r6 = fBc (fHs A n) := y1
  rw [y1] at h7
  refine ⟨e0, n + 1, by omega, by rw [e2]; exact o32i (by omega), ?_⟩
  show _ = fFe A n + _
  have q1 : fHs A n = Int32.ofInt 0 := Decidable.byContradiction (fun q => absurd (show (fBc (fHs A n)).toInt > 0 from (fBc_pos _).mpr q) (by omega))
  rw [if_pos q1, e1]
theorem sp_281_c13_ff (a0 : Nat) (σ : zSg) (l0 : Nat) (l1 : Int32) (l2 : Int32) (τ : zSg) (τ3 : zSg) (r3 : Int32) (τ6 : zSg) (r6 : Int32) (hI : i_281 a0 σ l0 l1 l2 τ) (g3 : p_184 l0 τ r3 τ3) (h4 : l2.toInt < r3.toInt) (g6 : p_243 l0 l2 τ3 r6 τ6) (h7 : r6.toInt > (0 : Int)) :
    i_281 a0 σ l0 (l1 + (Int32.ofInt (1))) (l2 + Int32.ofInt (1)) τ6 := by
  obtain ⟨ea, ga⟩ := g3
  subst ea
  obtain ⟨eb, gb⟩ := g6
  subst eb
  obtain ⟨rfl, hI⟩ := hI
  refine ⟨rfl, ?_⟩
  intro h A nf nt w I
  obtain ⟨e0, n, hn, e2, e1⟩ := hI h A nf nt w I
  have k6 := I.1.2.1
  have w0 : rW τ6 A := by rw [e0]; exact w.el (by omega)
  rw [ga h A w0, I.1.1, e2, o32 (by omega), o32 (by omega)] at h4
  have y1 := gb h A w0
  rw [e2] at y1
  have y1 : r6 = fBc (fHs A n) := y1
  rw [y1] at h7
  refine ⟨e0, n + 1, by omega, by rw [e2]; exact o32i (by omega), ?_⟩
  show _ = fFe A n + _
  rw [if_neg (show fHs A n ≠ Int32.ofInt 0 from (fBc_pos _).mp h7), e1]
noncomputable def qP_281 : zPp := fun as σ o σ' => match as with
  | [a0] => ∃ r, o = .inl (some (.int r)) ∧ p_281 (q_r a0) σ r σ'
  | _ => True
set_option maxRecDepth 100000 in
theorem sp_281 {sx : zX} (S242 : zEe sx 242 2 qP_242) (S184 : zEe sx 184 1 qP_184) (S243 : zEe sx 243 2 qP_243) : zEe sx 281 1 qP_281 := by
  refine zfle zJ_281 (sps := [(242, 2, qP_242), (184, 1, qP_184), (243, 2, qP_243)]) (fun q hq => by
    simp only [List.mem_cons, List.not_mem_nil, or_false] at hq
    rcases hq with rfl | rfl | rfl
    · exact S242
    · exact S184
    · exact S243) (fun as σ hl => ?_)
  match as, hl with
  | [a0], _ =>
  refine ⟨[(13, fun lo st τ => st = [] ∧ i_281 (q_r a0) σ (q_r (lo 0)) (q_i (lo 1)) (q_i (lo 2)) τ)], 400, ?_, ?_⟩
  · intro q hq
    simp only [List.mem_cons, List.not_mem_nil, or_false] at hq
    rcases hq with rfl
    · rintro lo st τ ⟨rfl, hI⟩
      refine ⟨400, ?_⟩
      refine fun o3 τ3 g3 => ?_
      obtain ⟨r3, rfl, g3⟩ := g3
      refine And.intro (fun h4 => ?_) (fun h4 => ?_)
      · refine And.intro (fun h5 => ?_) (fun h5 => ?_)
        · exact ⟨_, rfl, sp_281_c13_tt (q_r a0) σ (q_r (lo 0)) (q_i (lo 1)) (q_i (lo 2)) τ τ3 r3 hI g3 (cm3t h4) (cm3t h5)⟩
        · exact ⟨_, rfl, sp_281_c13_tf (q_r a0) σ (q_r (lo 0)) (q_i (lo 1)) (q_i (lo 2)) τ τ3 r3 hI g3 (cm3t h4) (cm3f h5)⟩
      · refine fun o6 τ6 g6 => ?_
        obtain ⟨r6, rfl, g6⟩ := g6
        refine And.intro (fun h7 => ?_) (fun h7 => ?_)
        · exact ⟨rfl, sp_281_c13_ft (q_r a0) σ (q_r (lo 0)) (q_i (lo 1)) (q_i (lo 2)) τ τ3 r3 τ6 r6 hI g3 (cm3f h4) g6 (cm5t h7)⟩
        · exact ⟨rfl, sp_281_c13_ff (q_r a0) σ (q_r (lo 0)) (q_i (lo 1)) (q_i (lo 2)) τ τ3 r3 τ6 r6 hI g3 (cm3f h4) g6 (cm5f h7)⟩
  · refine fun o1 τ1 g1 => ?_
    obtain ⟨r1, rfl, g1⟩ := g1
    refine And.intro (fun h2 => ?_) (fun h2 => ?_)
    · exact ⟨rfl, sp_281_et (q_r a0) σ τ1 r1 g1 (cm0t h2)⟩
    · exact ⟨rfl, sp_281_ef (q_r a0) σ τ1 r1 g1 (cm0f h2)⟩
end
section
/-! readers of both sides, exact: worth; printed with wip/gen/gen_dx.py -/
/-- is the hour wished by some of the set among the first families -/
noncomputable def fWq (A : Nat → Int32) (s : Int32) (h : Nat) : Nat → Bool
  | 0 => false
  | n + 1 => fWq A s h n || (btb s (Int32.ofNat n) && btb (A (43 + 4 * n)) (Int32.ofNat h))
/-- held by some of the set -/
noncomputable def fWh (A : Nat → Int32) (s : Int32) (h : Nat) : Bool := decide (A (16 + h) ≠ Int32.ofInt (-1)) && btb s (A (16 + h))
noncomputable def fWn (h : Nat) : Bool := decide (h < 6 ∨ 21 < h)
noncomputable def fWv (A : Nat → Int32) (s : Int32) (nf h : Nat) : Nat := if fWh A s h = true then (if fWn h = true then 3 else if fWq A s h nf = true then 2 else 1) else 0
noncomputable def fWs (A : Nat → Int32) (s : Int32) (nf : Nat) : Nat → Nat
  | 0 => 0
  | n + 1 => fWs A s nf n + fWv A s nf n
theorem fWv_le (A : Nat → Int32) (s : Int32) (nf h : Nat) : fWv A s nf h ≤ 3 := by
  unfold fWv
  split
  · split
    · omega
    · split <;> omega
  · omega
theorem fWs_le (A : Nat → Int32) (s : Int32) (nf : Nat) : ∀ n, fWs A s nf n ≤ 3 * n
  | 0 => Nat.le_refl _
  | n + 1 => by
    have h := fWs_le A s nf n
    have yh2 := fWv_le A s nf n
    show fWs A s nf n + fWv A s nf n ≤ 3 * (n + 1)
    omega
theorem fWs_c (A : Nat → Int32) (s : Int32) (nf : Nat) : ∀ n, fWs A s nf n = 3 * cNb (fun h => fWh A s h && fWn h) n + cNb (fun h => fWh A s h && !fWn h) n + cNb (fun h => (fWh A s h && !fWn h) && fWq A s h nf) n
  | 0 => rfl
  | n + 1 => by
    show fWs A s nf n + fWv A s nf n = 3 * (cNb (fun h => fWh A s h && fWn h) n + (fWh A s n && fWn n).toNat) + (cNb (fun h => fWh A s h && !fWn h) n + (fWh A s n && !fWn n).toNat) + (cNb (fun h => (fWh A s h && !fWn h) && fWq A s h nf) n + ((fWh A s n && !fWn n) && fWq A s n nf).toNat)
    rw [fWs_c A s nf n]
    have e : fWv A s nf n = 3 * (fWh A s n && fWn n).toNat + (fWh A s n && !fWn n).toNat + ((fWh A s n && !fWn n) && fWq A s n nf).toNat := by
      unfold fWv
      cases fWh A s n <;> cases fWn n <;> cases fWq A s n nf <;> rfl
    rw [e]
    omega
theorem fB_k {P Q : Nat → Bool} {x : Int32} (h : ∀ i, i < 24 → x.toBitVec.getLsbD i = Q i) : fB P 24 &&& x = fB (fun h => P h && Q h) 24 := i_bits (fun i hi => by
  rw [Int32.toBitVec_and, BitVec.getLsbD_and, fB_bit hi 24 (by omega), fB_bit hi 24 (by omega)]
  by_cases q : i < 24
  · rw [h i q, decide_eq_true q, Bool.true_and, Bool.true_and]
  · rw [decide_eq_false q, Bool.false_and, Bool.false_and, Bool.false_and])
theorem nt_all : (List.range 24).all (fun i => decide ((Int32.ofInt 12582975).toBitVec.getLsbD i = fWn i) && decide ((Int32.ofInt (-12582976)).toBitVec.getLsbD i = !fWn i)) = true := by decide +kernel
theorem nt_at {i : Nat} (h : i < 24) : (Int32.ofInt 12582975).toBitVec.getLsbD i = fWn i ∧ (Int32.ofInt (-12582976)).toBitVec.getLsbD i = !fWn i := by
  have := List.all_eq_true.mp nt_all i (List.mem_range.mpr h)
  rw [Bool.and_eq_true, decide_eq_true_eq, decide_eq_true_eq] at this
  exact this
theorem sm_all : (List.range 32).all (fun i => decide ((Int32.ofNat i &&& 31).toBitVec.smod 32 = BitVec.ofNat 32 i)) = true := by decide +kernel
theorem btb_at (x : Int32) {i : Nat} (hi : i < 32) : btb x (Int32.ofNat i) = x.toBitVec.getLsbD i := by
  rw [btb_g, Int32.toBitVec_shiftRight, of_decide_eq_true (List.all_eq_true.mp sm_all i (List.mem_range.mpr hi)), BitVec.sshiftRight_eq', BitVec.toNat_ofNat, Nat.mod_eq_of_lt (show i < 2 ^ 32 by omega), BitVec.getLsbD_sshiftRight]
  rw [decide_eq_false (show ¬ 32 ≤ 0 by omega), if_pos (show i + 0 < 32 by omega)]
  rfl
noncomputable def fWb (A : Nat → Int32) (s : Int32) : Nat → Int32
  | 0 => Int32.ofInt 0
  | n + 1 => if btb s (Int32.ofNat n) = true then fWb A s n ||| A (43 + 4 * n) else fWb A s n
theorem fWb_bit (A : Nat → Int32) (s : Int32) {i : Nat} (hi : i < 24) : ∀ n, (fWb A s n).toBitVec.getLsbD i = fWq A s i n
  | 0 => z0_bit
  | n + 1 => by
    show (if btb s (Int32.ofNat n) = true then fWb A s n ||| A (43 + 4 * n) else fWb A s n).toBitVec.getLsbD i = (fWq A s i n || (btb s (Int32.ofNat n) && btb (A (43 + 4 * n)) (Int32.ofNat i)))
    by_cases q : btb s (Int32.ofNat n) = true
    · rw [if_pos q, Int32.toBitVec_or, BitVec.getLsbD_or, fWb_bit A s hi n, q, Bool.true_and, btb_at _ (by omega)]
    · rw [if_neg q, fWb_bit A s hi n]
      rw [Bool.not_eq_true] at q
      rw [q, Bool.false_and, Bool.or_false]
theorem zJ_15 : zJ3 15 z_m15 z_c15 z_h15 := ⟨rfl, rfl, rfl⟩
noncomputable def p_15 (a : Nat) (s : Int32) (σ : zSg) (r : Int32) (σ' : zSg) : Prop := σ' = σ ∧ ∀ b H nf, a = b + 2 → hH σ b H → H 0 = Int32.ofNat nf → nf ≤ 6 → r = fWb H s nf
noncomputable def i_15 (a : Nat) (s : Int32) (σ : zSg) (l0 : Nat) (l1 l2 l3 : Int32) (τ : zSg) : Prop := l0 = a ∧ l1 = s ∧ τ = σ ∧ ∀ b H nf, a = b + 2 → hH σ b H → H 0 = Int32.ofNat nf → nf ≤ 6 → ∃ n, n ≤ nf ∧ l3 = Int32.ofNat n ∧ l2 = fWb H s n
theorem sp_15_e (a0 : Nat) (a1 : Int32) (σ : zSg)  :
    i_15 a0 a1 σ a0 a1 (Int32.ofInt (0)) (Int32.ofInt (0)) σ := by
  exact ⟨rfl, rfl, rfl, fun b H nf _ _ _ _ => ⟨0, by omega, rfl, rfl⟩⟩
theorem sp_15_c4_t (a0 : Nat) (a1 : Int32) (σ : zSg) (l0 : Nat) (l1 : Int32) (l2 : Int32) (l3 : Int32) (τ : zSg) (hI : i_15 a0 a1 σ l0 l1 l2 l3 τ) (h1 : l3.toInt ≥ (q_i (τ.1 l0 4)).toInt) :
    p_15 (a0) (a1) σ l2 τ := by
  obtain ⟨rfl, rfl, rfl, hI⟩ := hI
  refine ⟨rfl, ?_⟩
  rintro b H nf rfl K e0 yh6
  obtain ⟨n, hn, e3, e2⟩ := hI b H nf rfl K e0 yh6
  subst e3
  rw [K.p hp_0, e0, o32 (by omega), o32 (by omega)] at h1
  have : n = nf := by omega
  subst this
  exact e2
theorem sp_15_c4_ft (a0 : Nat) (a1 : Int32) (σ : zSg) (l0 : Nat) (l1 : Int32) (l2 : Int32) (l3 : Int32) (τ : zSg) (hI : i_15 a0 a1 σ l0 l1 l2 l3 τ) (h1 : l3.toInt < (q_i (τ.1 l0 4)).toInt) (h2 : ((l1 >>> (l3 &&& 31)) &&& (Int32.ofInt (1))).toInt ≠ (1 : Int)) :
    i_15 a0 a1 σ l0 l1 l2 (l3 + Int32.ofInt (1)) τ := by
  obtain ⟨rfl, rfl, rfl, hI⟩ := hI
  refine ⟨rfl, rfl, rfl, ?_⟩
  rintro b H nf rfl K e0 yh6
  obtain ⟨n, hn, e3, e2⟩ := hI b H nf rfl K e0 yh6
  subst e3
  rw [K.p hp_0, e0, o32 (by omega), o32 (by omega)] at h1
  refine ⟨n + 1, by omega, o32i (by omega), ?_⟩
  show _ = (if btb l1 (Int32.ofNat n) = true then fWb H l1 n ||| H (43 + 4 * n) else fWb H l1 n)
  rw [if_neg (show ¬ btb l1 (Int32.ofNat n) = true from fun q => h2 (of_decide_eq_true q)), e2]
theorem sp_15_c4_ff (a0 : Nat) (a1 : Int32) (σ : zSg) (l0 : Nat) (l1 : Int32) (l2 : Int32) (l3 : Int32) (τ : zSg) (hI : i_15 a0 a1 σ l0 l1 l2 l3 τ) (h1 : l3.toInt < (q_i (τ.1 l0 4)).toInt) (h2 : ((l1 >>> (l3 &&& 31)) &&& (Int32.ofInt (1))).toInt = (1 : Int)) (h3 : 0 ≤ l3.toInt ∧ l3.toInt < (τ.2.1 (q_r (τ.1 l0 3)) : Int)) :
    i_15 a0 a1 σ l0 l1 (l2 ||| (q_i (τ.1 (q_r (τ.1 l0 3)) l3.toNatClampNeg))) (l3 + Int32.ofInt (1)) τ := by
  obtain ⟨rfl, rfl, rfl, hI⟩ := hI
  refine ⟨rfl, rfl, rfl, ?_⟩
  rintro b H nf rfl K e0 yh6
  obtain ⟨n, hn, e3, e2⟩ := hI b H nf rfl K e0 yh6
  subst e3
  rw [K.p hp_0, e0, o32 (by omega), o32 (by omega)] at h1
  refine ⟨n + 1, by omega, o32i (by omega), ?_⟩
  show _ = (if btb l1 (Int32.ofNat n) = true then fWb H l1 n ||| H (43 + 4 * n) else fWb H l1 n)
  have x1 : q_i (τ.1 (q_r (τ.1 (b + 2) 3)) (Int32.ofNat n).toNatClampNeg) = H (43 + 4 * n) := by
    rw [K.k hk_f3, o32n (by omega)]
    exact K.p (hp_f3 (by omega))
  rw [x1, if_pos (show btb l1 (Int32.ofNat n) = true from decide_eq_true h2), e2]
noncomputable def qP_15 : zPp := fun as σ o σ' => match as with
  | [a0, a1] => ∃ r, o = .inl (some (.int r)) ∧ p_15 (q_r a0) (q_i a1) σ r σ'
  | _ => True
set_option maxRecDepth 100000 in
theorem sp_15 {sx : zX}  : zEe sx 15 2 qP_15 := by
  refine zfle zJ_15 (sps := []) (fun q hq => absurd hq List.not_mem_nil) (fun as σ hl => ?_)
  match as, hl with
  | [a0, a1], _ =>
  refine ⟨[(4, fun lo st τ => st = [] ∧ i_15 (q_r a0) (q_i a1) σ (q_r (lo 0)) (q_i (lo 1)) (q_i (lo 2)) (q_i (lo 3)) τ)], 400, ?_, ?_⟩
  · intro q hq
    simp only [List.mem_cons, List.not_mem_nil, or_false] at hq
    rcases hq with rfl
    · rintro lo st τ ⟨rfl, hI⟩
      refine ⟨400, ?_⟩
      refine And.intro (fun h1 => ?_) (fun h1 => ?_)
      · exact ⟨_, rfl, sp_15_c4_t (q_r a0) (q_i a1) σ (q_r (lo 0)) (q_i (lo 1)) (q_i (lo 2)) (q_i (lo 3)) τ hI (cm3t h1)⟩
      · refine And.intro (fun h2 => ?_) (fun h2 => ?_)
        · exact ⟨rfl, sp_15_c4_ft (q_r a0) (q_i a1) σ (q_r (lo 0)) (q_i (lo 1)) (q_i (lo 2)) (q_i (lo 3)) τ hI (cm3f h1) (cm1t h2)⟩
        · refine fun h3 => ?_
          exact ⟨rfl, sp_15_c4_ff (q_r a0) (q_i a1) σ (q_r (lo 0)) (q_i (lo 1)) (q_i (lo 2)) (q_i (lo 3)) τ hI (cm3f h1) (cm1f h2) (q_inp h3)⟩
  · exact ⟨rfl, sp_15_e (q_r a0) (q_i a1) σ ⟩
theorem zJ_110 : zJ3 110 z_m110 z_c110 z_h110 := ⟨rfl, rfl, rfl⟩
noncomputable def p_110 (b : Nat) (s : Int32) (σ : zSg) (r : Int32) (σ' : zSg) : Prop := σ' = σ ∧ ∀ A nf, hH σ b A → A 0 = Int32.ofNat nf → nf ≤ 6 → r = Int32.ofNat (fWs A s nf 24)
theorem sp_110_e (a0 : Nat) (a1 : Int32) (σ : zSg) (τ1 : zSg) (r1 : Int32) (τ2 : zSg) (r2 : Int32) (τ3 : zSg) (r3 : Int32) (τ4 : zSg) (r4 : Int32) (τ5 : zSg) (r5 : Int32) (g1 : p_28 a0 a1 σ r1 τ1) (g2 : p_15 (q_r (τ1.1 a0 1)) a1 τ1 r2 τ2) (g3 : p_311 (r1 &&& (Int32.ofInt (12582975))) τ2 r3 τ3) (g4 : p_311 (r1 &&& (Int32.ofInt (-12582976))) τ3 r4 τ4) (g5 : p_311 ((r1 &&& (Int32.ofInt (-12582976))) &&& r2) τ4 r5 τ5) :
    p_110 (a0) (a1) σ ((((Int32.ofInt (3)) * r3) + r4) + r5) τ5 := by
  obtain ⟨rfl, g1⟩ := g1
  obtain ⟨rfl, g2⟩ := g2
  obtain ⟨rfl, x3⟩ := g3
  obtain ⟨rfl, x4⟩ := g4
  obtain ⟨rfl, x5⟩ := g5
  refine ⟨rfl, fun A nf K e0 yh6 => ?_⟩
  have y1 : r1 = fB (fWh A a1) 24 := g1 A K
  rw [K.k hk_1] at g2
  have y2 := g2 a0 A nf rfl K e0 yh6
  have z1 : r1 &&& Int32.ofInt 12582975 = fB (fun h => fWh A a1 h && fWn h) 24 := by rw [y1]; exact fB_k (fun i hi => (nt_at hi).1)
  have z2 : r1 &&& Int32.ofInt (-12582976) = fB (fun h => fWh A a1 h && !fWn h) 24 := by rw [y1]; exact fB_k (fun i hi => (nt_at hi).2)
  have z3 : (r1 &&& Int32.ofInt (-12582976)) &&& r2 = fB (fun h => (fWh A a1 h && !fWn h) && fWq A a1 h nf) 24 := by rw [z2, y2]; exact fB_k (fun i hi => fWb_bit A a1 hi nf)
  rw [x3, x4, x5, z3, z1, z2, fBc_c, fBc_c, fBc_c, fWs_c, Int32.ofNat_add, Int32.ofNat_add, Int32.ofNat_mul]
  rfl
noncomputable def qP_110 : zPp := fun as σ o σ' => match as with
  | [a0, a1] => ∃ r, o = .inl (some (.int r)) ∧ p_110 (q_r a0) (q_i a1) σ r σ'
  | _ => True
set_option maxRecDepth 100000 in
theorem sp_110 {sx : zX} (S28 : zEe sx 28 2 qP_28) (S15 : zEe sx 15 2 qP_15) (S311 : zEe sx 311 1 qP_311) : zEe sx 110 2 qP_110 := by
  refine zfle zJ_110 (sps := [(28, 2, qP_28), (15, 2, qP_15), (311, 1, qP_311)]) (fun q hq => by
    simp only [List.mem_cons, List.not_mem_nil, or_false] at hq
    rcases hq with rfl | rfl | rfl
    · exact S28
    · exact S15
    · exact S311) (fun as σ hl => ?_)
  match as, hl with
  | [a0, a1], _ =>
  refine ⟨[], 400, ?_, ?_⟩
  · exact fun q hq => absurd hq List.not_mem_nil
  · refine fun o1 τ1 g1 => ?_
    obtain ⟨r1, rfl, g1⟩ := g1
    refine fun o2 τ2 g2 => ?_
    obtain ⟨r2, rfl, g2⟩ := g2
    refine fun o3 τ3 g3 => ?_
    obtain ⟨r3, rfl, g3⟩ := g3
    refine fun o4 τ4 g4 => ?_
    obtain ⟨r4, rfl, g4⟩ := g4
    refine fun o5 τ5 g5 => ?_
    obtain ⟨r5, rfl, g5⟩ := g5
    exact ⟨_, rfl, sp_110_e (q_r a0) (q_i a1) σ τ1 r1 τ2 r2 τ3 r3 τ4 r4 τ5 r5 g1 g2 g3 g4 g5⟩
theorem zJ_142 : zJ3 142 z_m142 z_c142 z_h142 := ⟨rfl, rfl, rfl⟩
noncomputable def p_142 (a : Nat) (s : Int32) (σ : zSg) (r : Int32) (σ' : zSg) : Prop := a = 0 → xSk σ → σ' = σ ∧ ∀ A nf, hH σ 8 A → A 0 = Int32.ofNat nf → nf ≤ 6 → r = Int32.ofNat (fWs A s nf 24)
theorem sp_142_e (a0 : Nat) (a1 : Int32) (σ : zSg) (τ1 : zSg) (r1 : Int32) (g1 : p_110 (q_r (σ.1 a0 2)) a1 σ r1 τ1) :
    p_142 (a0) (a1) σ r1 τ1 := by
  rintro rfl X
  have d2 : q_r (σ.1 0 2) = 8 := by rw [X.2.1]; rfl
  rw [d2] at g1
  exact g1
noncomputable def qP_142 : zPp := fun as σ o σ' => match as with
  | [a0, a1] => ∃ r, o = .inl (some (.int r)) ∧ p_142 (q_r a0) (q_i a1) σ r σ'
  | _ => True
set_option maxRecDepth 100000 in
theorem sp_142 {sx : zX} (S110 : zEe sx 110 2 qP_110) : zEe sx 142 2 qP_142 := by
  refine zfle zJ_142 (sps := [(110, 2, qP_110)]) (fun q hq => by
    simp only [List.mem_cons, List.not_mem_nil, or_false] at hq
    rcases hq with rfl
    · exact S110) (fun as σ hl => ?_)
  match as, hl with
  | [a0, a1], _ =>
  refine ⟨[], 400, ?_, ?_⟩
  · exact fun q hq => absurd hq List.not_mem_nil
  · refine fun o1 τ1 g1 => ?_
    obtain ⟨r1, rfl, g1⟩ := g1
    exact ⟨_, rfl, sp_142_e (q_r a0) (q_i a1) σ τ1 r1 g1⟩
theorem zJ_291 : zJ3 291 z_m291 z_c291 z_h291 := ⟨rfl, rfl, rfl⟩
noncomputable def p_291 (a : Nat) (s : Int32) (σ : zSg) (r : Int32) (σ' : zSg) : Prop := σ' = σ ∧ (a = 205 → ∀ A nf nt, rW σ A → aI nf nt A → r = Int32.ofNat (fWs A s nf 24))
noncomputable def i_291 (a : Nat) (s : Int32) (σ : zSg) (l0 : Nat) (l1 l2 l3 : Int32) (τ : zSg) : Prop := l0 = a ∧ l1 = s ∧ τ = σ ∧ ∃ n, n ≤ 24 ∧ l3 = Int32.ofNat n ∧ (a = 205 → ∀ A nf nt, rW σ A → aI nf nt A → l2 = Int32.ofNat (fWs A s nf n))
noncomputable def j_291 (a : Nat) (s : Int32) (σ : zSg) (l0 : Nat) (l1 l2 l3 l4 l5 : Int32) (τ : zSg) : Prop := l0 = a ∧ l1 = s ∧ τ = σ ∧ ∃ n, n < 24 ∧ l3 = Int32.ofNat n ∧ (a = 205 → ∀ A nf nt, rW σ A → aI nf nt A → fWh A s n = true ∧ l2 = Int32.ofNat (fWs A s nf n) ∧ ∃ f, f ≤ nf ∧ l5 = Int32.ofNat f ∧ l4 = if fWq A s n f = true then Int32.ofInt 1 else Int32.ofInt 0)
theorem sp_291_e (a0 : Nat) (a1 : Int32) (σ : zSg)  :
    i_291 a0 a1 σ a0 a1 (Int32.ofInt (0)) (Int32.ofInt (0)) σ := by
  exact ⟨rfl, rfl, rfl, 0, by omega, rfl, fun _ A nf nt _ _ => rfl⟩
theorem sp_291_c4_t (a0 : Nat) (a1 : Int32) (σ : zSg) (l0 : Nat) (l1 : Int32) (l2 : Int32) (l3 : Int32) (τ : zSg) (hI : i_291 a0 a1 σ l0 l1 l2 l3 τ) (h1 : l3.toInt ≥ (24 : Int)) :
    p_291 (a0) (a1) σ l2 τ := by
  obtain ⟨rfl, rfl, rfl, n, hn, rfl, hI⟩ := hI
  rw [o32 (by omega)] at h1
  have : n = 24 := by omega
  subst this
  exact ⟨rfl, hI⟩
theorem sp_291_c4_ft (a0 : Nat) (a1 : Int32) (σ : zSg) (l0 : Nat) (l1 : Int32) (l2 : Int32) (l3 : Int32) (τ : zSg) (τ2 : zSg) (r2 : Int32) (hI : i_291 a0 a1 σ l0 l1 l2 l3 τ) (h1 : l3.toInt < (24 : Int)) (g2 : p_186 l0 l3 τ r2 τ2) (h3 : r2.toInt = (-1 : Int)) :
    i_291 a0 a1 σ l0 l1 l2 (l3 + Int32.ofInt (1)) τ2 := by
  obtain ⟨ea1, ga1⟩ := g2
  subst ea1
  obtain ⟨rfl, rfl, rfl, n, hn, rfl, hI⟩ := hI
  rw [o32 (by omega)] at h1
  refine ⟨rfl, rfl, rfl, n + 1, by omega, o32i (by omega), fun ha A nf nt w I => ?_⟩
  have y1 := ga1 ha A n w rfl (by omega)
  rw [y1] at h3
  have em : A (16 + n) = Int32.ofInt (-1) := Int32.toInt_inj.mp (h3.trans (show (-1 : Int) = (Int32.ofInt (-1)).toInt from rfl))
  have q : fWh A l1 n = false := by
    unfold fWh
    rw [em, decide_eq_false (fun h => h rfl)]
    rfl
  have v0 : fWv A l1 nf n = 0 := if_neg (by rw [q]; decide)
  show l2 = Int32.ofNat (fWs A l1 nf n + fWv A l1 nf n)
  rw [v0]
  exact hI ha A nf nt w I
theorem sp_291_c4_fft (a0 : Nat) (a1 : Int32) (σ : zSg) (l0 : Nat) (l1 : Int32) (l2 : Int32) (l3 : Int32) (τ : zSg) (τ2 : zSg) (r2 : Int32) (τ4 : zSg) (r4 : Int32) (τ5 : zSg) (r5 : Int32) (hI : i_291 a0 a1 σ l0 l1 l2 l3 τ) (h1 : l3.toInt < (24 : Int)) (g2 : p_186 l0 l3 τ r2 τ2) (h3 : r2.toInt ≠ (-1 : Int)) (g4 : p_186 l0 l3 τ2 r4 τ4) (g5 : p_178 l1 r4 τ4 r5 τ5) (h6 : r5.toInt ≠ (0 : Int)) :
    j_291 a0 a1 σ l0 l1 l2 l3 (Int32.ofInt (0)) (Int32.ofInt (0)) τ5 := by
  obtain ⟨ea1, ga1⟩ := g2
  subst ea1
  obtain ⟨ea2, ga2⟩ := g4
  subst ea2
  obtain ⟨ea3, ga3⟩ := g5
  subst ea3
  obtain ⟨rfl, rfl, rfl, n, hn, rfl, hI⟩ := hI
  rw [o32 (by omega)] at h1
  refine ⟨rfl, rfl, rfl, n, by omega, rfl, fun ha A nf nt w I => ?_⟩
  have y1 := ga1 ha A n w rfl (by omega)
  rw [y1] at h3
  have y2 := ga2 ha A n w rfl (by omega)
  have q : fWh A l1 n = true := by
    unfold fWh
    cases qb : btb l1 (A (16 + n))
    · rw [ga3, y2, qb] at h6; exact absurd rfl h6
    · rw [decide_eq_true (show A (16 + n) ≠ Int32.ofInt (-1) from fun h => h3 (by rw [h]; rfl))]
      rfl
  exact ⟨q, hI ha A nf nt w I, 0, by omega, rfl, rfl⟩
theorem sp_291_c4_fff (a0 : Nat) (a1 : Int32) (σ : zSg) (l0 : Nat) (l1 : Int32) (l2 : Int32) (l3 : Int32) (τ : zSg) (τ2 : zSg) (r2 : Int32) (τ4 : zSg) (r4 : Int32) (τ5 : zSg) (r5 : Int32) (hI : i_291 a0 a1 σ l0 l1 l2 l3 τ) (h1 : l3.toInt < (24 : Int)) (g2 : p_186 l0 l3 τ r2 τ2) (h3 : r2.toInt ≠ (-1 : Int)) (g4 : p_186 l0 l3 τ2 r4 τ4) (g5 : p_178 l1 r4 τ4 r5 τ5) (h6 : r5.toInt = (0 : Int)) :
    i_291 a0 a1 σ l0 l1 l2 (l3 + Int32.ofInt (1)) τ5 := by
  obtain ⟨ea1, ga1⟩ := g2
  subst ea1
  obtain ⟨ea2, ga2⟩ := g4
  subst ea2
  obtain ⟨ea3, ga3⟩ := g5
  subst ea3
  obtain ⟨rfl, rfl, rfl, n, hn, rfl, hI⟩ := hI
  rw [o32 (by omega)] at h1
  refine ⟨rfl, rfl, rfl, n + 1, by omega, o32i (by omega), fun ha A nf nt w I => ?_⟩
  have y1 := ga1 ha A n w rfl (by omega)
  rw [y1] at h3
  have y2 := ga2 ha A n w rfl (by omega)
  have q : fWh A l1 n = false := by
    unfold fWh
    cases qb : btb l1 (A (16 + n))
    · exact Bool.and_false _
    · rw [ga3, y2, qb] at h6; exact absurd h6 (by decide)
  have v0 : fWv A l1 nf n = 0 := if_neg (by rw [q]; decide)
  show l2 = Int32.ofNat (fWs A l1 nf n + fWv A l1 nf n)
  rw [v0]
  exact hI ha A nf nt w I
theorem sp_291_c23_ttt (a0 : Nat) (a1 : Int32) (σ : zSg) (l0 : Nat) (l1 : Int32) (l2 : Int32) (l3 : Int32) (l4 : Int32) (l5 : Int32) (τ : zSg) (τ7 : zSg) (r7 : Int32) (τ9 : zSg) (r9 : Int32) (hI : j_291 a0 a1 σ l0 l1 l2 l3 l4 l5 τ) (g7 : p_184 l0 τ r7 τ7) (h8 : l5.toInt ≥ r7.toInt) (g9 : p_235 l3 τ7 r9 τ9) (h10 : r9.toInt = (0 : Int)) (h11 : l4.toInt = (0 : Int)) :
    i_291 a0 a1 σ l0 l1 (l2 + (Int32.ofInt (1))) (l3 + Int32.ofInt (1)) τ9 := by
  obtain ⟨ea1, ga1⟩ := g7
  subst ea1
  obtain ⟨ea2, ga2⟩ := g9
  subst ea2
  obtain ⟨rfl, rfl, rfl, n, hn, rfl, hI⟩ := hI
  refine ⟨rfl, rfl, rfl, n + 1, by omega, o32i (by omega), fun ha A nf nt w I => ?_⟩
  obtain ⟨q0, e2, f, hf, e5, e4⟩ := hI ha A nf nt w I
  have k6 := I.1.2.1
  rw [ga1 ha A w, I.1.1, e5, o32 (by omega), o32 (by omega)] at h8
  have : f = nf := by omega
  subst this
  rw [ga2 n rfl hn] at h10
  have qn : fWn n = false := by
    unfold aNi at h10
    unfold fWn
    by_cases q : n < 6 ∨ 21 < n
    · rw [if_pos q] at h10; exact absurd h10 (by decide)
    · exact decide_eq_false q
  rw [e4] at h11
  have qw : fWq A l1 n f = false := by
    cases q : fWq A l1 n f
    · rfl
    · rw [q] at h11; exact absurd h11 (by decide)
  have vv : fWv A l1 f n = 1 := by
    unfold fWv
    rw [q0, qn, qw]
    rfl
  show _ = Int32.ofNat (fWs A l1 f n + fWv A l1 f n)
  rw [vv, Int32.ofNat_add, ← e2]
  rfl
theorem sp_291_c23_ttf (a0 : Nat) (a1 : Int32) (σ : zSg) (l0 : Nat) (l1 : Int32) (l2 : Int32) (l3 : Int32) (l4 : Int32) (l5 : Int32) (τ : zSg) (τ7 : zSg) (r7 : Int32) (τ9 : zSg) (r9 : Int32) (hI : j_291 a0 a1 σ l0 l1 l2 l3 l4 l5 τ) (g7 : p_184 l0 τ r7 τ7) (h8 : l5.toInt ≥ r7.toInt) (g9 : p_235 l3 τ7 r9 τ9) (h10 : r9.toInt = (0 : Int)) (h11 : l4.toInt ≠ (0 : Int)) :
    i_291 a0 a1 σ l0 l1 (l2 + (Int32.ofInt (2))) (l3 + Int32.ofInt (1)) τ9 := by
  obtain ⟨ea1, ga1⟩ := g7
  subst ea1
  obtain ⟨ea2, ga2⟩ := g9
  subst ea2
  obtain ⟨rfl, rfl, rfl, n, hn, rfl, hI⟩ := hI
  refine ⟨rfl, rfl, rfl, n + 1, by omega, o32i (by omega), fun ha A nf nt w I => ?_⟩
  obtain ⟨q0, e2, f, hf, e5, e4⟩ := hI ha A nf nt w I
  have k6 := I.1.2.1
  rw [ga1 ha A w, I.1.1, e5, o32 (by omega), o32 (by omega)] at h8
  have : f = nf := by omega
  subst this
  rw [ga2 n rfl hn] at h10
  have qn : fWn n = false := by
    unfold aNi at h10
    unfold fWn
    by_cases q : n < 6 ∨ 21 < n
    · rw [if_pos q] at h10; exact absurd h10 (by decide)
    · exact decide_eq_false q
  rw [e4] at h11
  have qw : fWq A l1 n f = true := by
    cases q : fWq A l1 n f
    · rw [q] at h11; exact absurd rfl h11
    · rfl
  have vv : fWv A l1 f n = 2 := by
    unfold fWv
    rw [q0, qn, qw]
    rfl
  show _ = Int32.ofNat (fWs A l1 f n + fWv A l1 f n)
  rw [vv, Int32.ofNat_add, ← e2]
  rfl
theorem sp_291_c23_tf (a0 : Nat) (a1 : Int32) (σ : zSg) (l0 : Nat) (l1 : Int32) (l2 : Int32) (l3 : Int32) (l4 : Int32) (l5 : Int32) (τ : zSg) (τ7 : zSg) (r7 : Int32) (τ9 : zSg) (r9 : Int32) (hI : j_291 a0 a1 σ l0 l1 l2 l3 l4 l5 τ) (g7 : p_184 l0 τ r7 τ7) (h8 : l5.toInt ≥ r7.toInt) (g9 : p_235 l3 τ7 r9 τ9) (h10 : r9.toInt ≠ (0 : Int)) :
    i_291 a0 a1 σ l0 l1 (l2 + (Int32.ofInt (3))) (l3 + Int32.ofInt (1)) τ9 := by
  obtain ⟨ea1, ga1⟩ := g7
  subst ea1
  obtain ⟨ea2, ga2⟩ := g9
  subst ea2
  obtain ⟨rfl, rfl, rfl, n, hn, rfl, hI⟩ := hI
  refine ⟨rfl, rfl, rfl, n + 1, by omega, o32i (by omega), fun ha A nf nt w I => ?_⟩
  obtain ⟨q0, e2, f, hf, e5, e4⟩ := hI ha A nf nt w I
  have k6 := I.1.2.1
  rw [ga1 ha A w, I.1.1, e5, o32 (by omega), o32 (by omega)] at h8
  have : f = nf := by omega
  subst this
  rw [ga2 n rfl hn] at h10
  have qn : fWn n = true := by
    unfold aNi at h10
    unfold fWn
    by_cases q : n < 6 ∨ 21 < n
    · exact decide_eq_true q
    · rw [if_neg q] at h10; exact absurd rfl h10
  have vv : fWv A l1 f n = 3 := by
    unfold fWv
    rw [q0, qn]
    rfl
  show _ = Int32.ofNat (fWs A l1 f n + fWv A l1 f n)
  rw [vv, Int32.ofNat_add, ← e2]
  rfl
theorem sp_291_c23_ft (a0 : Nat) (a1 : Int32) (σ : zSg) (l0 : Nat) (l1 : Int32) (l2 : Int32) (l3 : Int32) (l4 : Int32) (l5 : Int32) (τ : zSg) (τ7 : zSg) (r7 : Int32) (hI : j_291 a0 a1 σ l0 l1 l2 l3 l4 l5 τ) (g7 : p_184 l0 τ r7 τ7) (h8 : l5.toInt < r7.toInt) (h12 : l4.toInt ≠ (0 : Int)) :
    j_291 a0 a1 σ l0 l1 l2 l3 (Int32.ofInt (1)) (l5 + Int32.ofInt (1)) τ7 := by
  obtain ⟨ea1, ga1⟩ := g7
  subst ea1
  obtain ⟨rfl, rfl, rfl, n, hn, rfl, hI⟩ := hI
  refine ⟨rfl, rfl, rfl, n, hn, rfl, fun ha A nf nt w I => ?_⟩
  obtain ⟨q0, e2, f, hf, e5, e4⟩ := hI ha A nf nt w I
  have k6 := I.1.2.1
  rw [ga1 ha A w, I.1.1, e5, o32 (by omega), o32 (by omega)] at h8
  have qw : fWq A l1 n f = true := by
    cases q : fWq A l1 n f
    · rw [e4, q] at h12; exact absurd rfl h12
    · rfl
  refine ⟨q0, e2, f + 1, by omega, by rw [e5]; exact o32i (by omega), ?_⟩
  have q9 : fWq A l1 n (f + 1) = true := by
    show (fWq A l1 n f || (btb l1 (Int32.ofNat f) && btb (A (43 + 4 * f)) (Int32.ofNat n))) = true
    rw [qw]
    rfl
  rw [q9]
  rfl
theorem sp_291_c23_fft (a0 : Nat) (a1 : Int32) (σ : zSg) (l0 : Nat) (l1 : Int32) (l2 : Int32) (l3 : Int32) (l4 : Int32) (l5 : Int32) (τ : zSg) (τ7 : zSg) (r7 : Int32) (τ13 : zSg) (r13 : Int32) (hI : j_291 a0 a1 σ l0 l1 l2 l3 l4 l5 τ) (g7 : p_184 l0 τ r7 τ7) (h8 : l5.toInt < r7.toInt) (h12 : l4.toInt = (0 : Int)) (g13 : p_178 l1 l5 τ7 r13 τ13) (h14 : r13.toInt = (0 : Int)) :
    j_291 a0 a1 σ l0 l1 l2 l3 (Int32.ofInt (0)) (l5 + Int32.ofInt (1)) τ13 := by
  obtain ⟨ea1, ga1⟩ := g7
  subst ea1
  obtain ⟨ea2, ga2⟩ := g13
  subst ea2
  obtain ⟨rfl, rfl, rfl, n, hn, rfl, hI⟩ := hI
  refine ⟨rfl, rfl, rfl, n, hn, rfl, fun ha A nf nt w I => ?_⟩
  obtain ⟨q0, e2, f, hf, e5, e4⟩ := hI ha A nf nt w I
  have k6 := I.1.2.1
  rw [ga1 ha A w, I.1.1, e5, o32 (by omega), o32 (by omega)] at h8
  have qw : fWq A l1 n f = false := by
    cases q : fWq A l1 n f
    · rfl
    · rw [e4, q] at h12; exact absurd h12 (by decide)
  rw [e5] at ga2
  have qs : btb l1 (Int32.ofNat f) = false := by
    cases q : btb l1 (Int32.ofNat f)
    · rfl
    · rw [ga2, q] at h14; exact absurd h14 (by decide)
  refine ⟨q0, e2, f + 1, by omega, by rw [e5]; exact o32i (by omega), ?_⟩
  have q9 : fWq A l1 n (f + 1) = false := by
    show (fWq A l1 n f || (btb l1 (Int32.ofNat f) && btb (A (43 + 4 * f)) (Int32.ofNat n))) = false
    rw [qw, qs]
    rfl
  rw [q9]
  rfl
theorem sp_291_c23_ffft (a0 : Nat) (a1 : Int32) (σ : zSg) (l0 : Nat) (l1 : Int32) (l2 : Int32) (l3 : Int32) (l4 : Int32) (l5 : Int32) (τ : zSg) (τ7 : zSg) (r7 : Int32) (τ13 : zSg) (r13 : Int32) (τ15 : zSg) (r15 : Int32) (hI : j_291 a0 a1 σ l0 l1 l2 l3 l4 l5 τ) (g7 : p_184 l0 τ r7 τ7) (h8 : l5.toInt < r7.toInt) (h12 : l4.toInt = (0 : Int)) (g13 : p_178 l1 l5 τ7 r13 τ13) (h14 : r13.toInt ≠ (0 : Int)) (g15 : p_191 l0 l5 l3 τ13 r15 τ15) (h16 : r15.toInt = (0 : Int)) :
    j_291 a0 a1 σ l0 l1 l2 l3 (Int32.ofInt (0)) (l5 + Int32.ofInt (1)) τ15 := by
  obtain ⟨ea1, ga1⟩ := g7
  subst ea1
  obtain ⟨ea2, ga2⟩ := g13
  subst ea2
  obtain ⟨ea3, ga3⟩ := g15
  subst ea3
  obtain ⟨rfl, rfl, rfl, n, hn, rfl, hI⟩ := hI
  refine ⟨rfl, rfl, rfl, n, hn, rfl, fun ha A nf nt w I => ?_⟩
  obtain ⟨q0, e2, f, hf, e5, e4⟩ := hI ha A nf nt w I
  have k6 := I.1.2.1
  rw [ga1 ha A w, I.1.1, e5, o32 (by omega), o32 (by omega)] at h8
  have qw : fWq A l1 n f = false := by
    cases q : fWq A l1 n f
    · rfl
    · rw [e4, q] at h12; exact absurd h12 (by decide)
  rw [e5] at ga2
  have qs : btb l1 (Int32.ofNat f) = true := by
    cases q : btb l1 (Int32.ofNat f)
    · rw [ga2, q] at h14; exact absurd rfl h14
    · rfl
  have y3 := ga3 ha A w f e5 (by omega)
  have qb : btb (A (43 + 4 * f)) (Int32.ofNat n) = false := by
    cases q : btb (A (43 + 4 * f)) (Int32.ofNat n)
    · rfl
    · rw [y3, q] at h16; exact absurd h16 (by decide)
  refine ⟨q0, e2, f + 1, by omega, by rw [e5]; exact o32i (by omega), ?_⟩
  have q9 : fWq A l1 n (f + 1) = false := by
    show (fWq A l1 n f || (btb l1 (Int32.ofNat f) && btb (A (43 + 4 * f)) (Int32.ofNat n))) = false
    rw [qw, qs, qb]
    rfl
  rw [q9]
  rfl
theorem sp_291_c23_ffff (a0 : Nat) (a1 : Int32) (σ : zSg) (l0 : Nat) (l1 : Int32) (l2 : Int32) (l3 : Int32) (l4 : Int32) (l5 : Int32) (τ : zSg) (τ7 : zSg) (r7 : Int32) (τ13 : zSg) (r13 : Int32) (τ15 : zSg) (r15 : Int32) (hI : j_291 a0 a1 σ l0 l1 l2 l3 l4 l5 τ) (g7 : p_184 l0 τ r7 τ7) (h8 : l5.toInt < r7.toInt) (h12 : l4.toInt = (0 : Int)) (g13 : p_178 l1 l5 τ7 r13 τ13) (h14 : r13.toInt ≠ (0 : Int)) (g15 : p_191 l0 l5 l3 τ13 r15 τ15) (h16 : r15.toInt ≠ (0 : Int)) :
    j_291 a0 a1 σ l0 l1 l2 l3 (Int32.ofInt (1)) (l5 + Int32.ofInt (1)) τ15 := by
  obtain ⟨ea1, ga1⟩ := g7
  subst ea1
  obtain ⟨ea2, ga2⟩ := g13
  subst ea2
  obtain ⟨ea3, ga3⟩ := g15
  subst ea3
  obtain ⟨rfl, rfl, rfl, n, hn, rfl, hI⟩ := hI
  refine ⟨rfl, rfl, rfl, n, hn, rfl, fun ha A nf nt w I => ?_⟩
  obtain ⟨q0, e2, f, hf, e5, e4⟩ := hI ha A nf nt w I
  have k6 := I.1.2.1
  rw [ga1 ha A w, I.1.1, e5, o32 (by omega), o32 (by omega)] at h8
  have qw : fWq A l1 n f = false := by
    cases q : fWq A l1 n f
    · rfl
    · rw [e4, q] at h12; exact absurd h12 (by decide)
  rw [e5] at ga2
  have qs : btb l1 (Int32.ofNat f) = true := by
    cases q : btb l1 (Int32.ofNat f)
    · rw [ga2, q] at h14; exact absurd rfl h14
    · rfl
  have y3 := ga3 ha A w f e5 (by omega)
  have qb : btb (A (43 + 4 * f)) (Int32.ofNat n) = true := by
    cases q : btb (A (43 + 4 * f)) (Int32.ofNat n)
    · rw [y3, q] at h16; exact absurd rfl h16
    · rfl
  refine ⟨q0, e2, f + 1, by omega, by rw [e5]; exact o32i (by omega), ?_⟩
  have q9 : fWq A l1 n (f + 1) = true := by
    show (fWq A l1 n f || (btb l1 (Int32.ofNat f) && btb (A (43 + 4 * f)) (Int32.ofNat n))) = true
    rw [qw, qs, qb]
    rfl
  rw [q9]
  rfl
noncomputable def qP_291 : zPp := fun as σ o σ' => match as with
  | [a0, a1] => ∃ r, o = .inl (some (.int r)) ∧ p_291 (q_r a0) (q_i a1) σ r σ'
  | _ => True
set_option maxRecDepth 100000 in
theorem sp_291 {sx : zX} (S186 : zEe sx 186 2 qP_186) (S178 : zEe sx 178 2 qP_178) (S184 : zEe sx 184 1 qP_184) (S235 : zEe sx 235 1 qP_235) (S191 : zEe sx 191 3 qP_191) : zEe sx 291 2 qP_291 := by
  refine zfle zJ_291 (sps := [(186, 2, qP_186), (178, 2, qP_178), (184, 1, qP_184), (235, 1, qP_235), (191, 3, qP_191)]) (fun q hq => by
    simp only [List.mem_cons, List.not_mem_nil, or_false] at hq
    rcases hq with rfl | rfl | rfl | rfl | rfl
    · exact S186
    · exact S178
    · exact S184
    · exact S235
    · exact S191) (fun as σ hl => ?_)
  match as, hl with
  | [a0, a1], _ =>
  refine ⟨[(4, fun lo st τ => st = [] ∧ i_291 (q_r a0) (q_i a1) σ (q_r (lo 0)) (q_i (lo 1)) (q_i (lo 2)) (q_i (lo 3)) τ), (23, fun lo st τ => st = [] ∧ j_291 (q_r a0) (q_i a1) σ (q_r (lo 0)) (q_i (lo 1)) (q_i (lo 2)) (q_i (lo 3)) (q_i (lo 4)) (q_i (lo 5)) τ)], 400, ?_, ?_⟩
  · intro q hq
    simp only [List.mem_cons, List.not_mem_nil, or_false] at hq
    rcases hq with rfl | rfl
    · rintro lo st τ ⟨rfl, hI⟩
      refine ⟨400, ?_⟩
      refine And.intro (fun h1 => ?_) (fun h1 => ?_)
      · exact ⟨_, rfl, sp_291_c4_t (q_r a0) (q_i a1) σ (q_r (lo 0)) (q_i (lo 1)) (q_i (lo 2)) (q_i (lo 3)) τ hI (cm3t h1)⟩
      · refine fun o2 τ2 g2 => ?_
        obtain ⟨r2, rfl, g2⟩ := g2
        refine And.intro (fun h3 => ?_) (fun h3 => ?_)
        · exact ⟨rfl, sp_291_c4_ft (q_r a0) (q_i a1) σ (q_r (lo 0)) (q_i (lo 1)) (q_i (lo 2)) (q_i (lo 3)) τ τ2 r2 hI (cm3f h1) g2 (cm0t h3)⟩
        · refine fun o4 τ4 g4 => ?_
          obtain ⟨r4, rfl, g4⟩ := g4
          refine fun o5 τ5 g5 => ?_
          obtain ⟨r5, rfl, g5⟩ := g5
          refine And.intro (fun h6 => ?_) (fun h6 => ?_)
          · exact ⟨rfl, sp_291_c4_fft (q_r a0) (q_i a1) σ (q_r (lo 0)) (q_i (lo 1)) (q_i (lo 2)) (q_i (lo 3)) τ τ2 r2 τ4 r4 τ5 r5 hI (cm3f h1) g2 (cm0f h3) g4 g5 (cm1t h6)⟩
          · exact ⟨rfl, sp_291_c4_fff (q_r a0) (q_i a1) σ (q_r (lo 0)) (q_i (lo 1)) (q_i (lo 2)) (q_i (lo 3)) τ τ2 r2 τ4 r4 τ5 r5 hI (cm3f h1) g2 (cm0f h3) g4 g5 (cm1f h6)⟩
    · rintro lo st τ ⟨rfl, hI⟩
      refine ⟨400, ?_⟩
      refine fun o7 τ7 g7 => ?_
      obtain ⟨r7, rfl, g7⟩ := g7
      refine And.intro (fun h8 => ?_) (fun h8 => ?_)
      · refine fun o9 τ9 g9 => ?_
        obtain ⟨r9, rfl, g9⟩ := g9
        refine And.intro (fun h10 => ?_) (fun h10 => ?_)
        · refine And.intro (fun h11 => ?_) (fun h11 => ?_)
          · exact ⟨rfl, sp_291_c23_ttt (q_r a0) (q_i a1) σ (q_r (lo 0)) (q_i (lo 1)) (q_i (lo 2)) (q_i (lo 3)) (q_i (lo 4)) (q_i (lo 5)) τ τ7 r7 τ9 r9 hI g7 (cm3t h8) g9 (cm0t h10) (cm0t h11)⟩
          · exact ⟨rfl, sp_291_c23_ttf (q_r a0) (q_i a1) σ (q_r (lo 0)) (q_i (lo 1)) (q_i (lo 2)) (q_i (lo 3)) (q_i (lo 4)) (q_i (lo 5)) τ τ7 r7 τ9 r9 hI g7 (cm3t h8) g9 (cm0t h10) (cm0f h11)⟩
        · exact ⟨rfl, sp_291_c23_tf (q_r a0) (q_i a1) σ (q_r (lo 0)) (q_i (lo 1)) (q_i (lo 2)) (q_i (lo 3)) (q_i (lo 4)) (q_i (lo 5)) τ τ7 r7 τ9 r9 hI g7 (cm3t h8) g9 (cm0f h10)⟩
      · refine And.intro (fun h12 => ?_) (fun h12 => ?_)
        · exact ⟨rfl, sp_291_c23_ft (q_r a0) (q_i a1) σ (q_r (lo 0)) (q_i (lo 1)) (q_i (lo 2)) (q_i (lo 3)) (q_i (lo 4)) (q_i (lo 5)) τ τ7 r7 hI g7 (cm3f h8) (cm1t h12)⟩
        · refine fun o13 τ13 g13 => ?_
          obtain ⟨r13, rfl, g13⟩ := g13
          refine And.intro (fun h14 => ?_) (fun h14 => ?_)
          · exact ⟨rfl, sp_291_c23_fft (q_r a0) (q_i a1) σ (q_r (lo 0)) (q_i (lo 1)) (q_i (lo 2)) (q_i (lo 3)) (q_i (lo 4)) (q_i (lo 5)) τ τ7 r7 τ13 r13 hI g7 (cm3f h8) (cm1f h12) g13 (cm0t h14)⟩
          · refine fun o15 τ15 g15 => ?_
            obtain ⟨r15, rfl, g15⟩ := g15
            refine And.intro (fun h16 => ?_) (fun h16 => ?_)
            · exact ⟨rfl, sp_291_c23_ffft (q_r a0) (q_i a1) σ (q_r (lo 0)) (q_i (lo 1)) (q_i (lo 2)) (q_i (lo 3)) (q_i (lo 4)) (q_i (lo 5)) τ τ7 r7 τ13 r13 τ15 r15 hI g7 (cm3f h8) (cm1f h12) g13 (cm0f h14) g15 (cm0t h16)⟩
            · exact ⟨rfl, sp_291_c23_ffff (q_r a0) (q_i a1) σ (q_r (lo 0)) (q_i (lo 1)) (q_i (lo 2)) (q_i (lo 3)) (q_i (lo 4)) (q_i (lo 5)) τ τ7 r7 τ13 r13 τ15 r15 hI g7 (cm3f h8) (cm1f h12) g13 (cm0f h14) g15 (cm0f h16)⟩
  · exact ⟨rfl, sp_291_e (q_r a0) (q_i a1) σ ⟩
theorem zJ_292 : zJ3 292 z_m292 z_c292 z_h292 := ⟨rfl, rfl, rfl⟩
noncomputable def p_292 (a : Nat) (σ : zSg) (r : Int32) (σ' : zSg) : Prop := σ' = σ ∧ (a = 205 → ∀ A, rW σ A → r = (Int32.ofInt 1 <<< (A 0 &&& 31)) - Int32.ofInt 1)
theorem sp_292_e (a0 : Nat) (σ : zSg) (τ1 : zSg) (r1 : Int32) (g1 : p_184 a0 σ r1 τ1) :
    p_292 (a0) σ (((Int32.ofInt (1)) <<< (r1 &&& 31)) - (Int32.ofInt (1))) τ1 := by
  obtain ⟨rfl, g1⟩ := g1
  refine ⟨rfl, fun ha A w => ?_⟩
  rw [g1 ha A w]
noncomputable def qP_292 : zPp := fun as σ o σ' => match as with
  | [a0] => ∃ r, o = .inl (some (.int r)) ∧ p_292 (q_r a0) σ r σ'
  | _ => True
set_option maxRecDepth 100000 in
theorem sp_292 {sx : zX} (S184 : zEe sx 184 1 qP_184) : zEe sx 292 1 qP_292 := by
  refine zfle zJ_292 (sps := [(184, 1, qP_184)]) (fun q hq => by
    simp only [List.mem_cons, List.not_mem_nil, or_false] at hq
    rcases hq with rfl
    · exact S184) (fun as σ hl => ?_)
  match as, hl with
  | [a0], _ =>
  refine ⟨[], 400, ?_, ?_⟩
  · exact fun q hq => absurd hq List.not_mem_nil
  · refine fun o1 τ1 g1 => ?_
    obtain ⟨r1, rfl, g1⟩ := g1
    exact ⟨_, rfl, sp_292_e (q_r a0) σ τ1 r1 g1⟩
theorem ev_b_all : (List.range 7).all (fun n => (List.range 32).all (fun F => decide (btb ((Int32.ofInt 1 <<< (Int32.ofNat n &&& 31)) - Int32.ofInt 1) (Int32.ofNat F) = decide (F < n)))) = true := by decide +kernel
theorem ev_b {n F : Nat} (hn : n ≤ 6) (hF : F < 32) : btb ((Int32.ofInt 1 <<< (Int32.ofNat n &&& 31)) - Int32.ofInt 1) (Int32.ofNat F) = decide (F < n) := of_decide_eq_true (List.all_eq_true.mp (List.all_eq_true.mp ev_b_all n (List.mem_range.mpr (by omega))) F (List.mem_range.mpr hF))
/-- families that there are not count for nothing -/
theorem fWs_m {A : Nat → Int32} {nf nt : Nat} (I : aI nf nt A) (s : Int32) : ∀ n, n ≤ 24 → fWs A (s &&& ((Int32.ofInt 1 <<< (A 0 &&& 31)) - Int32.ofInt 1)) nf n = fWs A s nf n
  | 0, _ => rfl
  | n + 1, hn => by
    have k6 := I.1.2.1
    have e0 := I.1.1
    show fWs A _ nf n + fWv A _ nf n = fWs A s nf n + fWv A s nf n
    rw [fWs_m I s n (by omega)]
    have b : ∀ F, F < nf → btb (s &&& ((Int32.ofInt 1 <<< (A 0 &&& 31)) - Int32.ofInt 1)) (Int32.ofNat F) = btb s (Int32.ofNat F) := fun F hF => by
      rw [btb_and, e0, ev_b k6 (by omega), decide_eq_true hF, Bool.and_true]
    have yh1 : fWh A (s &&& ((Int32.ofInt 1 <<< (A 0 &&& 31)) - Int32.ofInt 1)) n = fWh A s n := by
      unfold fWh
      rcases I.2.1 n (by omega) with q | ⟨F, hF, q⟩
      · rw [q, decide_eq_false (fun h => h rfl), Bool.false_and, Bool.false_and]
      · rw [q, b F hF]
    have yh2 : ∀ k, k ≤ nf → fWq A (s &&& ((Int32.ofInt 1 <<< (A 0 &&& 31)) - Int32.ofInt 1)) n k = fWq A s n k := by
      intro k
      induction k with
      | zero => intro _; rfl
      | succ k ih =>
        intro hk
        show (fWq A _ n k || (btb _ (Int32.ofNat k) && _)) = (fWq A s n k || (btb s (Int32.ofNat k) && _))
        rw [ih (by omega), b k (by omega)]
    unfold fWv
    rw [yh1, yh2 nf (Nat.le_refl _)]
theorem zJ_293 : zJ3 293 z_m293 z_c293 z_h293 := ⟨rfl, rfl, rfl⟩
noncomputable def p_293 (a : Nat) (s : Int32) (σ : zSg) (r : Int32) (σ' : zSg) : Prop := a = 205 → ∀ A nf nt, rW σ A → aI nf nt A → σ' = r0 σ ∧ r = Int32.ofNat (fWs A s nf 24)
theorem sp_293_e (a0 : Nat) (a1 : Int32) (σ : zSg) (τ1 : zSg) (r1 : Int32) (τ2 : zSg) (r2 : Int32) (g1 : p_292 a0 (q_w σ a0 0 (.int (Int32.ofInt (0)))) r1 τ1) (g2 : p_291 a0 (a1 &&& r1) τ1 r2 τ2) :
    p_293 (a0) (a1) σ r2 τ2 := by
  rintro rfl A nf nt w I
  have w0 : rW (r0 σ) A := w.el (by omega)
  obtain ⟨e1, g1⟩ := g1
  have e1 : τ1 = r0 σ := e1
  subst e1
  obtain ⟨e2, g2⟩ := g2
  refine ⟨e2, ?_⟩
  have y1 := g1 rfl A w0
  rw [y1] at g2
  rw [g2 rfl A nf nt w0 I, fWs_m I a1 24 (by omega)]
noncomputable def qP_293 : zPp := fun as σ o σ' => match as with
  | [a0, a1] => ∃ r, o = .inl (some (.int r)) ∧ p_293 (q_r a0) (q_i a1) σ r σ'
  | _ => True
set_option maxRecDepth 100000 in
theorem sp_293 {sx : zX} (S292 : zEe sx 292 1 qP_292) (S291 : zEe sx 291 2 qP_291) : zEe sx 293 2 qP_293 := by
  refine zfle zJ_293 (sps := [(292, 1, qP_292), (291, 2, qP_291)]) (fun q hq => by
    simp only [List.mem_cons, List.not_mem_nil, or_false] at hq
    rcases hq with rfl | rfl
    · exact S292
    · exact S291) (fun as σ hl => ?_)
  match as, hl with
  | [a0, a1], _ =>
  refine ⟨[], 400, ?_, ?_⟩
  · exact fun q hq => absurd hq List.not_mem_nil
  · refine fun o1 τ1 g1 => ?_
    obtain ⟨r1, rfl, g1⟩ := g1
    refine fun o2 τ2 g2 => ?_
    obtain ⟨r2, rfl, g2⟩ := g2
    exact ⟨_, rfl, sp_293_e (q_r a0) (q_i a1) σ τ1 r1 τ2 r2 g1 g2⟩
end
section
/-! quarrels hang on draws and on who is in alone -/
section QUA
variable {nf nt : Nat} {A : Nat → Int32} {Lo : Option (Nat × List gLn4 × zSs)}
noncomputable def fQs (A : Nat → Int32) (h : Nat) (x : Int32 × Int32) : Int32 × Int32 := (if A (16 + h) ≠ Int32.ofInt (-1) ∧ (hDr (hSd x.2)).toInt < (A 13).toInt then aMi (Int32.ofInt 9) (x.1 + Int32.ofInt 1) else x.1, hSd x.2)
noncomputable def fQn (A : Nat → Int32) (h0 : Nat) (x : Int32 × Int32) : Nat → Int32 × Int32
  | 0 => x
  | i + 1 => fQs A ((h0 + i) % 24) (fQn A h0 x i)
theorem hHr_b {calm : Bool} {k : Nat} (hk : k < 40) (h14 : k ≠ 14) : (hHr Lo nt calm A).1 k = hCk (hMd Lo nt calm A) (hN A) k := by
  unfold hHr hEd
  by_cases q : A (16 + hN A) = Int32.ofInt (-1) ∨ hCk (hMd Lo nt calm A) (hN A) (16 + hN (hCk (hMd Lo nt calm A) (hN A))) = A (16 + hN A)
  · rw [if_pos q]
  · rw [if_neg q]
    exact hFi_k (by omega) (by omega) h14 nt (fun u hu => by omega)
theorem hMd_q (K : aI nf nt A) : (hMd Lo nt false A 8, hMd Lo nt false A 15) = fQs A (hN A) (A 8, A 15) := by
  obtain ⟨h1, h2, h3⟩ := K.in
  have k6 := K.1.2.1
  have e8 : hCd (hWm Lo nt A (hN A) (hO (A (16 + hN A)))) 8 = A 8 := (hCd_k (by omega)).trans (hWm_k (by omega) (by omega))
  have e13 : hCd (hWm Lo nt A (hN A) (hO (A (16 + hN A)))) 13 = A 13 := (hCd_k (by omega)).trans (hWm_k (by omega) (by omega))
  have e15 : hCd (hWm Lo nt A (hN A) (hO (A (16 + hN A)))) 15 = A 15 := (hCd_k (by omega)).trans (hWm_k (by omega) (by omega))
  show (hVi (hCd (hWm Lo nt A (hN A) (hO (A (16 + hN A))))) (hO (A (16 + hN A))) 8, hVi (hCd (hWm Lo nt A (hN A) (hO (A (16 + hN A))))) (hO (A (16 + hN A))) 15) = _
  generalize hCd (hWm Lo nt A (hN A) (hO (A (16 + hN A)))) = C at e8 e13 e15 ⊢
  unfold fQs
  dsimp only
  rcases h3 with ⟨q, o⟩ | ⟨F, hF, q, o⟩
  · rw [o, q, if_neg (fun z => z.1 rfl)]
    show (aU C 15 (hSd (C 15)) 8, aU C 15 (hSd (C 15)) 15) = _
    rw [aU_ne (by omega), aU_at, e8, e15]
  · rw [o, q]
    have ne : Int32.ofNat F ≠ Int32.ofInt (-1) := fun e => by
      have := congrArg Int32.toInt e
      rw [o32 (by omega), show (Int32.ofInt (-1)).toInt = -1 from rfl] at this
      omega
    unfold hVi
    dsimp only
    rw [e15, e13]
    by_cases z : (hDr (hSd (A 15))).toInt < (A 13).toInt
    · rw [if_pos z, if_pos ⟨ne, z⟩, aTl_lo (by omega) (by omega), aTl_lo (by omega) (by omega), aU_ne (show 8 ≠ 9 by omega), aU_at, aU_ne (show 15 ≠ 9 by omega), aU_ne (show 15 ≠ 8 by omega), aU_at, e8]
    · rw [if_neg z, if_neg (fun w => z w.2), aU_ne (by omega), aU_at, e8]
theorem hHr_q (K : aI nf nt A) : ((hHr Lo nt false A).1 8, (hHr Lo nt false A).1 15) = fQs A (hN A) (A 8, A 15) ∧ hN (hHr Lo nt false A).1 = (hN A + 1) % 24 ∧ (∀ h, h < 24 → (hHr Lo nt false A).1 (16 + h) = A (16 + h)) ∧ (hHr Lo nt false A).1 13 = A 13 := by
  obtain ⟨h1, h2, h3⟩ := K.in
  refine ⟨?_, ?_, fun h hh => ?_, ?_⟩
  · rw [hHr_b (by omega) (by omega), hHr_b (by omega) (by omega), hCk_k (by omega) (by omega), hCk_k (by omega) (by omega)]
    exact hMd_q K
  · exact hN_n ((hHr_b (by omega) (by omega)).trans (hCk_4 h1)) (by have := Nat.mod_lt (hN A + 1) (show 0 < 24 by omega); omega)
  · rw [hHr_b (by omega) (by omega), hCk_k (by omega) (by omega), hMd_4 K (by omega)]
  · rw [hHr_b (by omega) (by omega), hCk_k (by omega) (by omega), hMd_4 K (by omega)]
theorem hHs_q (K : aI nf nt A) : ∀ i, ((hHs Lo nt false A i).1 8, (hHs Lo nt false A i).1 15) = fQn A (hN A) (A 8, A 15) i ∧ hN (hHs Lo nt false A i).1 = (hN A + i) % 24 ∧ (∀ h, h < 24 → (hHs Lo nt false A i).1 (16 + h) = A (16 + h)) ∧ (hHs Lo nt false A i).1 13 = A 13
  | 0 => ⟨rfl, by show hN A = (hN A + 0) % 24; have := K.in.1; omega, fun _ _ => rfl, rfl⟩
  | i + 1 => by
    obtain ⟨a, b, c, d⟩ := hHs_q K i
    obtain ⟨a', b', c', d'⟩ := hHr_q (Lo := Lo) (K.hs (Lo := Lo) (calm := false) i)
    have hb : (hN A + i) % 24 < 24 := Nat.mod_lt _ (by omega)
    refine ⟨?_, ?_, fun h hh => (c' h hh).trans (c h hh), d'.trans d⟩
    · show ((hHr Lo nt false (hHs Lo nt false A i).1).1 8, (hHr Lo nt false (hHs Lo nt false A i).1).1 15) = fQs A ((hN A + i) % 24) (fQn A (hN A) (A 8, A 15) i)
      rw [← a]
      refine a'.trans ?_
      unfold fQs
      rw [b, c _ hb, d]
    · exact b'.trans (by rw [b]; omega)
/-- the purses of all -/
noncomputable def fPu (A : Nat → Int32) : Nat → Int32
  | 0 => Int32.ofInt 0
  | n + 1 => fPu A n + A (40 + 4 * n)
/-- the quarrel after so many hours from a seed -/
noncomputable def fSq (A : Nat → Int32) (N : Nat) (s : Int32) : Int32 := (fQn A (hN A) (A 8, s) N).1
theorem fSq_e (K : aI nf nt A) (N : Nat) : (hHs Lo nt false A N).1 8 = fSq A N (A 15) := congrArg Prod.fst (hHs_q K N).1
theorem fQn_cg {A B : Nat → Int32} (h : ∀ h, h < 24 → B (16 + h) = A (16 + h)) (h13 : B 13 = A 13) (h0 : Nat) (x : Int32 × Int32) : ∀ i, fQn B h0 x i = fQn A h0 x i
  | 0 => rfl
  | i + 1 => by
    show fQs B ((h0 + i) % 24) (fQn B h0 x i) = fQs A ((h0 + i) % 24) (fQn A h0 x i)
    rw [fQn_cg h h13 h0 x i]
    unfold fQs
    rw [h _ (Nat.mod_lt _ (by omega)), h13]
theorem fSq_s (K : aI nf nt A) (N : Nat) (s : Int32) (K' : aI nf nt (aU A 15 s)) : (hHs Lo nt false (aU A 15 s) N).1 8 = fSq A N s := by
  refine (fSq_e K' N).trans ?_
  unfold fSq
  rw [hN_cg (aU_ne (by omega)), aU_ne (show 8 ≠ 15 by omega), aU_at, fQn_cg (fun h hh => aU_ne (by omega)) (aU_ne (by omega))]
/-- the least and the greatest over seeds -/
noncomputable def fSp (A : Nat → Int32) (N : Nat) (m : Bool) : Nat → Int32
  | 0 => fSq A N (Int32.ofNat 1)
  | k + 1 => if m = true then aMa (fSp A N m k) (fSq A N (Int32.ofNat (k + 2))) else aMi (fSp A N m k) (fSq A N (Int32.ofNat (k + 2)))
theorem fSq_r (K : aI nf nt A) (N : Nat) (s : Int32) : 0 ≤ (fSq A N s).toInt := by
  rw [← fSq_s (Lo := none) K N s K.sd]
  exact (K.sd.hs (Lo := none) (calm := false) N).2.2.2.2.1.1
theorem fSp_r (K : aI nf nt A) (N : Nat) (m : Bool) : ∀ k, 0 ≤ (fSp A N m k).toInt
  | 0 => fSq_r K N _
  | k + 1 => by
    have h1 := fSp_r K N m k
    have h2 := fSq_r K N (Int32.ofNat (k + 2))
    show 0 ≤ (if m = true then aMa (fSp A N m k) (fSq A N (Int32.ofNat (k + 2))) else aMi (fSp A N m k) (fSq A N (Int32.ofNat (k + 2)))).toInt
    split
    · unfold aMa
      split
      · exact h2
      · exact h1
    · unfold aMi
      split
      · exact h2
      · exact h1
end QUA
end
