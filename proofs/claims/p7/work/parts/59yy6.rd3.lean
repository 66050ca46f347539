/-! readers of both sides, exact: widows, rich; printed with wip/gen/gen_dt.py -/
noncomputable def fBc (a0 : Int32) : Int32 := ((((((((a0 - (((a0.toUInt32 >>> ((Int32.ofInt (1)).toUInt32 &&& Int32.toUInt32 31)).toInt32) &&& (Int32.ofInt (1431655765)))) &&& (Int32.ofInt (858993459))) + ((((a0 - (((a0.toUInt32 >>> ((Int32.ofInt (1)).toUInt32 &&& Int32.toUInt32 31)).toInt32) &&& (Int32.ofInt (1431655765)))).toUInt32 >>> ((Int32.ofInt (2)).toUInt32 &&& Int32.toUInt32 31)).toInt32) &&& (Int32.ofInt (858993459)))) + (((((a0 - (((a0.toUInt32 >>> ((Int32.ofInt (1)).toUInt32 &&& Int32.toUInt32 31)).toInt32) &&& (Int32.ofInt (1431655765)))) &&& (Int32.ofInt (858993459))) + ((((a0 - (((a0.toUInt32 >>> ((Int32.ofInt (1)).toUInt32 &&& Int32.toUInt32 31)).toInt32) &&& (Int32.ofInt (1431655765)))).toUInt32 >>> ((Int32.ofInt (2)).toUInt32 &&& Int32.toUInt32 31)).toInt32) &&& (Int32.ofInt (858993459)))).toUInt32 >>> ((Int32.ofInt (4)).toUInt32 &&& Int32.toUInt32 31)).toInt32)) &&& (Int32.ofInt (252645135))) + (((((((a0 - (((a0.toUInt32 >>> ((Int32.ofInt (1)).toUInt32 &&& Int32.toUInt32 31)).toInt32) &&& (Int32.ofInt (1431655765)))) &&& (Int32.ofInt (858993459))) + ((((a0 - (((a0.toUInt32 >>> ((Int32.ofInt (1)).toUInt32 &&& Int32.toUInt32 31)).toInt32) &&& (Int32.ofInt (1431655765)))).toUInt32 >>> ((Int32.ofInt (2)).toUInt32 &&& Int32.toUInt32 31)).toInt32) &&& (Int32.ofInt (858993459)))) + (((((a0 - (((a0.toUInt32 >>> ((Int32.ofInt (1)).toUInt32 &&& Int32.toUInt32 31)).toInt32) &&& (Int32.ofInt (1431655765)))) &&& (Int32.ofInt (858993459))) + ((((a0 - (((a0.toUInt32 >>> ((Int32.ofInt (1)).toUInt32 &&& Int32.toUInt32 31)).toInt32) &&& (Int32.ofInt (1431655765)))).toUInt32 >>> ((Int32.ofInt (2)).toUInt32 &&& Int32.toUInt32 31)).toInt32) &&& (Int32.ofInt (858993459)))).toUInt32 >>> ((Int32.ofInt (4)).toUInt32 &&& Int32.toUInt32 31)).toInt32)) &&& (Int32.ofInt (252645135))).toUInt32 >>> ((Int32.ofInt (8)).toUInt32 &&& Int32.toUInt32 31)).toInt32)) + ((((((((a0 - (((a0.toUInt32 >>> ((Int32.ofInt (1)).toUInt32 &&& Int32.toUInt32 31)).toInt32) &&& (Int32.ofInt (1431655765)))) &&& (Int32.ofInt (858993459))) + ((((a0 - (((a0.toUInt32 >>> ((Int32.ofInt (1)).toUInt32 &&& Int32.toUInt32 31)).toInt32) &&& (Int32.ofInt (1431655765)))).toUInt32 >>> ((Int32.ofInt (2)).toUInt32 &&& Int32.toUInt32 31)).toInt32) &&& (Int32.ofInt (858993459)))) + (((((a0 - (((a0.toUInt32 >>> ((Int32.ofInt (1)).toUInt32 &&& Int32.toUInt32 31)).toInt32) &&& (Int32.ofInt (1431655765)))) &&& (Int32.ofInt (858993459))) + ((((a0 - (((a0.toUInt32 >>> ((Int32.ofInt (1)).toUInt32 &&& Int32.toUInt32 31)).toInt32) &&& (Int32.ofInt (1431655765)))).toUInt32 >>> ((Int32.ofInt (2)).toUInt32 &&& Int32.toUInt32 31)).toInt32) &&& (Int32.ofInt (858993459)))).toUInt32 >>> ((Int32.ofInt (4)).toUInt32 &&& Int32.toUInt32 31)).toInt32)) &&& (Int32.ofInt (252645135))) + (((((((a0 - (((a0.toUInt32 >>> ((Int32.ofInt (1)).toUInt32 &&& Int32.toUInt32 31)).toInt32) &&& (Int32.ofInt (1431655765)))) &&& (Int32.ofInt (858993459))) + ((((a0 - (((a0.toUInt32 >>> ((Int32.ofInt (1)).toUInt32 &&& Int32.toUInt32 31)).toInt32) &&& (Int32.ofInt (1431655765)))).toUInt32 >>> ((Int32.ofInt (2)).toUInt32 &&& Int32.toUInt32 31)).toInt32) &&& (Int32.ofInt (858993459)))) + (((((a0 - (((a0.toUInt32 >>> ((Int32.ofInt (1)).toUInt32 &&& Int32.toUInt32 31)).toInt32) &&& (Int32.ofInt (1431655765)))) &&& (Int32.ofInt (858993459))) + ((((a0 - (((a0.toUInt32 >>> ((Int32.ofInt (1)).toUInt32 &&& Int32.toUInt32 31)).toInt32) &&& (Int32.ofInt (1431655765)))).toUInt32 >>> ((Int32.ofInt (2)).toUInt32 &&& Int32.toUInt32 31)).toInt32) &&& (Int32.ofInt (858993459)))).toUInt32 >>> ((Int32.ofInt (4)).toUInt32 &&& Int32.toUInt32 31)).toInt32)) &&& (Int32.ofInt (252645135))).toUInt32 >>> ((Int32.ofInt (8)).toUInt32 &&& Int32.toUInt32 31)).toInt32)).toUInt32 >>> ((Int32.ofInt (16)).toUInt32 &&& Int32.toUInt32 31)).toInt32)) &&& (Int32.ofInt (63)))
theorem zJ_311 : zJ3 311 z_m311 z_c311 z_h311 := ⟨rfl, rfl, rfl⟩
noncomputable def p_311 (x : Int32) (σ : zSg) (r : Int32) (σ' : zSg) : Prop := σ' = σ ∧ r = fBc x
theorem sp_311_e (a0 : Int32) (σ : zSg)  :
    p_311 (a0) σ ((((((((a0 - (((a0.toUInt32 >>> ((Int32.ofInt (1)).toUInt32 &&& Int32.toUInt32 31)).toInt32) &&& (Int32.ofInt (1431655765)))) &&& (Int32.ofInt (858993459))) + ((((a0 - (((a0.toUInt32 >>> ((Int32.ofInt (1)).toUInt32 &&& Int32.toUInt32 31)).toInt32) &&& (Int32.ofInt (1431655765)))).toUInt32 >>> ((Int32.ofInt (2)).toUInt32 &&& Int32.toUInt32 31)).toInt32) &&& (Int32.ofInt (858993459)))) + (((((a0 - (((a0.toUInt32 >>> ((Int32.ofInt (1)).toUInt32 &&& Int32.toUInt32 31)).toInt32) &&& (Int32.ofInt (1431655765)))) &&& (Int32.ofInt (858993459))) + ((((a0 - (((a0.toUInt32 >>> ((Int32.ofInt (1)).toUInt32 &&& Int32.toUInt32 31)).toInt32) &&& (Int32.ofInt (1431655765)))).toUInt32 >>> ((Int32.ofInt (2)).toUInt32 &&& Int32.toUInt32 31)).toInt32) &&& (Int32.ofInt (858993459)))).toUInt32 >>> ((Int32.ofInt (4)).toUInt32 &&& Int32.toUInt32 31)).toInt32)) &&& (Int32.ofInt (252645135))) + (((((((a0 - (((a0.toUInt32 >>> ((Int32.ofInt (1)).toUInt32 &&& Int32.toUInt32 31)).toInt32) &&& (Int32.ofInt (1431655765)))) &&& (Int32.ofInt (858993459))) + ((((a0 - (((a0.toUInt32 >>> ((Int32.ofInt (1)).toUInt32 &&& Int32.toUInt32 31)).toInt32) &&& (Int32.ofInt (1431655765)))).toUInt32 >>> ((Int32.ofInt (2)).toUInt32 &&& Int32.toUInt32 31)).toInt32) &&& (Int32.ofInt (858993459)))) + (((((a0 - (((a0.toUInt32 >>> ((Int32.ofInt (1)).toUInt32 &&& Int32.toUInt32 31)).toInt32) &&& (Int32.ofInt (1431655765)))) &&& (Int32.ofInt (858993459))) + ((((a0 - (((a0.toUInt32 >>> ((Int32.ofInt (1)).toUInt32 &&& Int32.toUInt32 31)).toInt32) &&& (Int32.ofInt (1431655765)))).toUInt32 >>> ((Int32.ofInt (2)).toUInt32 &&& Int32.toUInt32 31)).toInt32) &&& (Int32.ofInt (858993459)))).toUInt32 >>> ((Int32.ofInt (4)).toUInt32 &&& Int32.toUInt32 31)).toInt32)) &&& (Int32.ofInt (252645135))).toUInt32 >>> ((Int32.ofInt (8)).toUInt32 &&& Int32.toUInt32 31)).toInt32)) + ((((((((a0 - (((a0.toUInt32 >>> ((Int32.ofInt (1)).toUInt32 &&& Int32.toUInt32 31)).toInt32) &&& (Int32.ofInt (1431655765)))) &&& (Int32.ofInt (858993459))) + ((((a0 - (((a0.toUInt32 >>> ((Int32.ofInt (1)).toUInt32 &&& Int32.toUInt32 31)).toInt32) &&& (Int32.ofInt (1431655765)))).toUInt32 >>> ((Int32.ofInt (2)).toUInt32 &&& Int32.toUInt32 31)).toInt32) &&& (Int32.ofInt (858993459)))) + (((((a0 - (((a0.toUInt32 >>> ((Int32.ofInt (1)).toUInt32 &&& Int32.toUInt32 31)).toInt32) &&& (Int32.ofInt (1431655765)))) &&& (Int32.ofInt (858993459))) + ((((a0 - (((a0.toUInt32 >>> ((Int32.ofInt (1)).toUInt32 &&& Int32.toUInt32 31)).toInt32) &&& (Int32.ofInt (1431655765)))).toUInt32 >>> ((Int32.ofInt (2)).toUInt32 &&& Int32.toUInt32 31)).toInt32) &&& (Int32.ofInt (858993459)))).toUInt32 >>> ((Int32.ofInt (4)).toUInt32 &&& Int32.toUInt32 31)).toInt32)) &&& (Int32.ofInt (252645135))) + (((((((a0 - (((a0.toUInt32 >>> ((Int32.ofInt (1)).toUInt32 &&& Int32.toUInt32 31)).toInt32) &&& (Int32.ofInt (1431655765)))) &&& (Int32.ofInt (858993459))) + ((((a0 - (((a0.toUInt32 >>> ((Int32.ofInt (1)).toUInt32 &&& Int32.toUInt32 31)).toInt32) &&& (Int32.ofInt (1431655765)))).toUInt32 >>> ((Int32.ofInt (2)).toUInt32 &&& Int32.toUInt32 31)).toInt32) &&& (Int32.ofInt (858993459)))) + (((((a0 - (((a0.toUInt32 >>> ((Int32.ofInt (1)).toUInt32 &&& Int32.toUInt32 31)).toInt32) &&& (Int32.ofInt (1431655765)))) &&& (Int32.ofInt (858993459))) + ((((a0 - (((a0.toUInt32 >>> ((Int32.ofInt (1)).toUInt32 &&& Int32.toUInt32 31)).toInt32) &&& (Int32.ofInt (1431655765)))).toUInt32 >>> ((Int32.ofInt (2)).toUInt32 &&& Int32.toUInt32 31)).toInt32) &&& (Int32.ofInt (858993459)))).toUInt32 >>> ((Int32.ofInt (4)).toUInt32 &&& Int32.toUInt32 31)).toInt32)) &&& (Int32.ofInt (252645135))).toUInt32 >>> ((Int32.ofInt (8)).toUInt32 &&& Int32.toUInt32 31)).toInt32)).toUInt32 >>> ((Int32.ofInt (16)).toUInt32 &&& Int32.toUInt32 31)).toInt32)) &&& (Int32.ofInt (63))) σ := by
  exact ⟨rfl, rfl⟩
noncomputable def qP_311 : zPp := fun as σ o σ' => match as with
  | [a0] => ∃ r, o = .inl (some (.int r)) ∧ p_311 (q_i a0) σ r σ'
  | _ => True
set_option maxRecDepth 100000 in
theorem sp_311 {sx : zX}  : zEe sx 311 1 qP_311 := by
  refine zfle zJ_311 (sps := []) (fun q hq => absurd hq List.not_mem_nil) (fun as σ hl => ?_)
  match as, hl with
  | [a0], _ =>
  refine ⟨[], 400, ?_, ?_⟩
  · exact fun q hq => absurd hq List.not_mem_nil
  · exact ⟨_, rfl, sp_311_e (q_i a0) σ ⟩
theorem zJ_243 : zJ3 243 z_m243 z_c243 z_h243 := ⟨rfl, rfl, rfl⟩
noncomputable def p_243 (a : Nat) (f : Int32) (σ : zSg) (r : Int32) (σ' : zSg) : Prop := σ' = σ ∧ (a = 205 → ∀ A, rW σ A → r = fBc (fB (fun h => decide (A (16 + h) = f)) 24))
theorem sp_243_e (a0 : Nat) (a1 : Int32) (σ : zSg) (τ1 : zSg) (r1 : Int32) (τ2 : zSg) (r2 : Int32) (g1 : p_242 a0 a1 σ r1 τ1) (g2 : p_311 r1 τ1 r2 τ2) :
    p_243 (a0) (a1) σ r2 τ2 := by
  obtain ⟨rfl, g1⟩ := g1
  obtain ⟨rfl, x2⟩ := g2
  exact ⟨rfl, fun h A w => by rw [x2, g1 h A w]⟩
noncomputable def qP_243 : zPp := fun as σ o σ' => match as with
  | [a0, a1] => ∃ r, o = .inl (some (.int r)) ∧ p_243 (q_r a0) (q_i a1) σ r σ'
  | _ => True
set_option maxRecDepth 100000 in
theorem sp_243 {sx : zX} (S242 : zEe sx 242 2 qP_242) (S311 : zEe sx 311 1 qP_311) : zEe sx 243 2 qP_243 := by
  refine zfle zJ_243 (sps := [(242, 2, qP_242), (311, 1, qP_311)]) (fun q hq => by
    simp only [List.mem_cons, List.not_mem_nil, or_false] at hq
    rcases hq with rfl | rfl
    · exact S242
    · exact S311) (fun as σ hl => ?_)
  match as, hl with
  | [a0, a1], _ =>
  refine ⟨[], 400, ?_, ?_⟩
  · exact fun q hq => absurd hq List.not_mem_nil
  · refine fun o1 τ1 g1 => ?_
    obtain ⟨r1, rfl, g1⟩ := g1
    refine fun o2 τ2 g2 => ?_
    obtain ⟨r2, rfl, g2⟩ := g2
    exact ⟨_, rfl, sp_243_e (q_r a0) (q_i a1) σ τ1 r1 τ2 r2 g1 g2⟩
noncomputable def fHs (A : Nat → Int32) (F : Nat) : Int32 := fB (fun h => decide (A (16 + h) = Int32.ofNat F)) 24
noncomputable def fSh (A : Nat → Int32) (F : Nat) : Int32 := fBc (fHs A F)
theorem fHo {nf nt F : Nat} {A : Nat → Int32} (I : aI nf nt A) (hF : F < nf) : fB (fun h => decide (A (16 + h) ≠ Int32.ofInt (-1)) && btb (Int32.ofInt 1 <<< (Int32.ofNat F &&& 31)) (A (16 + h))) 24 = fHs A F := fB_cg 24 (fun h hh => by
  have k6 := I.1.2.1
  rcases I.2.1 h hh with q | ⟨G, hG, q⟩
  · rw [q]
    have ne : ¬ Int32.ofInt (-1) = Int32.ofNat F := fun e => by
      have := congrArg Int32.toInt e
      rw [o32 (by omega), show (Int32.ofInt (-1)).toInt = -1 from rfl] at this
      omega
    rw [decide_eq_false ne]
    rfl
  · have ne : Int32.ofNat G ≠ Int32.ofInt (-1) := fun e => by
      have := congrArg Int32.toInt e
      rw [o32 (by omega), show (Int32.ofInt (-1)).toInt = -1 from rfl] at this
      omega
    rw [q, decide_eq_true ne, Bool.true_and, btb_1 (by omega) (by omega)]
    by_cases e : F = G
    · subst e
      rw [decide_eq_true (p := F = F) rfl, decide_eq_true (p := Int32.ofNat F = Int32.ofNat F) rfl]
    · rw [decide_eq_false e, decide_eq_false (fun e2 => e ?_)]
      have := congrArg Int32.toInt e2
      rw [o32 (by omega), o32 (by omega)] at this
      omega)
noncomputable def fWd (A : Nat → Int32) : Nat → Int32
  | 0 => Int32.ofInt 0
  | n + 1 => fWd A n ||| (if fSh A n = Int32.ofInt 1 then Int32.ofInt 1 <<< (Int32.ofNat n &&& 31) else Int32.ofInt 0)
noncomputable def fRv (A : Nat → Int32) (n : Nat) : Int32 := A (40 + 4 * n) + A 12 * fSh A n
noncomputable def fRi (A : Nat → Int32) : Nat → Int32 × Int32
  | 0 => (Int32.ofInt (-1), Int32.ofInt (-1))
  | n + 1 => if (fRi A n).2 < fRv A n then (Int32.ofNat n, fRv A n) else fRi A n
theorem fRi_y {A : Nat → Int32} {n : Nat} (h : (fRi A n).2 < fRv A n) : fRi A (n + 1) = (Int32.ofNat n, fRv A n) := if_pos h
theorem fRi_n {A : Nat → Int32} {n : Nat} (h : ¬ (fRi A n).2 < fRv A n) : fRi A (n + 1) = fRi A n := if_neg h
theorem zJ_75 : zJ3 75 z_m75 z_c75 z_h75 := ⟨rfl, rfl, rfl⟩
noncomputable def p_75 (b : Nat) (σ : zSg) (r : Int32) (σ' : zSg) : Prop := σ' = σ ∧ ∀ A nf nt, hH σ b A → aI nf nt A → r = fWd A nf
noncomputable def i_75 (b : Nat) (σ : zSg) (l0 : Nat) (l1 l2 : Int32) (τ : zSg) : Prop := l0 = b ∧ τ = σ ∧ ∀ A nf nt, hH σ b A → aI nf nt A → ∃ n, n ≤ nf ∧ l2 = Int32.ofNat n ∧ l1 = fWd A n
theorem sp_75_e (a0 : Nat) (σ : zSg)  :
    i_75 a0 σ a0 (Int32.ofInt (0)) (Int32.ofInt (0)) σ := by
  exact ⟨rfl, rfl, fun A nf nt _ _ => ⟨0, by omega, rfl, rfl⟩⟩
theorem sp_75_c4_t (a0 : Nat) (σ : zSg) (l0 : Nat) (l1 : Int32) (l2 : Int32) (τ : zSg) (hI : i_75 a0 σ l0 l1 l2 τ) (h1 : l2.toInt ≥ (q_i (τ.1 (q_r (τ.1 l0 1)) 4)).toInt) :
    p_75 (a0) σ l1 τ := by
  obtain ⟨rfl, rfl, hI⟩ := hI
  refine ⟨rfl, fun A nf nt K I => ?_⟩
  obtain ⟨n, hn, e2, e1⟩ := hI A nf nt K I
  have k6 := I.1.2.1
  have p0 : q_i (τ.1 (l0 + 2) 4) = A 0 := K.p hp_0
  rw [K.k hk_1, p0, I.1.1, e2, o32 (by omega), o32 (by omega)] at h1
  have : n = nf := by omega
  subst this
  exact e1
theorem sp_75_c4_ft (a0 : Nat) (σ : zSg) (l0 : Nat) (l1 : Int32) (l2 : Int32) (τ : zSg) (τ2 : zSg) (r2 : Int32) (τ3 : zSg) (r3 : Int32) (hI : i_75 a0 σ l0 l1 l2 τ) (h1 : l2.toInt < (q_i (τ.1 (q_r (τ.1 l0 1)) 4)).toInt) (g2 : p_28 l0 ((Int32.ofInt (1)) <<< (l2 &&& 31)) τ r2 τ2) (g3 : p_311 r2 τ2 r3 τ3) (h4 : r3.toInt ≠ (1 : Int)) :
    i_75 a0 σ l0 l1 (l2 + Int32.ofInt (1)) τ3 := by
  obtain ⟨rfl, rfl, hI⟩ := hI
  obtain ⟨ea, g1⟩ := g2
  subst ea
  obtain ⟨eb, x2⟩ := g3
  subst eb
  refine ⟨rfl, rfl, fun A nf nt K I => ?_⟩
  obtain ⟨n, hn, e2, e1⟩ := hI A nf nt K I
  have k6 := I.1.2.1
  have p0 : q_i (τ3.1 (l0 + 2) 4) = A 0 := K.p hp_0
  rw [K.k hk_1, p0, I.1.1, e2, o32 (by omega), o32 (by omega)] at h1
  have x1 := g1 A K
  rw [e2, fHo I (show n < nf by omega)] at x1
  have xs : r3 = fSh A n := by rw [x2, x1]; rfl
  refine ⟨n + 1, by omega, by rw [e2]; exact o32i (by omega), ?_⟩
  show _ = fWd A n ||| _
  rw [if_neg (fun q => h4 (by rw [xs, q]; rfl)), e1]
  exact Int32.or_zero.symm
theorem sp_75_c4_ff (a0 : Nat) (σ : zSg) (l0 : Nat) (l1 : Int32) (l2 : Int32) (τ : zSg) (τ2 : zSg) (r2 : Int32) (τ3 : zSg) (r3 : Int32) (hI : i_75 a0 σ l0 l1 l2 τ) (h1 : l2.toInt < (q_i (τ.1 (q_r (τ.1 l0 1)) 4)).toInt) (g2 : p_28 l0 ((Int32.ofInt (1)) <<< (l2 &&& 31)) τ r2 τ2) (g3 : p_311 r2 τ2 r3 τ3) (h4 : r3.toInt = (1 : Int)) :
    i_75 a0 σ l0 (l1 ||| ((Int32.ofInt (1)) <<< (l2 &&& 31))) (l2 + Int32.ofInt (1)) τ3 := by
  obtain ⟨rfl, rfl, hI⟩ := hI
  obtain ⟨ea, g1⟩ := g2
  subst ea
  obtain ⟨eb, x2⟩ := g3
  subst eb
  refine ⟨rfl, rfl, fun A nf nt K I => ?_⟩
  obtain ⟨n, hn, e2, e1⟩ := hI A nf nt K I
  have k6 := I.1.2.1
  have p0 : q_i (τ3.1 (l0 + 2) 4) = A 0 := K.p hp_0
  rw [K.k hk_1, p0, I.1.1, e2, o32 (by omega), o32 (by omega)] at h1
  have x1 := g1 A K
  rw [e2, fHo I (show n < nf by omega)] at x1
  have xs : r3 = fSh A n := by rw [x2, x1]; rfl
  refine ⟨n + 1, by omega, by rw [e2]; exact o32i (by omega), ?_⟩
  show _ = fWd A n ||| _
  rw [xs] at h4
  rw [if_pos (Int32.toInt_inj.mp (h4.trans (show (1 : Int) = (Int32.ofInt 1).toInt from rfl))), e1, e2]
noncomputable def qP_75 : zPp := fun as σ o σ' => match as with
  | [a0] => ∃ r, o = .inl (some (.int r)) ∧ p_75 (q_r a0) σ r σ'
  | _ => True
set_option maxRecDepth 100000 in
theorem sp_75 {sx : zX} (S28 : zEe sx 28 2 qP_28) (S311 : zEe sx 311 1 qP_311) : zEe sx 75 1 qP_75 := by
  refine zfle zJ_75 (sps := [(28, 2, qP_28), (311, 1, qP_311)]) (fun q hq => by
    simp only [List.mem_cons, List.not_mem_nil, or_false] at hq
    rcases hq with rfl | rfl
    · exact S28
    · exact S311) (fun as σ hl => ?_)
  match as, hl with
  | [a0], _ =>
  refine ⟨[(4, fun lo st τ => st = [] ∧ i_75 (q_r a0) σ (q_r (lo 0)) (q_i (lo 1)) (q_i (lo 2)) τ)], 400, ?_, ?_⟩
  · intro q hq
    simp only [List.mem_cons, List.not_mem_nil, or_false] at hq
    rcases hq with rfl
    · rintro lo st τ ⟨rfl, hI⟩
      refine ⟨400, ?_⟩
      refine And.intro (fun h1 => ?_) (fun h1 => ?_)
      · exact ⟨_, rfl, sp_75_c4_t (q_r a0) σ (q_r (lo 0)) (q_i (lo 1)) (q_i (lo 2)) τ hI (cm3t h1)⟩
      · refine fun o2 τ2 g2 => ?_
        obtain ⟨r2, rfl, g2⟩ := g2
        refine fun o3 τ3 g3 => ?_
        obtain ⟨r3, rfl, g3⟩ := g3
        refine And.intro (fun h4 => ?_) (fun h4 => ?_)
        · exact ⟨rfl, sp_75_c4_ft (q_r a0) σ (q_r (lo 0)) (q_i (lo 1)) (q_i (lo 2)) τ τ2 r2 τ3 r3 hI (cm3f h1) g2 g3 (cm1t h4)⟩
        · exact ⟨rfl, sp_75_c4_ff (q_r a0) σ (q_r (lo 0)) (q_i (lo 1)) (q_i (lo 2)) τ τ2 r2 τ3 r3 hI (cm3f h1) g2 g3 (cm1f h4)⟩
  · exact ⟨rfl, sp_75_e (q_r a0) σ ⟩
theorem zJ_150 : zJ3 150 z_m150 z_c150 z_h150 := ⟨rfl, rfl, rfl⟩
noncomputable def p_150 (a : Nat) (σ : zSg) (r : Int32) (σ' : zSg) : Prop := a = 0 → xSk σ → σ' = σ ∧ ∀ A nf nt, hH σ 8 A → aI nf nt A → r = fWd A nf
theorem sp_150_e (a0 : Nat) (σ : zSg) (τ1 : zSg) (r1 : Int32) (g1 : p_75 (q_r (σ.1 a0 2)) σ r1 τ1) :
    p_150 (a0) σ r1 τ1 := by
  rintro rfl K
  have d2 : q_r (σ.1 0 2) = 8 := by rw [K.2.1]; rfl
  rw [d2] at g1
  exact g1
noncomputable def qP_150 : zPp := fun as σ o σ' => match as with
  | [a0] => ∃ r, o = .inl (some (.int r)) ∧ p_150 (q_r a0) σ r σ'
  | _ => True
set_option maxRecDepth 100000 in
theorem sp_150 {sx : zX} (S75 : zEe sx 75 1 qP_75) : zEe sx 150 1 qP_150 := by
  refine zfle zJ_150 (sps := [(75, 1, qP_75)]) (fun q hq => by
    simp only [List.mem_cons, List.not_mem_nil, or_false] at hq
    rcases hq with rfl
    · exact S75) (fun as σ hl => ?_)
  match as, hl with
  | [a0], _ =>
  refine ⟨[], 400, ?_, ?_⟩
  · exact fun q hq => absurd hq List.not_mem_nil
  · refine fun o1 τ1 g1 => ?_
    obtain ⟨r1, rfl, g1⟩ := g1
    exact ⟨_, rfl, sp_150_e (q_r a0) σ τ1 r1 g1⟩
theorem zJ_280 : zJ3 280 z_m280 z_c280 z_h280 := ⟨rfl, rfl, rfl⟩
noncomputable def p_280 (a : Nat) (σ : zSg) (r : Int32) (σ' : zSg) : Prop := a = 205 → ∀ A nf nt, rW σ A → aI nf nt A → σ' = r0 σ ∧ r = fWd A nf
noncomputable def i_280 (a : Nat) (σ : zSg) (l0 : Nat) (l1 l2 : Int32) (τ : zSg) : Prop := l0 = a ∧ (a = 205 → ∀ A nf nt, rW σ A → aI nf nt A → τ = r0 σ ∧ ∃ n, n ≤ nf ∧ l2 = Int32.ofNat n ∧ l1 = fWd A n)
theorem sp_280_e (a0 : Nat) (σ : zSg)  :
    i_280 a0 σ a0 (Int32.ofInt (0)) (Int32.ofInt (0)) (q_w σ a0 0 (.int (Int32.ofInt (0)))) := by
  refine ⟨rfl, ?_⟩
  rintro rfl A nf nt w I
  exact ⟨rfl, 0, by omega, rfl, rfl⟩
theorem sp_280_c7_t (a0 : Nat) (σ : zSg) (l0 : Nat) (l1 : Int32) (l2 : Int32) (τ : zSg) (τ1 : zSg) (r1 : Int32) (hI : i_280 a0 σ l0 l1 l2 τ) (g1 : p_184 l0 τ r1 τ1) (h2 : l2.toInt ≥ r1.toInt) :
    p_280 (a0) σ l1 τ1 := by
  obtain ⟨rfl, hI⟩ := hI
  intro h A nf nt w I
  obtain ⟨e0, n, hn, e2, e1⟩ := hI h A nf nt w I
  have k6 := I.1.2.1
  have w0 : rW τ A := by rw [e0]; exact w.el (by omega)
  obtain ⟨ea, ga⟩ := g1
  subst ea
  have x1 := ga h A w0
  rw [x1, I.1.1, e2, o32 (by omega), o32 (by omega)] at h2
  have : n = nf := by omega
  subst this
  exact ⟨e0, e1⟩
theorem sp_280_c7_ft (a0 : Nat) (σ : zSg) (l0 : Nat) (l1 : Int32) (l2 : Int32) (τ : zSg) (τ1 : zSg) (r1 : Int32) (τ3 : zSg) (r3 : Int32) (hI : i_280 a0 σ l0 l1 l2 τ) (g1 : p_184 l0 τ r1 τ1) (h2 : l2.toInt < r1.toInt) (g3 : p_243 l0 l2 τ1 r3 τ3) (h4 : r3.toInt ≠ (1 : Int)) :
    i_280 a0 σ l0 (l1 ||| (Int32.ofInt (0))) (l2 + Int32.ofInt (1)) τ3 := by
  obtain ⟨rfl, hI⟩ := hI
  obtain ⟨ea, ga⟩ := g1
  subst ea
  obtain ⟨eb, gb⟩ := g3
  subst eb
  refine ⟨rfl, fun h A nf nt w I => ?_⟩
  obtain ⟨e0, n, hn, e2, e1⟩ := hI h A nf nt w I
  have k6 := I.1.2.1
  have w0 : rW τ3 A := by rw [e0]; exact w.el (by omega)
  have x1 := ga h A w0
  rw [x1, I.1.1, e2, o32 (by omega), o32 (by omega)] at h2
  have xs : r3 = fSh A n := by rw [gb h A w0, e2]; rfl
  refine ⟨e0, n + 1, by omega, by rw [e2]; exact o32i (by omega), ?_⟩
  show _ = fWd A n ||| _
  rw [if_neg (fun q => h4 (by rw [xs, q]; rfl)), e1]
theorem sp_280_c7_ff (a0 : Nat) (σ : zSg) (l0 : Nat) (l1 : Int32) (l2 : Int32) (τ : zSg) (τ1 : zSg) (r1 : Int32) (τ3 : zSg) (r3 : Int32) (hI : i_280 a0 σ l0 l1 l2 τ) (g1 : p_184 l0 τ r1 τ1) (h2 : l2.toInt < r1.toInt) (g3 : p_243 l0 l2 τ1 r3 τ3) (h4 : r3.toInt = (1 : Int)) :
    i_280 a0 σ l0 (l1 ||| ((Int32.ofInt (1)) <<< (l2 &&& 31))) (l2 + Int32.ofInt (1)) τ3 := by
  obtain ⟨rfl, hI⟩ := hI
  obtain ⟨ea, ga⟩ := g1
  subst ea
  obtain ⟨eb, gb⟩ := g3
  subst eb
  refine ⟨rfl, fun h A nf nt w I => ?_⟩
  obtain ⟨e0, n, hn, e2, e1⟩ := hI h A nf nt w I
  have k6 := I.1.2.1
  have w0 : rW τ3 A := by rw [e0]; exact w.el (by omega)
  have x1 := ga h A w0
  rw [x1, I.1.1, e2, o32 (by omega), o32 (by omega)] at h2
  have xs : r3 = fSh A n := by rw [gb h A w0, e2]; rfl
  refine ⟨e0, n + 1, by omega, by rw [e2]; exact o32i (by omega), ?_⟩
  show _ = fWd A n ||| _
  rw [xs] at h4
  rw [if_pos (Int32.toInt_inj.mp (h4.trans (show (1 : Int) = (Int32.ofInt 1).toInt from rfl))), e1, e2]
noncomputable def qP_280 : zPp := fun as σ o σ' => match as with
  | [a0] => ∃ r, o = .inl (some (.int r)) ∧ p_280 (q_r a0) σ r σ'
  | _ => True
set_option maxRecDepth 100000 in
theorem sp_280 {sx : zX} (S184 : zEe sx 184 1 qP_184) (S243 : zEe sx 243 2 qP_243) : zEe sx 280 1 qP_280 := by
  refine zfle zJ_280 (sps := [(184, 1, qP_184), (243, 2, qP_243)]) (fun q hq => by
    simp only [List.mem_cons, List.not_mem_nil, or_false] at hq
    rcases hq with rfl | rfl
    · exact S184
    · exact S243) (fun as σ hl => ?_)
  match as, hl with
  | [a0], _ =>
  refine ⟨[(7, fun lo st τ => st = [] ∧ i_280 (q_r a0) σ (q_r (lo 0)) (q_i (lo 1)) (q_i (lo 2)) τ)], 400, ?_, ?_⟩
  · intro q hq
    simp only [List.mem_cons, List.not_mem_nil, or_false] at hq
    rcases hq with rfl
    · rintro lo st τ ⟨rfl, hI⟩
      refine ⟨400, ?_⟩
      refine fun o1 τ1 g1 => ?_
      obtain ⟨r1, rfl, g1⟩ := g1
      refine And.intro (fun h2 => ?_) (fun h2 => ?_)
      · exact ⟨_, rfl, sp_280_c7_t (q_r a0) σ (q_r (lo 0)) (q_i (lo 1)) (q_i (lo 2)) τ τ1 r1 hI g1 (cm3t h2)⟩
      · refine fun o3 τ3 g3 => ?_
        obtain ⟨r3, rfl, g3⟩ := g3
        refine And.intro (fun h4 => ?_) (fun h4 => ?_)
        · exact ⟨rfl, sp_280_c7_ft (q_r a0) σ (q_r (lo 0)) (q_i (lo 1)) (q_i (lo 2)) τ τ1 r1 τ3 r3 hI g1 (cm3f h2) g3 (cm1t h4)⟩
        · exact ⟨rfl, sp_280_c7_ff (q_r a0) σ (q_r (lo 0)) (q_i (lo 1)) (q_i (lo 2)) τ τ1 r1 τ3 r3 hI g1 (cm3f h2) g3 (cm1f h4)⟩
  · exact ⟨rfl, sp_280_e (q_r a0) σ ⟩
theorem zJ_116 : zJ3 116 z_m116 z_c116 z_h116 := ⟨rfl, rfl, rfl⟩
noncomputable def p_116 (b : Nat) (σ : zSg) (r : Int32) (σ' : zSg) : Prop := σ' = σ ∧ ∀ A nf nt, hH σ b A → aI nf nt A → r = (fRi A nf).1
noncomputable def i_116 (b : Nat) (σ : zSg) (l0 : Nat) (l1 l2 l3 : Int32) (τ : zSg) : Prop := l0 = b ∧ τ = σ ∧ ∀ A nf nt, hH σ b A → aI nf nt A → ∃ n, n ≤ nf ∧ l3 = Int32.ofNat n ∧ l1 = (fRi A n).1 ∧ l2 = (fRi A n).2
theorem sp_116_e (a0 : Nat) (σ : zSg)  :
    i_116 a0 σ a0 (Int32.ofInt (-1)) (Int32.ofInt (-1)) (Int32.ofInt (0)) σ := by
  exact ⟨rfl, rfl, fun A nf nt _ _ => ⟨0, by omega, rfl, rfl, rfl⟩⟩
theorem sp_116_c6_t (a0 : Nat) (σ : zSg) (l0 : Nat) (l1 : Int32) (l2 : Int32) (l3 : Int32) (τ : zSg) (hI : i_116 a0 σ l0 l1 l2 l3 τ) (h1 : l3.toInt ≥ (q_i (τ.1 (q_r (τ.1 l0 1)) 4)).toInt) :
    p_116 (a0) σ l1 τ := by
  obtain ⟨rfl, rfl, hI⟩ := hI
  refine ⟨rfl, fun A nf nt K I => ?_⟩
  obtain ⟨n, hn, e3, e1⟩ := hI A nf nt K I
  have k6 := I.1.2.1
  have p0 : q_i (τ.1 (l0 + 2) 4) = A 0 := K.p hp_0
  rw [K.k hk_1, p0, I.1.1, e3, o32 (by omega), o32 (by omega)] at h1
  have : n = nf := by omega
  subst this
  exact e1.1
theorem sp_116_c6_ft (a0 : Nat) (σ : zSg) (l0 : Nat) (l1 : Int32) (l2 : Int32) (l3 : Int32) (τ : zSg) (τ2 : zSg) (r2 : Int32) (τ3 : zSg) (r3 : Int32) (hI : i_116 a0 σ l0 l1 l2 l3 τ) (h1 : l3.toInt < (q_i (τ.1 (q_r (τ.1 l0 1)) 4)).toInt) (g2 : p_28 l0 ((Int32.ofInt (1)) <<< (l3 &&& 31)) τ r2 τ2) (g3 : p_311 r2 τ2 r3 τ3) (h4 : 0 ≤ l3.toInt ∧ l3.toInt < (τ3.2.1 (q_r (τ3.1 (q_r (τ3.1 l0 1)) 0)) : Int)) (h5 : ((q_i (τ3.1 (q_r (τ3.1 (q_r (τ3.1 l0 1)) 0)) l3.toNatClampNeg)) + ((q_i (τ3.1 l0 15)) * r3)).toInt ≤ l2.toInt) :
    i_116 a0 σ l0 l1 l2 (l3 + Int32.ofInt (1)) τ3 := by
  obtain ⟨rfl, rfl, hI⟩ := hI
  obtain ⟨ea, g1⟩ := g2
  subst ea
  obtain ⟨eb, x2⟩ := g3
  subst eb
  refine ⟨rfl, rfl, fun A nf nt K I => ?_⟩
  obtain ⟨n, hn, e3, e1⟩ := hI A nf nt K I
  have k6 := I.1.2.1
  have p0 : q_i (τ3.1 (l0 + 2) 4) = A 0 := K.p hp_0
  rw [K.k hk_1, p0, I.1.1, e3, o32 (by omega), o32 (by omega)] at h1
  have x1 := g1 A K
  rw [e3, fHo I (show n < nf by omega)] at x1
  have xs : r3 = fSh A n := by rw [x2, x1]; rfl
  have u0 : q_i (τ3.1 (l0 + 3) n) = A (40 + 4 * n) := K.p (hp_f0 (by omega))
  have u12 : q_i (τ3.1 l0 15) = A 12 := K.p (hp_s (k := 12) (by omega) (by omega))
  have ev : q_i (τ3.1 (q_r (τ3.1 (q_r (τ3.1 l0 1)) 0)) l3.toNatClampNeg) + q_i (τ3.1 l0 15) * r3 = fRv A n := by
    rw [K.k hk_1, K.k hk_f0, e3, o32n (by omega), u0, u12, xs]
    rfl
  rw [ev, e1.2] at h5
  have nl : ¬ (fRi A n).2 < fRv A n := fun q => by rw [Int32.lt_iff_toInt_lt] at q; omega
  rw [← fRi_n nl] at e1
  exact ⟨n + 1, by omega, by rw [e3]; exact o32i (by omega), e1⟩
theorem sp_116_c6_ff (a0 : Nat) (σ : zSg) (l0 : Nat) (l1 : Int32) (l2 : Int32) (l3 : Int32) (τ : zSg) (τ2 : zSg) (r2 : Int32) (τ3 : zSg) (r3 : Int32) (hI : i_116 a0 σ l0 l1 l2 l3 τ) (h1 : l3.toInt < (q_i (τ.1 (q_r (τ.1 l0 1)) 4)).toInt) (g2 : p_28 l0 ((Int32.ofInt (1)) <<< (l3 &&& 31)) τ r2 τ2) (g3 : p_311 r2 τ2 r3 τ3) (h4 : 0 ≤ l3.toInt ∧ l3.toInt < (τ3.2.1 (q_r (τ3.1 (q_r (τ3.1 l0 1)) 0)) : Int)) (h5 : ((q_i (τ3.1 (q_r (τ3.1 (q_r (τ3.1 l0 1)) 0)) l3.toNatClampNeg)) + ((q_i (τ3.1 l0 15)) * r3)).toInt > l2.toInt) :
    i_116 a0 σ l0 l3 ((q_i (τ3.1 (q_r (τ3.1 (q_r (τ3.1 l0 1)) 0)) l3.toNatClampNeg)) + ((q_i (τ3.1 l0 15)) * r3)) (l3 + Int32.ofInt (1)) τ3 := by
  obtain ⟨rfl, rfl, hI⟩ := hI
  obtain ⟨ea, g1⟩ := g2
  subst ea
  obtain ⟨eb, x2⟩ := g3
  subst eb
  refine ⟨rfl, rfl, fun A nf nt K I => ?_⟩
  obtain ⟨n, hn, e3, e1⟩ := hI A nf nt K I
  have k6 := I.1.2.1
  have p0 : q_i (τ3.1 (l0 + 2) 4) = A 0 := K.p hp_0
  rw [K.k hk_1, p0, I.1.1, e3, o32 (by omega), o32 (by omega)] at h1
  have x1 := g1 A K
  rw [e3, fHo I (show n < nf by omega)] at x1
  have xs : r3 = fSh A n := by rw [x2, x1]; rfl
  have u0 : q_i (τ3.1 (l0 + 3) n) = A (40 + 4 * n) := K.p (hp_f0 (by omega))
  have u12 : q_i (τ3.1 l0 15) = A 12 := K.p (hp_s (k := 12) (by omega) (by omega))
  have ev : q_i (τ3.1 (q_r (τ3.1 (q_r (τ3.1 l0 1)) 0)) l3.toNatClampNeg) + q_i (τ3.1 l0 15) * r3 = fRv A n := by
    rw [K.k hk_1, K.k hk_f0, e3, o32n (by omega), u0, u12, xs]
    rfl
  rw [ev, e1.2] at h5
  have yl : (fRi A n).2 < fRv A n := Int32.lt_iff_toInt_lt.mpr (by omega)
  refine ⟨n + 1, by omega, by rw [e3]; exact o32i (by omega), ?_⟩
  rw [fRi_y yl]
  exact ⟨e3, ev⟩
noncomputable def qP_116 : zPp := fun as σ o σ' => match as with
  | [a0] => ∃ r, o = .inl (some (.int r)) ∧ p_116 (q_r a0) σ r σ'
  | _ => True
set_option maxRecDepth 100000 in
theorem sp_116 {sx : zX} (S28 : zEe sx 28 2 qP_28) (S311 : zEe sx 311 1 qP_311) : zEe sx 116 1 qP_116 := by
  refine zfle zJ_116 (sps := [(28, 2, qP_28), (311, 1, qP_311)]) (fun q hq => by
    simp only [List.mem_cons, List.not_mem_nil, or_false] at hq
    rcases hq with rfl | rfl
    · exact S28
    · exact S311) (fun as σ hl => ?_)
  match as, hl with
  | [a0], _ =>
  refine ⟨[(6, fun lo st τ => st = [] ∧ i_116 (q_r a0) σ (q_r (lo 0)) (q_i (lo 1)) (q_i (lo 2)) (q_i (lo 3)) τ)], 400, ?_, ?_⟩
  · intro q hq
    simp only [List.mem_cons, List.not_mem_nil, or_false] at hq
    rcases hq with rfl
    · rintro lo st τ ⟨rfl, hI⟩
      refine ⟨400, ?_⟩
      refine And.intro (fun h1 => ?_) (fun h1 => ?_)
      · exact ⟨_, rfl, sp_116_c6_t (q_r a0) σ (q_r (lo 0)) (q_i (lo 1)) (q_i (lo 2)) (q_i (lo 3)) τ hI (cm3t h1)⟩
      · refine fun o2 τ2 g2 => ?_
        obtain ⟨r2, rfl, g2⟩ := g2
        refine fun o3 τ3 g3 => ?_
        obtain ⟨r3, rfl, g3⟩ := g3
        refine fun h4 => ?_
        refine And.intro (fun h5 => ?_) (fun h5 => ?_)
        · exact ⟨rfl, sp_116_c6_ft (q_r a0) σ (q_r (lo 0)) (q_i (lo 1)) (q_i (lo 2)) (q_i (lo 3)) τ τ2 r2 τ3 r3 hI (cm3f h1) g2 g3 (q_inp h4) (cm5t h5)⟩
        · exact ⟨rfl, sp_116_c6_ff (q_r a0) σ (q_r (lo 0)) (q_i (lo 1)) (q_i (lo 2)) (q_i (lo 3)) τ τ2 r2 τ3 r3 hI (cm3f h1) g2 g3 (q_inp h4) (cm5f h5)⟩
  · exact ⟨rfl, sp_116_e (q_r a0) σ ⟩
theorem zJ_155 : zJ3 155 z_m155 z_c155 z_h155 := ⟨rfl, rfl, rfl⟩
noncomputable def p_155 (a : Nat) (σ : zSg) (r : Int32) (σ' : zSg) : Prop := a = 0 → xSk σ → σ' = σ ∧ ∀ A nf nt, hH σ 8 A → aI nf nt A → r = (fRi A nf).1
theorem sp_155_e (a0 : Nat) (σ : zSg) (τ1 : zSg) (r1 : Int32) (g1 : p_116 (q_r (σ.1 a0 2)) σ r1 τ1) :
    p_155 (a0) σ r1 τ1 := by
  rintro rfl K
  have d2 : q_r (σ.1 0 2) = 8 := by rw [K.2.1]; rfl
  rw [d2] at g1
  exact g1
noncomputable def qP_155 : zPp := fun as σ o σ' => match as with
  | [a0] => ∃ r, o = .inl (some (.int r)) ∧ p_155 (q_r a0) σ r σ'
  | _ => True
set_option maxRecDepth 100000 in
theorem sp_155 {sx : zX} (S116 : zEe sx 116 1 qP_116) : zEe sx 155 1 qP_155 := by
  refine zfle zJ_155 (sps := [(116, 1, qP_116)]) (fun q hq => by
    simp only [List.mem_cons, List.not_mem_nil, or_false] at hq
    rcases hq with rfl
    · exact S116) (fun as σ hl => ?_)
  match as, hl with
  | [a0], _ =>
  refine ⟨[], 400, ?_, ?_⟩
  · exact fun q hq => absurd hq List.not_mem_nil
  · refine fun o1 τ1 g1 => ?_
    obtain ⟨r1, rfl, g1⟩ := g1
    exact ⟨_, rfl, sp_155_e (q_r a0) σ τ1 r1 g1⟩
theorem zJ_301 : zJ3 301 z_m301 z_c301 z_h301 := ⟨rfl, rfl, rfl⟩
noncomputable def p_301 (a : Nat) (σ : zSg) (r : Int32) (σ' : zSg) : Prop := a = 205 → ∀ A nf nt, rW σ A → aI nf nt A → σ' = r0 σ ∧ r = (fRi A nf).1
noncomputable def i_301 (a : Nat) (σ : zSg) (l0 : Nat) (l1 l2 l3 : Int32) (τ : zSg) : Prop := l0 = a ∧ (a = 205 → ∀ A nf nt, rW σ A → aI nf nt A → τ = r0 σ ∧ ∃ n, n ≤ nf ∧ l3 = Int32.ofNat n ∧ l1 = (fRi A n).1 ∧ l2 = (fRi A n).2)
theorem sp_301_e (a0 : Nat) (σ : zSg)  :
    i_301 a0 σ a0 (Int32.ofInt (-1)) (Int32.ofInt (-1)) (Int32.ofInt (0)) (q_w σ a0 0 (.int (Int32.ofInt (0)))) := by
  refine ⟨rfl, ?_⟩
  rintro rfl A nf nt w I
  exact ⟨rfl, 0, by omega, rfl, rfl, rfl⟩
theorem sp_301_c9_t (a0 : Nat) (σ : zSg) (l0 : Nat) (l1 : Int32) (l2 : Int32) (l3 : Int32) (τ : zSg) (τ1 : zSg) (r1 : Int32) (hI : i_301 a0 σ l0 l1 l2 l3 τ) (g1 : p_184 l0 τ r1 τ1) (h2 : l3.toInt ≥ r1.toInt) :
    p_301 (a0) σ l1 τ1 := by
  obtain ⟨rfl, hI⟩ := hI
  intro h A nf nt w I
  obtain ⟨e0, n, hn, e3, e1⟩ := hI h A nf nt w I
  have k6 := I.1.2.1
  have w0 : rW τ A := by rw [e0]; exact w.el (by omega)
  obtain ⟨ea, ga⟩ := g1
  subst ea
  have x1 := ga h A w0
  rw [x1, I.1.1, e3, o32 (by omega), o32 (by omega)] at h2
  have : n = nf := by omega
  subst this
  exact ⟨e0, e1.1⟩
theorem sp_301_c9_ft (a0 : Nat) (σ : zSg) (l0 : Nat) (l1 : Int32) (l2 : Int32) (l3 : Int32) (τ : zSg) (τ1 : zSg) (r1 : Int32) (τ3 : zSg) (r3 : Int32) (τ5 : zSg) (r5 : Int32) (hI : i_301 a0 σ l0 l1 l2 l3 τ) (g1 : p_184 l0 τ r1 τ1) (h2 : l3.toInt < r1.toInt) (g3 : p_190 l0 l3 (Int32.ofInt (0)) τ1 r3 τ3) (h4 : 0 ≤ (Int32.ofInt (12)).toInt ∧ (Int32.ofInt (12)).toInt < (τ3.2.1 (q_r (τ3.1 l0 1)) : Int)) (g5 : p_243 l0 l3 τ3 r5 τ5) (h6 : (r3 + ((q_i (τ3.1 (q_r (τ3.1 l0 1)) (Int32.ofInt (12)).toNatClampNeg)) * r5)).toInt ≤ l2.toInt) :
    i_301 a0 σ l0 l1 (if l2 < (r3 + ((q_i (τ3.1 (q_r (τ3.1 l0 1)) (Int32.ofInt (12)).toNatClampNeg)) * r5)) then (r3 + ((q_i (τ3.1 (q_r (τ3.1 l0 1)) (Int32.ofInt (12)).toNatClampNeg)) * r5)) else l2) (l3 + Int32.ofInt (1)) τ5 := by
  obtain ⟨rfl, hI⟩ := hI
  obtain ⟨ea, ga⟩ := g1
  subst ea
  obtain ⟨eb, gb⟩ := g3
  subst eb
  obtain ⟨ec, gc⟩ := g5
  subst ec
  refine ⟨rfl, fun h A nf nt w I => ?_⟩
  obtain ⟨e0, n, hn, e3, e1⟩ := hI h A nf nt w I
  have k6 := I.1.2.1
  have w0 : rW τ5 A := by rw [e0]; exact w.el (by omega)
  have x1 := ga h A w0
  rw [x1, I.1.1, e3, o32 (by omega), o32 (by omega)] at h2
  have z12 : (Int32.ofInt 12).toNatClampNeg = 12 := rfl
  have xb : r3 = A (40 + 4 * n) := gb h A w0 n 0 e3 (by omega) rfl (by omega)
  have xs : r5 = fSh A n := by rw [gc h A w0, e3]; rfl
  have ev : r3 + q_i (τ5.1 (q_r (τ5.1 l0 1)) (Int32.ofInt 12).toNatClampNeg) * r5 = fRv A n := by
    subst h
    rw [w0.q, z12, w0.i (k := 12) (by omega), xb, xs]
    rfl
  simp only [ev]
  rw [ev, e1.2] at h6
  have nl : ¬ (fRi A n).2 < fRv A n := fun q => by rw [Int32.lt_iff_toInt_lt] at q; omega
  refine ⟨e0, n + 1, by omega, by rw [e3]; exact o32i (by omega), ?_⟩
  rw [fRi_n nl, e1.2, if_neg nl]
  exact ⟨e1.1, rfl⟩
theorem sp_301_c9_ff (a0 : Nat) (σ : zSg) (l0 : Nat) (l1 : Int32) (l2 : Int32) (l3 : Int32) (τ : zSg) (τ1 : zSg) (r1 : Int32) (τ3 : zSg) (r3 : Int32) (τ5 : zSg) (r5 : Int32) (hI : i_301 a0 σ l0 l1 l2 l3 τ) (g1 : p_184 l0 τ r1 τ1) (h2 : l3.toInt < r1.toInt) (g3 : p_190 l0 l3 (Int32.ofInt (0)) τ1 r3 τ3) (h4 : 0 ≤ (Int32.ofInt (12)).toInt ∧ (Int32.ofInt (12)).toInt < (τ3.2.1 (q_r (τ3.1 l0 1)) : Int)) (g5 : p_243 l0 l3 τ3 r5 τ5) (h6 : (r3 + ((q_i (τ3.1 (q_r (τ3.1 l0 1)) (Int32.ofInt (12)).toNatClampNeg)) * r5)).toInt > l2.toInt) :
    i_301 a0 σ l0 l3 (if l2 < (r3 + ((q_i (τ3.1 (q_r (τ3.1 l0 1)) (Int32.ofInt (12)).toNatClampNeg)) * r5)) then (r3 + ((q_i (τ3.1 (q_r (τ3.1 l0 1)) (Int32.ofInt (12)).toNatClampNeg)) * r5)) else l2) (l3 + Int32.ofInt (1)) τ5 := by
  obtain ⟨rfl, hI⟩ := hI
  obtain ⟨ea, ga⟩ := g1
  subst ea
  obtain ⟨eb, gb⟩ := g3
  subst eb
  obtain ⟨ec, gc⟩ := g5
  subst ec
  refine ⟨rfl, fun h A nf nt w I => ?_⟩
  obtain ⟨e0, n, hn, e3, e1⟩ := hI h A nf nt w I
  have k6 := I.1.2.1
  have w0 : rW τ5 A := by rw [e0]; exact w.el (by omega)
  have x1 := ga h A w0
  rw [x1, I.1.1, e3, o32 (by omega), o32 (by omega)] at h2
  have z12 : (Int32.ofInt 12).toNatClampNeg = 12 := rfl
  have xb : r3 = A (40 + 4 * n) := gb h A w0 n 0 e3 (by omega) rfl (by omega)
  have xs : r5 = fSh A n := by rw [gc h A w0, e3]; rfl
  have ev : r3 + q_i (τ5.1 (q_r (τ5.1 l0 1)) (Int32.ofInt 12).toNatClampNeg) * r5 = fRv A n := by
    subst h
    rw [w0.q, z12, w0.i (k := 12) (by omega), xb, xs]
    rfl
  simp only [ev]
  rw [ev, e1.2] at h6
  have yl : (fRi A n).2 < fRv A n := Int32.lt_iff_toInt_lt.mpr (by omega)
  refine ⟨e0, n + 1, by omega, by rw [e3]; exact o32i (by omega), ?_⟩
  rw [fRi_y yl, e1.2, if_pos yl]
  exact ⟨e3, rfl⟩
noncomputable def qP_301 : zPp := fun as σ o σ' => match as with
  | [a0] => ∃ r, o = .inl (some (.int r)) ∧ p_301 (q_r a0) σ r σ'
  | _ => True
set_option maxRecDepth 100000 in
theorem sp_301 {sx : zX} (S184 : zEe sx 184 1 qP_184) (S190 : zEe sx 190 3 qP_190) (S243 : zEe sx 243 2 qP_243) : zEe sx 301 1 qP_301 := by
  refine zfle zJ_301 (sps := [(184, 1, qP_184), (190, 3, qP_190), (243, 2, qP_243)]) (fun q hq => by
    simp only [List.mem_cons, List.not_mem_nil, or_false] at hq
    rcases hq with rfl | rfl | rfl
    · exact S184
    · exact S190
    · exact S243) (fun as σ hl => ?_)
  match as, hl with
  | [a0], _ =>
  refine ⟨[(9, fun lo st τ => st = [] ∧ i_301 (q_r a0) σ (q_r (lo 0)) (q_i (lo 1)) (q_i (lo 2)) (q_i (lo 3)) τ)], 400, ?_, ?_⟩
  · intro q hq
    simp only [List.mem_cons, List.not_mem_nil, or_false] at hq
    rcases hq with rfl
    · rintro lo st τ ⟨rfl, hI⟩
      refine ⟨400, ?_⟩
      refine fun o1 τ1 g1 => ?_
      obtain ⟨r1, rfl, g1⟩ := g1
      refine And.intro (fun h2 => ?_) (fun h2 => ?_)
      · exact ⟨_, rfl, sp_301_c9_t (q_r a0) σ (q_r (lo 0)) (q_i (lo 1)) (q_i (lo 2)) (q_i (lo 3)) τ τ1 r1 hI g1 (cm3t h2)⟩
      · refine fun o3 τ3 g3 => ?_
        obtain ⟨r3, rfl, g3⟩ := g3
        refine fun h4 => ?_
        refine fun o5 τ5 g5 => ?_
        obtain ⟨r5, rfl, g5⟩ := g5
        refine And.intro (fun h6 => ?_) (fun h6 => ?_)
        · exact ⟨rfl, sp_301_c9_ft (q_r a0) σ (q_r (lo 0)) (q_i (lo 1)) (q_i (lo 2)) (q_i (lo 3)) τ τ1 r1 τ3 r3 τ5 r5 hI g1 (cm3f h2) g3 (q_inp h4) g5 (cm5t h6)⟩
        · exact ⟨rfl, sp_301_c9_ff (q_r a0) σ (q_r (lo 0)) (q_i (lo 1)) (q_i (lo 2)) (q_i (lo 3)) τ τ1 r1 τ3 r3 τ5 r5 hI g1 (cm3f h2) g3 (q_inp h4) g5 (cm5f h6)⟩
  · exact ⟨rfl, sp_301_e (q_r a0) σ ⟩
