/-! the Tape of the class, exact; printed with wip/gen/gen_t2.py -/
noncomputable def cu (σ : zSg) (t k : Nat) : Int := (q_i (σ.1 (q_r (σ.1 t 0)) k)).toInt
noncomputable def cb (σ : zSg) (t k : Nat) : Int := if 128 ≤ cu σ t k then cu σ t k - 256 else cu σ t k
noncomputable def cS (σ : zSg) (t A E : Nat) : Prop := q_r (σ.1 t 0) ≠ t ∧ σ.1 t 1 = .int (Int32.ofNat E) ∧ σ.1 t 2 = .int (Int32.ofNat A) ∧ A ≤ E ∧ E ≤ 400 ∧ ∀ k, 0 ≤ cu σ t k ∧ cu σ t k ≤ 255
section CTK
variable {σ : zSg} {t A E : Nat} {v : Value}
theorem cu_w {k : Nat} (h : q_r (σ.1 t 0) ≠ t) (hk : k ≠ 0) : cu (q_w σ t k v) t = cu σ t := by
  funext i
  unfold cu
  rw [q_w_ne (c' := t) (k' := 0) (fun _ q => hk q.symm), q_w_ne (fun q _ => h q)]
theorem cb_w {k : Nat} (h : q_r (σ.1 t 0) ≠ t) (hk : k ≠ 0) : cb (q_w σ t k v) t = cb σ t := by
  funext i
  unfold cb
  rw [cu_w h hk]
theorem cS.at (H : cS σ t A E) {K : Nat} (hK : K ≤ E) : cS (q_w σ t 2 (.int (Int32.ofNat K))) t K E := by
  obtain ⟨h1, h2, h3, h4, h5, h6⟩ := H
  refine ⟨?_, ?_, q_w_at _ _ _ _, hK, h5, ?_⟩
  · rw [q_w_ne (fun _ q => by omega)]; exact h1
  · rw [q_w_ne (fun _ q => by omega)]; exact h2
  · rw [cu_w h1 (by omega)]; exact h6
theorem cS.wr (H : cS σ t A E) : cS (q_w σ t 3 v) t A E := by
  obtain ⟨h1, h2, h3, h4, h5, h6⟩ := H
  refine ⟨?_, ?_, ?_, h4, h5, ?_⟩
  · rw [q_w_ne (fun _ q => by omega)]; exact h1
  · rw [q_w_ne (fun _ q => by omega)]; exact h2
  · rw [q_w_ne (fun _ q => by omega)]; exact h3
  · rw [cu_w h1 (by omega)]; exact h6
theorem cb_rg (H : cS σ t A E) {k : Nat} {lo hi : Int} (h1 : 0 ≤ lo) (h2 : hi ≤ 127) : (lo ≤ cb σ t k ∧ cb σ t k ≤ hi) ↔ (lo ≤ cu σ t k ∧ cu σ t k ≤ hi) := by
  have := H.2.2.2.2.2 k
  unfold cb
  split <;> omega
theorem cb_eq (H : cS σ t A E) {k : Nat} {c : Int} (h1 : 0 ≤ c) (h2 : c ≤ 127) : cb σ t k = c ↔ cu σ t k = c := by
  have := H.2.2.2.2.2 k
  unfold cb
  split <;> omega
/-- a tape, wherever it was read to -/
noncomputable def cS0 (σ : zSg) (t E : Nat) : Prop := q_r (σ.1 t 0) ≠ t ∧ σ.1 t 1 = .int (Int32.ofNat E) ∧ E ≤ 400 ∧ ∀ k, 0 ≤ cu σ t k ∧ cu σ t k ≤ 255
theorem cS0.mk {w : Value} {K : Nat} (H : cS0 σ t E) (hK : K ≤ E) : cS (q_w (q_w σ t 3 w) t 2 (.int (Int32.ofNat K))) t K E ∧ cb (q_w (q_w σ t 3 w) t 2 (.int (Int32.ofNat K))) t = cb σ t := by
  obtain ⟨h1, h2, h5, h6⟩ := H
  have e0 : q_r ((q_w σ t 3 w).1 t 0) ≠ t := by rw [q_w_ne (fun _ q => by omega)]; exact h1
  refine ⟨⟨?_, ?_, q_w_at _ _ _ _, hK, h5, ?_⟩, ?_⟩
  · rw [q_w_ne (fun _ q => by omega), q_w_ne (fun _ q => by omega)]; exact h1
  · rw [q_w_ne (fun _ q => by omega), q_w_ne (fun _ q => by omega)]; exact h2
  · rw [cu_w e0 (by omega), cu_w h1 (by omega)]; exact h6
  · rw [cb_w e0 (by omega), cb_w h1 (by omega)]
end CTK
noncomputable def p_86 (t : Nat) (x : Int32) (σ : zSg) (r : Int32) (σ' : zSg) : Prop := σ' = σ ∧ ∀ A E, cS σ t A E → ∀ k : Nat, k ≤ 900 → x = Int32.ofNat k → r.toInt = if k < E then cu σ t k else -1
theorem zJ_86 : zJ3 86 z_m86 z_c86 z_h86 := ⟨rfl, rfl, rfl⟩
theorem sp_86_et (a0 : Nat) (a1 : Int32) (σ : zSg) (h1 : a1.toInt < (0 : Int)) :
    p_86 (a0) (a1) σ (Int32.ofInt (-1)) σ := by
  refine ⟨rfl, fun A E S k hk hx => ?_⟩
  subst hx
  have hE := S.2.2.2.2.1
  simp only [S.2.1, q_ii, o32 (show k ≤ 1000 by omega), o32 (show E ≤ 1000 by omega)] at *
  rw [if_neg (by omega)]
  rfl
theorem sp_86_eft (a0 : Nat) (a1 : Int32) (σ : zSg) (h1 : a1.toInt ≥ (0 : Int)) (h2 : a1.toInt ≥ (q_i (σ.1 a0 1)).toInt) :
    p_86 (a0) (a1) σ (Int32.ofInt (-1)) σ := by
  refine ⟨rfl, fun A E S k hk hx => ?_⟩
  subst hx
  have hE := S.2.2.2.2.1
  simp only [S.2.1, q_ii, o32 (show k ≤ 1000 by omega), o32 (show E ≤ 1000 by omega)] at *
  rw [if_neg (by omega)]
  rfl
theorem sp_86_efft (a0 : Nat) (a1 : Int32) (σ : zSg) (h1 : a1.toInt ≥ (0 : Int)) (h2 : a1.toInt < (q_i (σ.1 a0 1)).toInt) (h3 : a1.toInt ≥ (400 : Int)) :
    p_86 (a0) (a1) σ (Int32.ofInt (-1)) σ := by
  refine ⟨rfl, fun A E S k hk hx => ?_⟩
  subst hx
  have hE := S.2.2.2.2.1
  simp only [S.2.1, q_ii, o32 (show k ≤ 1000 by omega), o32 (show E ≤ 1000 by omega)] at *
  rw [if_neg (by omega)]
  rfl
theorem sp_86_efff (a0 : Nat) (a1 : Int32) (σ : zSg) (h1 : a1.toInt ≥ (0 : Int)) (h2 : a1.toInt < (q_i (σ.1 a0 1)).toInt) (h3 : a1.toInt < (400 : Int)) (h4 : 0 ≤ a1.toInt ∧ a1.toInt < (σ.2.1 (q_r (σ.1 a0 0)) : Int)) :
    p_86 (a0) (a1) σ (q_i (σ.1 (q_r (σ.1 a0 0)) a1.toNatClampNeg)) σ := by
  refine ⟨rfl, fun A E S k hk hx => ?_⟩
  subst hx
  rw [S.2.1] at h2
  have h9 : (Int32.ofNat k).toInt < (Int32.ofNat E).toInt := h2
  have hE := S.2.2.2.2.1
  rw [o32 (by omega), o32 (by omega)] at h9
  rw [if_pos (by omega), o32n (by omega)]
  rfl
noncomputable def qP_86 : zPp := fun as σ o σ' => match as with
  | [a0, a1] => ∃ r, o = .inl (some (.int r)) ∧ p_86 (q_r a0) (q_i a1) σ r σ'
  | _ => True
set_option maxRecDepth 100000 in
theorem sp_86 {sx : zX}  : zEe sx 86 2 qP_86 := by
  refine zfle zJ_86 (sps := []) (fun q hq => absurd hq List.not_mem_nil) (fun as σ hl => ?_)
  match as, hl with
  | [a0, a1], _ =>
  refine ⟨[], 400, ?_, ?_⟩
  · exact fun q hq => absurd hq List.not_mem_nil
  · refine And.intro (fun h1 => ?_) (fun h1 => ?_)
    · exact ⟨_, rfl, sp_86_et (q_r a0) (q_i a1) σ (cm2t h1)⟩
    · refine And.intro (fun h2 => ?_) (fun h2 => ?_)
      · exact ⟨_, rfl, sp_86_eft (q_r a0) (q_i a1) σ (cm2f h1) (cm3t h2)⟩
      · refine And.intro (fun h3 => ?_) (fun h3 => ?_)
        · exact ⟨_, rfl, sp_86_efft (q_r a0) (q_i a1) σ (cm2f h1) (cm3f h2) (cm3t h3)⟩
        · refine fun h4 => ?_
          exact ⟨_, rfl, sp_86_efff (q_r a0) (q_i a1) σ (cm2f h1) (cm3f h2) (cm3f h3) (q_inp h4)⟩
noncomputable def p_97 (t : Nat) (σ σ' : zSg) : Prop := ∀ A E, cS σ t A E → σ' = q_w σ t 2 (.int (Int32.ofNat (zBl (cb σ t) E A)))
noncomputable def i_97 (t : Nat) (σ : zSg) (l : Nat) (τ : zSg) : Prop := l = t ∧ ∀ A E, cS σ t A E → ∃ K, K ≤ E ∧ zBl (cb σ t) E A = zBl (cb σ t) E K ∧ τ = q_w σ t 2 (.int (Int32.ofNat K))
theorem zJ_97 : zJ3 97 z_m97 z_c97 z_h97 := ⟨rfl, rfl, rfl⟩
theorem sp_97_et (a0 : Nat) (σ : zSg) (h1 : (q_i (σ.1 a0 2)).toInt ≥ (q_i (σ.1 a0 1)).toInt) :
    p_97 (a0) σ σ := by
  intro A E S
  have hE := S.2.2.2.2.1
  have hA := S.2.2.2.1
  have hz : ¬ (A < E ∧ 32 ≤ cb σ a0 A ∧ cb σ a0 A ≤ 32) := by
    rw [cb_rg S (by omega) (by omega)]
    unfold cu
    simp only [S.2.1, S.2.2.1, q_ii, o32n (show A ≤ 1000 by omega), o32 (show A ≤ 1000 by omega), o32 (show E ≤ 1000 by omega)] at *
    omega
  rw [zBl_f hz, q_w_id S.2.2.1]
theorem sp_97_eft (a0 : Nat) (σ : zSg) (h1 : (q_i (σ.1 a0 2)).toInt < (q_i (σ.1 a0 1)).toInt) (h2 : (q_i (σ.1 a0 2)).toInt ≥ (400 : Int)) :
    p_97 (a0) σ σ := by
  intro A E S
  have hE := S.2.2.2.2.1
  have hA := S.2.2.2.1
  have hz : ¬ (A < E ∧ 32 ≤ cb σ a0 A ∧ cb σ a0 A ≤ 32) := by
    rw [cb_rg S (by omega) (by omega)]
    unfold cu
    simp only [S.2.1, S.2.2.1, q_ii, o32n (show A ≤ 1000 by omega), o32 (show A ≤ 1000 by omega), o32 (show E ≤ 1000 by omega)] at *
    omega
  rw [zBl_f hz, q_w_id S.2.2.1]
theorem sp_97_efft (a0 : Nat) (σ : zSg) (h1 : (q_i (σ.1 a0 2)).toInt < (q_i (σ.1 a0 1)).toInt) (h2 : (q_i (σ.1 a0 2)).toInt < (400 : Int)) (h3 : 0 ≤ (q_i (σ.1 a0 2)).toInt ∧ (q_i (σ.1 a0 2)).toInt < (σ.2.1 (q_r (σ.1 a0 0)) : Int)) (h4 : (q_i (σ.1 (q_r (σ.1 a0 0)) (q_i (σ.1 a0 2)).toNatClampNeg)).toInt ≠ (32 : Int)) :
    p_97 (a0) σ σ := by
  intro A E S
  have hE := S.2.2.2.2.1
  have hA := S.2.2.2.1
  have hz : ¬ (A < E ∧ 32 ≤ cb σ a0 A ∧ cb σ a0 A ≤ 32) := by
    rw [cb_rg S (by omega) (by omega)]
    unfold cu
    simp only [S.2.1, S.2.2.1, q_ii, o32n (show A ≤ 1000 by omega), o32 (show A ≤ 1000 by omega), o32 (show E ≤ 1000 by omega)] at *
    omega
  rw [zBl_f hz, q_w_id S.2.2.1]
theorem sp_97_efff (a0 : Nat) (σ : zSg) (h1 : (q_i (σ.1 a0 2)).toInt < (q_i (σ.1 a0 1)).toInt) (h2 : (q_i (σ.1 a0 2)).toInt < (400 : Int)) (h3 : 0 ≤ (q_i (σ.1 a0 2)).toInt ∧ (q_i (σ.1 a0 2)).toInt < (σ.2.1 (q_r (σ.1 a0 0)) : Int)) (h4 : (q_i (σ.1 (q_r (σ.1 a0 0)) (q_i (σ.1 a0 2)).toNatClampNeg)).toInt = (32 : Int)) :
    i_97 a0 σ a0 (q_w σ a0 2 (.int ((q_i (σ.1 a0 2)) + (Int32.ofInt (1))))) := by
  refine ⟨rfl, fun A E S => ?_⟩
  have hE := S.2.2.2.2.1
  have hA := S.2.2.2.1
  have hz : (A < E ∧ 32 ≤ cb σ a0 A ∧ cb σ a0 A ≤ 32) := by
    rw [cb_rg S (by omega) (by omega)]
    unfold cu
    simp only [S.2.1, S.2.2.1, q_ii, o32n (show A ≤ 1000 by omega), o32 (show A ≤ 1000 by omega), o32 (show E ≤ 1000 by omega)] at *
    omega
  refine ⟨A + 1, by omega, zBl_t hz, ?_⟩
  rw [S.2.2.1]
  show q_w σ a0 2 (.int (Int32.ofNat A + Int32.ofInt 1)) = _
  rw [o32i (by omega)]
theorem sp_97_c0_t (a0 : Nat) (σ : zSg) (l0 : Nat) (τ : zSg) (hI : i_97 a0 σ l0 τ) (h5 : (q_i (τ.1 l0 2)).toInt ≥ (q_i (τ.1 l0 1)).toInt) :
    p_97 (a0) σ τ := by
  obtain ⟨rfl, G⟩ := hI
  intro A E S
  obtain ⟨K, k1, k2, rfl⟩ := G A E S
  have hE := S.2.2.2.2.1
  have S1 := S.at k1
  have hz : ¬ (K < E ∧ 32 ≤ cb (q_w σ l0 2 (.int (Int32.ofNat K))) l0 K ∧ cb (q_w σ l0 2 (.int (Int32.ofNat K))) l0 K ≤ 32) := by
    rw [cb_rg S1 (by omega) (by omega)]
    unfold cu
    simp only [S1.2.1, S1.2.2.1, q_ii, o32n (show K ≤ 1000 by omega), o32 (show K ≤ 1000 by omega), o32 (show E ≤ 1000 by omega)] at *
    omega
  rw [cb_w S.1 (by omega)] at hz
  rw [k2, zBl_f hz]
theorem sp_97_c0_ft (a0 : Nat) (σ : zSg) (l0 : Nat) (τ : zSg) (hI : i_97 a0 σ l0 τ) (h5 : (q_i (τ.1 l0 2)).toInt < (q_i (τ.1 l0 1)).toInt) (h6 : (q_i (τ.1 l0 2)).toInt ≥ (400 : Int)) :
    p_97 (a0) σ τ := by
  obtain ⟨rfl, G⟩ := hI
  intro A E S
  obtain ⟨K, k1, k2, rfl⟩ := G A E S
  have hE := S.2.2.2.2.1
  have S1 := S.at k1
  have hz : ¬ (K < E ∧ 32 ≤ cb (q_w σ l0 2 (.int (Int32.ofNat K))) l0 K ∧ cb (q_w σ l0 2 (.int (Int32.ofNat K))) l0 K ≤ 32) := by
    rw [cb_rg S1 (by omega) (by omega)]
    unfold cu
    simp only [S1.2.1, S1.2.2.1, q_ii, o32n (show K ≤ 1000 by omega), o32 (show K ≤ 1000 by omega), o32 (show E ≤ 1000 by omega)] at *
    omega
  rw [cb_w S.1 (by omega)] at hz
  rw [k2, zBl_f hz]
theorem sp_97_c0_fft (a0 : Nat) (σ : zSg) (l0 : Nat) (τ : zSg) (hI : i_97 a0 σ l0 τ) (h5 : (q_i (τ.1 l0 2)).toInt < (q_i (τ.1 l0 1)).toInt) (h6 : (q_i (τ.1 l0 2)).toInt < (400 : Int)) (h7 : 0 ≤ (q_i (τ.1 l0 2)).toInt ∧ (q_i (τ.1 l0 2)).toInt < (τ.2.1 (q_r (τ.1 l0 0)) : Int)) (h8 : (q_i (τ.1 (q_r (τ.1 l0 0)) (q_i (τ.1 l0 2)).toNatClampNeg)).toInt ≠ (32 : Int)) :
    p_97 (a0) σ τ := by
  obtain ⟨rfl, G⟩ := hI
  intro A E S
  obtain ⟨K, k1, k2, rfl⟩ := G A E S
  have hE := S.2.2.2.2.1
  have S1 := S.at k1
  have hz : ¬ (K < E ∧ 32 ≤ cb (q_w σ l0 2 (.int (Int32.ofNat K))) l0 K ∧ cb (q_w σ l0 2 (.int (Int32.ofNat K))) l0 K ≤ 32) := by
    rw [cb_rg S1 (by omega) (by omega)]
    unfold cu
    simp only [S1.2.1, S1.2.2.1, q_ii, o32n (show K ≤ 1000 by omega), o32 (show K ≤ 1000 by omega), o32 (show E ≤ 1000 by omega)] at *
    omega
  rw [cb_w S.1 (by omega)] at hz
  rw [k2, zBl_f hz]
theorem sp_97_c0_fff (a0 : Nat) (σ : zSg) (l0 : Nat) (τ : zSg) (hI : i_97 a0 σ l0 τ) (h5 : (q_i (τ.1 l0 2)).toInt < (q_i (τ.1 l0 1)).toInt) (h6 : (q_i (τ.1 l0 2)).toInt < (400 : Int)) (h7 : 0 ≤ (q_i (τ.1 l0 2)).toInt ∧ (q_i (τ.1 l0 2)).toInt < (τ.2.1 (q_r (τ.1 l0 0)) : Int)) (h8 : (q_i (τ.1 (q_r (τ.1 l0 0)) (q_i (τ.1 l0 2)).toNatClampNeg)).toInt = (32 : Int)) :
    i_97 a0 σ l0 (q_w τ l0 2 (.int ((q_i (τ.1 l0 2)) + (Int32.ofInt (1))))) := by
  obtain ⟨rfl, G⟩ := hI
  refine ⟨rfl, fun A E S => ?_⟩
  obtain ⟨K, k1, k2, rfl⟩ := G A E S
  have hE := S.2.2.2.2.1
  have S1 := S.at k1
  have hz : (K < E ∧ 32 ≤ cb (q_w σ l0 2 (.int (Int32.ofNat K))) l0 K ∧ cb (q_w σ l0 2 (.int (Int32.ofNat K))) l0 K ≤ 32) := by
    rw [cb_rg S1 (by omega) (by omega)]
    unfold cu
    simp only [S1.2.1, S1.2.2.1, q_ii, o32n (show K ≤ 1000 by omega), o32 (show K ≤ 1000 by omega), o32 (show E ≤ 1000 by omega)] at *
    omega
  rw [cb_w S.1 (by omega)] at hz
  refine ⟨K + 1, by omega, k2.trans (zBl_t hz), ?_⟩
  rw [q_w_at]
  show q_w (q_w σ l0 2 _) l0 2 (.int (Int32.ofNat K + Int32.ofInt 1)) = _
  rw [o32i (by omega), q_w_w]
noncomputable def qP_97 : zPp := fun as σ o σ' => match as with
  | [a0] => o = .inl none ∧ p_97 (q_r a0) σ σ'
  | _ => True
set_option maxRecDepth 100000 in
theorem sp_97 {sx : zX}  : zEe sx 97 1 qP_97 := by
  refine zfle zJ_97 (sps := []) (fun q hq => absurd hq List.not_mem_nil) (fun as σ hl => ?_)
  match as, hl with
  | [a0], _ =>
  refine ⟨[(0, fun lo st τ => st = [] ∧ i_97 (q_r a0) σ (q_r (lo 0)) τ)], 400, ?_, ?_⟩
  · intro q hq
    simp only [List.mem_cons, List.not_mem_nil, or_false] at hq
    rcases hq with rfl
    · rintro lo st τ ⟨rfl, hI⟩
      refine ⟨400, ?_⟩
      refine And.intro (fun h5 => ?_) (fun h5 => ?_)
      · exact ⟨rfl, sp_97_c0_t (q_r a0) σ (q_r (lo 0)) τ hI (cm3t h5)⟩
      · refine And.intro (fun h6 => ?_) (fun h6 => ?_)
        · exact ⟨rfl, sp_97_c0_ft (q_r a0) σ (q_r (lo 0)) τ hI (cm3f h5) (cm3t h6)⟩
        · refine fun h7 => ?_
          refine And.intro (fun h8 => ?_) (fun h8 => ?_)
          · exact ⟨rfl, sp_97_c0_fft (q_r a0) σ (q_r (lo 0)) τ hI (cm3f h5) (cm3f h6) (q_inp h7) (cm1t h8)⟩
          · exact ⟨rfl, sp_97_c0_fff (q_r a0) σ (q_r (lo 0)) τ hI (cm3f h5) (cm3f h6) (q_inp h7) (cm1f h8)⟩
  · refine And.intro (fun h1 => ?_) (fun h1 => ?_)
    · exact ⟨rfl, sp_97_et (q_r a0) σ (cm3t h1)⟩
    · refine And.intro (fun h2 => ?_) (fun h2 => ?_)
      · exact ⟨rfl, sp_97_eft (q_r a0) σ (cm3f h1) (cm3t h2)⟩
      · refine fun h3 => ?_
        refine And.intro (fun h4 => ?_) (fun h4 => ?_)
        · exact ⟨rfl, sp_97_efft (q_r a0) σ (cm3f h1) (cm3f h2) (q_inp h3) (cm1t h4)⟩
        · exact ⟨rfl, sp_97_efff (q_r a0) σ (cm3f h1) (cm3f h2) (q_inp h3) (cm1f h4)⟩
noncomputable def p_87 (t : Nat) (σ σ' : zSg) : Prop := ∀ E, cS0 σ t E → σ' = q_w (q_w σ t 3 (.int (Int32.ofInt (-1)))) t 2 (.int (Int32.ofNat (zBl (cb σ t) E 0)))
noncomputable def p_88 (t : Nat) (σ : zSg) (r : Int32) (σ' : zSg) : Prop := σ' = σ ∧ r = q_i (σ.1 t 3)
noncomputable def p_89 (t : Nat) (σ : zSg) (r : Int32) (σ' : zSg) : Prop := σ' = σ ∧ ∀ A E, cS σ t A E → (r.toInt ≠ 0 ↔ (q_i (σ.1 t 3)).toInt = -1 ∧ A < E)
noncomputable def p_90 (t : Nat) (σ σ' : zSg) : Prop := ((q_i (σ.1 t 3)).toInt ≠ -1 → σ' = σ) ∧ ((q_i (σ.1 t 3)).toInt = -1 → σ' = q_w σ t 3 (.int (q_i (σ.1 t 2))))
noncomputable def p_98 (x : Int32) (σ : zSg) (r : Int32) (σ' : zSg) : Prop := σ' = σ ∧ (r.toInt ≠ 0 ↔ 97 ≤ x.toInt ∧ x.toInt ≤ 122)
noncomputable def p_99 (x : Int32) (σ : zSg) (r : Int32) (σ' : zSg) : Prop := σ' = σ ∧ (r.toInt ≠ 0 ↔ 48 ≤ x.toInt ∧ x.toInt ≤ 57)
theorem zJ_87 : zJ3 87 z_m87 z_c87 z_h87 := ⟨rfl, rfl, rfl⟩
theorem zJ_88 : zJ3 88 z_m88 z_c88 z_h88 := ⟨rfl, rfl, rfl⟩
theorem zJ_89 : zJ3 89 z_m89 z_c89 z_h89 := ⟨rfl, rfl, rfl⟩
theorem zJ_90 : zJ3 90 z_m90 z_c90 z_h90 := ⟨rfl, rfl, rfl⟩
theorem zJ_98 : zJ3 98 z_m98 z_c98 z_h98 := ⟨rfl, rfl, rfl⟩
theorem zJ_99 : zJ3 99 z_m99 z_c99 z_h99 := ⟨rfl, rfl, rfl⟩
theorem sp_87_e (a0 : Nat) (σ : zSg) (τ1 : zSg) (g1 : p_97 a0 (q_w (q_w σ a0 2 (.int (Int32.ofInt (0)))) a0 3 (.int (Int32.ofInt (-1)))) τ1) :
    p_87 (a0) σ τ1 := by
  intro E S
  have e : q_w (q_w σ a0 2 (.int (Int32.ofInt (0)))) a0 3 (.int (Int32.ofInt (-1))) = q_w (q_w σ a0 3 (.int (Int32.ofInt (-1)))) a0 2 (.int (Int32.ofNat 0)) := q_w_cm (fun _ q => by omega)
  rw [e] at g1
  obtain ⟨S0, b0⟩ := S.mk (w := .int (Int32.ofInt (-1))) (Nat.zero_le E)
  have h9 := g1 0 E S0
  rw [b0] at h9
  rw [h9, q_w_w]
noncomputable def qP_87 : zPp := fun as σ o σ' => match as with
  | [a0] => o = .inl none ∧ p_87 (q_r a0) σ σ'
  | _ => True
set_option maxRecDepth 100000 in
theorem sp_87 {sx : zX} (S97 : zEe sx 97 1 qP_97) : zEe sx 87 1 qP_87 := by
  refine zfle zJ_87 (sps := [(97, 1, qP_97)]) (fun q hq => by
    simp only [List.mem_cons, List.not_mem_nil, or_false] at hq
    rcases hq with rfl
    · exact S97) (fun as σ hl => ?_)
  match as, hl with
  | [a0], _ =>
  refine ⟨[], 400, ?_, ?_⟩
  · exact fun q hq => absurd hq List.not_mem_nil
  · refine fun o1 τ1 g1 => ?_
    obtain ⟨rfl, g1⟩ := g1
    exact ⟨rfl, sp_87_e (q_r a0) σ τ1 g1⟩
theorem sp_88_e (a0 : Nat) (σ : zSg)  :
    p_88 (a0) σ (q_i (σ.1 a0 3)) σ := by
  exact ⟨rfl, rfl⟩
noncomputable def qP_88 : zPp := fun as σ o σ' => match as with
  | [a0] => ∃ r, o = .inl (some (.int r)) ∧ p_88 (q_r a0) σ r σ'
  | _ => True
set_option maxRecDepth 100000 in
theorem sp_88 {sx : zX}  : zEe sx 88 1 qP_88 := by
  refine zfle zJ_88 (sps := []) (fun q hq => absurd hq List.not_mem_nil) (fun as σ hl => ?_)
  match as, hl with
  | [a0], _ =>
  refine ⟨[], 400, ?_, ?_⟩
  · exact fun q hq => absurd hq List.not_mem_nil
  · exact ⟨_, rfl, sp_88_e (q_r a0) σ ⟩
theorem sp_89_et (a0 : Nat) (σ : zSg) (h1 : (q_i (σ.1 a0 3)).toInt ≠ (-1 : Int)) :
    p_89 (a0) σ (Int32.ofInt (0)) σ := by
  refine ⟨rfl, fun A E S => ?_⟩
  have hE := S.2.2.2.2.1
  have hA := S.2.2.2.1
  have c0 : (Int32.ofInt 0).toInt = 0 := rfl
  have c1 : (Int32.ofInt 1).toInt = 1 := rfl
  try simp only [S.2.1, S.2.2.1, q_ii, o32 (show A ≤ 1000 by omega), o32 (show E ≤ 1000 by omega)] at *
  omega
theorem sp_89_eft (a0 : Nat) (σ : zSg) (h1 : (q_i (σ.1 a0 3)).toInt = (-1 : Int)) (h2 : (q_i (σ.1 a0 2)).toInt ≥ (q_i (σ.1 a0 1)).toInt) :
    p_89 (a0) σ (Int32.ofInt (0)) σ := by
  refine ⟨rfl, fun A E S => ?_⟩
  have hE := S.2.2.2.2.1
  have hA := S.2.2.2.1
  have c0 : (Int32.ofInt 0).toInt = 0 := rfl
  have c1 : (Int32.ofInt 1).toInt = 1 := rfl
  try simp only [S.2.1, S.2.2.1, q_ii, o32 (show A ≤ 1000 by omega), o32 (show E ≤ 1000 by omega)] at *
  omega
theorem sp_89_eff (a0 : Nat) (σ : zSg) (h1 : (q_i (σ.1 a0 3)).toInt = (-1 : Int)) (h2 : (q_i (σ.1 a0 2)).toInt < (q_i (σ.1 a0 1)).toInt) :
    p_89 (a0) σ (Int32.ofInt (1)) σ := by
  refine ⟨rfl, fun A E S => ?_⟩
  have hE := S.2.2.2.2.1
  have hA := S.2.2.2.1
  have c0 : (Int32.ofInt 0).toInt = 0 := rfl
  have c1 : (Int32.ofInt 1).toInt = 1 := rfl
  try simp only [S.2.1, S.2.2.1, q_ii, o32 (show A ≤ 1000 by omega), o32 (show E ≤ 1000 by omega)] at *
  omega
noncomputable def qP_89 : zPp := fun as σ o σ' => match as with
  | [a0] => ∃ r, o = .inl (some (.int r)) ∧ p_89 (q_r a0) σ r σ'
  | _ => True
set_option maxRecDepth 100000 in
theorem sp_89 {sx : zX}  : zEe sx 89 1 qP_89 := by
  refine zfle zJ_89 (sps := []) (fun q hq => absurd hq List.not_mem_nil) (fun as σ hl => ?_)
  match as, hl with
  | [a0], _ =>
  refine ⟨[], 400, ?_, ?_⟩
  · exact fun q hq => absurd hq List.not_mem_nil
  · refine And.intro (fun h1 => ?_) (fun h1 => ?_)
    · exact ⟨_, rfl, sp_89_et (q_r a0) σ (cm1t h1)⟩
    · refine And.intro (fun h2 => ?_) (fun h2 => ?_)
      · exact ⟨_, rfl, sp_89_eft (q_r a0) σ (cm1f h1) (cm3t h2)⟩
      · exact ⟨_, rfl, sp_89_eff (q_r a0) σ (cm1f h1) (cm3f h2)⟩
theorem sp_90_et (a0 : Nat) (σ : zSg) (h1 : (q_i (σ.1 a0 3)).toInt ≠ (-1 : Int)) :
    p_90 (a0) σ σ := by
  exact ⟨fun _ => rfl, fun h => absurd h h1⟩
theorem sp_90_ef (a0 : Nat) (σ : zSg) (h1 : (q_i (σ.1 a0 3)).toInt = (-1 : Int)) :
    p_90 (a0) σ (q_w σ a0 3 (.int (q_i (σ.1 a0 2)))) := by
  exact ⟨fun h => absurd h1 h, fun _ => rfl⟩
noncomputable def qP_90 : zPp := fun as σ o σ' => match as with
  | [a0] => o = .inl none ∧ p_90 (q_r a0) σ σ'
  | _ => True
set_option maxRecDepth 100000 in
theorem sp_90 {sx : zX}  : zEe sx 90 1 qP_90 := by
  refine zfle zJ_90 (sps := []) (fun q hq => absurd hq List.not_mem_nil) (fun as σ hl => ?_)
  match as, hl with
  | [a0], _ =>
  refine ⟨[], 400, ?_, ?_⟩
  · exact fun q hq => absurd hq List.not_mem_nil
  · refine And.intro (fun h1 => ?_) (fun h1 => ?_)
    · exact ⟨rfl, sp_90_et (q_r a0) σ (cm1t h1)⟩
    · exact ⟨rfl, sp_90_ef (q_r a0) σ (cm1f h1)⟩
theorem sp_98_et (a0 : Int32) (σ : zSg) (h1 : a0.toInt < (97 : Int)) :
    p_98 (a0) σ (Int32.ofInt (0)) σ := by
  refine ⟨rfl, ?_⟩
  have c0 : (Int32.ofInt 0).toInt = 0 := rfl
  have c1 : (Int32.ofInt 1).toInt = 1 := rfl
  omega
theorem sp_98_eft (a0 : Int32) (σ : zSg) (h1 : a0.toInt ≥ (97 : Int)) (h2 : a0.toInt > (122 : Int)) :
    p_98 (a0) σ (Int32.ofInt (0)) σ := by
  refine ⟨rfl, ?_⟩
  have c0 : (Int32.ofInt 0).toInt = 0 := rfl
  have c1 : (Int32.ofInt 1).toInt = 1 := rfl
  omega
theorem sp_98_eff (a0 : Int32) (σ : zSg) (h1 : a0.toInt ≥ (97 : Int)) (h2 : a0.toInt ≤ (122 : Int)) :
    p_98 (a0) σ (Int32.ofInt (1)) σ := by
  refine ⟨rfl, ?_⟩
  have c0 : (Int32.ofInt 0).toInt = 0 := rfl
  have c1 : (Int32.ofInt 1).toInt = 1 := rfl
  omega
noncomputable def qP_98 : zPp := fun as σ o σ' => match as with
  | [a0] => ∃ r, o = .inl (some (.int r)) ∧ p_98 (q_i a0) σ r σ'
  | _ => True
set_option maxRecDepth 100000 in
theorem sp_98 {sx : zX}  : zEe sx 98 1 qP_98 := by
  refine zfle zJ_98 (sps := []) (fun q hq => absurd hq List.not_mem_nil) (fun as σ hl => ?_)
  match as, hl with
  | [a0], _ =>
  refine ⟨[], 400, ?_, ?_⟩
  · exact fun q hq => absurd hq List.not_mem_nil
  · refine And.intro (fun h1 => ?_) (fun h1 => ?_)
    · exact ⟨_, rfl, sp_98_et (q_i a0) σ (cm2t h1)⟩
    · refine And.intro (fun h2 => ?_) (fun h2 => ?_)
      · exact ⟨_, rfl, sp_98_eft (q_i a0) σ (cm2f h1) (cm4t h2)⟩
      · exact ⟨_, rfl, sp_98_eff (q_i a0) σ (cm2f h1) (cm4f h2)⟩
theorem sp_99_et (a0 : Int32) (σ : zSg) (h1 : a0.toInt < (48 : Int)) :
    p_99 (a0) σ (Int32.ofInt (0)) σ := by
  refine ⟨rfl, ?_⟩
  have c0 : (Int32.ofInt 0).toInt = 0 := rfl
  have c1 : (Int32.ofInt 1).toInt = 1 := rfl
  omega
theorem sp_99_eft (a0 : Int32) (σ : zSg) (h1 : a0.toInt ≥ (48 : Int)) (h2 : a0.toInt > (57 : Int)) :
    p_99 (a0) σ (Int32.ofInt (0)) σ := by
  refine ⟨rfl, ?_⟩
  have c0 : (Int32.ofInt 0).toInt = 0 := rfl
  have c1 : (Int32.ofInt 1).toInt = 1 := rfl
  omega
theorem sp_99_eff (a0 : Int32) (σ : zSg) (h1 : a0.toInt ≥ (48 : Int)) (h2 : a0.toInt ≤ (57 : Int)) :
    p_99 (a0) σ (Int32.ofInt (1)) σ := by
  refine ⟨rfl, ?_⟩
  have c0 : (Int32.ofInt 0).toInt = 0 := rfl
  have c1 : (Int32.ofInt 1).toInt = 1 := rfl
  omega
noncomputable def qP_99 : zPp := fun as σ o σ' => match as with
  | [a0] => ∃ r, o = .inl (some (.int r)) ∧ p_99 (q_i a0) σ r σ'
  | _ => True
set_option maxRecDepth 100000 in
theorem sp_99 {sx : zX}  : zEe sx 99 1 qP_99 := by
  refine zfle zJ_99 (sps := []) (fun q hq => absurd hq List.not_mem_nil) (fun as σ hl => ?_)
  match as, hl with
  | [a0], _ =>
  refine ⟨[], 400, ?_, ?_⟩
  · exact fun q hq => absurd hq List.not_mem_nil
  · refine And.intro (fun h1 => ?_) (fun h1 => ?_)
    · exact ⟨_, rfl, sp_99_et (q_i a0) σ (cm2t h1)⟩
    · refine And.intro (fun h2 => ?_) (fun h2 => ?_)
      · exact ⟨_, rfl, sp_99_eft (q_i a0) σ (cm2f h1) (cm4t h2)⟩
      · exact ⟨_, rfl, sp_99_eff (q_i a0) σ (cm2f h1) (cm4f h2)⟩
noncomputable def zwk (w : Nat) : Prop := (q_s w).length ≤ 100 ∧ ∀ k, k < (q_s w).length → 97 ≤ (q_si w).getD k 0 ∧ (q_si w).getD k 0 ≤ 122
theorem zWa_iff {b : Nat → Int} {E w A : Nat} (hw : zwk w) (hA : A ≤ E) : zWa b E (q_si w) A ↔ A + (q_s w).length ≤ E ∧ ¬ (A + (q_s w).length < E ∧ 97 ≤ b (A + (q_s w).length) ∧ b (A + (q_s w).length) ≤ 122) ∧ ∀ k, k < (q_s w).length → b (A + k) = (q_si w).getD k 0 := by
  unfold zWa zWd
  rw [q_si_len]
  constructor
  · rintro ⟨h1, h2⟩
    have g1 := zRn_le (b := b) (lo := 97) (hi := 122) hA
    have g2 := zRn_end (b := b) (E := E) (lo := 97) (hi := 122) (P := A)
    have e : zRn b E 97 122 A = A + (q_s w).length := h1
    rw [e] at g1 g2
    exact ⟨g1, g2, h2⟩
  · rintro ⟨h1, h2, h3⟩
    refine ⟨zRn_uniq (by omega) (fun k k1 k2 => ?_) h2, h3⟩
    have := h3 (k - A) (by omega)
    have h4 := hw.2 (k - A) (by omega)
    rw [show A + (k - A) = k by omega] at this
    omega
noncomputable def p_91 (t w : Nat) (σ : zSg) (r : Int32) (σ' : zSg) : Prop := ∀ A E, cS σ t A E → zwk w → (r.toInt ≠ 0 ∧ (q_i (σ.1 t 3)).toInt = -1 ∧ zWa (cb σ t) E (q_si w) A ∧ σ' = q_w σ t 2 (.int (Int32.ofNat (zBl (cb σ t) E (A + (q_s w).length))))) ∨ (r.toInt = 0 ∧ ((q_i (σ.1 t 3)).toInt = -1 → ¬ zWa (cb σ t) E (q_si w) A) ∧ σ' = σ)
noncomputable def i_91 (t w : Nat) (σ : zSg) (l0 l1 : Nat) (bh k : Int32) (τ : zSg) : Prop := l0 = t ∧ l1 = w ∧ τ = σ ∧ (q_i (σ.1 t 3)).toInt = -1 ∧ ∀ A E, cS σ t A E → zwk w → bh = Int32.ofNat (A + (q_s w).length) ∧ A + (q_s w).length ≤ E ∧ ¬ (A + (q_s w).length < E ∧ 97 ≤ cb σ t (A + (q_s w).length) ∧ cb σ t (A + (q_s w).length) ≤ 122) ∧ ∃ K : Nat, k = Int32.ofNat K ∧ K ≤ (q_s w).length ∧ ∀ j, j < K → cb σ t (A + j) = (q_si w).getD j 0
theorem o32a {m n : Nat} (h : m + n ≤ 1000) : Int32.ofNat m + Int32.ofNat n = Int32.ofNat (m + n) := by
  refine Int32.toInt_inj.mp ?_
  rw [zI_add (o32 (by omega)) (o32 (by omega)) (by omega) (by omega), o32 (by omega)]
  omega
theorem zJ_91 : zJ3 91 z_m91 z_c91 z_h91 := ⟨rfl, rfl, rfl⟩
theorem sp_91_et (a0 : Nat) (a1 : Nat) (σ : zSg) (h1 : (q_i (σ.1 a0 3)).toInt ≠ (-1 : Int)) :
    p_91 (a0) (a1) σ (Int32.ofInt (0)) σ := by
  intro A E S hw
  have hE := S.2.2.2.2.1
  have hA := S.2.2.2.1
  have hl := hw.1
  exact Or.inr ⟨rfl, fun h => absurd h h1, rfl⟩
theorem sp_91_eft (a0 : Nat) (a1 : Nat) (σ : zSg) (h1 : (q_i (σ.1 a0 3)).toInt = (-1 : Int)) (h2 : ((q_i (σ.1 a0 2)) + (Int32.ofNat (q_s a1).length)).toInt > (q_i (σ.1 a0 1)).toInt) :
    p_91 (a0) (a1) σ (Int32.ofInt (0)) σ := by
  intro A E S hw
  have hE := S.2.2.2.2.1
  have hA := S.2.2.2.1
  have hl := hw.1
  have h9 : (Int32.ofNat A + Int32.ofNat (q_s a1).length).toInt > (Int32.ofNat E).toInt := by
    have := h2
    rw [S.2.1, S.2.2.1] at this
    exact this
  rw [o32a (by omega), o32 (by omega), o32 (by omega)] at h9
  exact Or.inr ⟨rfl, fun _ q => by have := ((zWa_iff hw hA).mp q).1; omega, rfl⟩
theorem sp_91_efft (a0 : Nat) (a1 : Nat) (σ : zSg) (τ3 : zSg) (r3 : Int32) (τ4 : zSg) (r4 : Int32) (h1 : (q_i (σ.1 a0 3)).toInt = (-1 : Int)) (h2 : ((q_i (σ.1 a0 2)) + (Int32.ofNat (q_s a1).length)).toInt ≤ (q_i (σ.1 a0 1)).toInt) (g3 : p_86 a0 ((q_i (σ.1 a0 2)) + (Int32.ofNat (q_s a1).length)) σ r3 τ3) (g4 : p_98 r3 τ3 r4 τ4) (h5 : r4.toInt = (0 : Int)) :
    i_91 a0 a1 σ a0 a1 ((q_i (σ.1 a0 2)) + (Int32.ofNat (q_s a1).length)) (Int32.ofInt (0)) τ4 := by
  obtain ⟨rfl, g1⟩ := g3
  obtain ⟨rfl, g2⟩ := g4
  refine ⟨rfl, rfl, rfl, h1, fun A E S hw => ?_⟩
  have hE := S.2.2.2.2.1
  have hA := S.2.2.2.1
  have hl := hw.1
  have h9 : (Int32.ofNat A + Int32.ofNat (q_s a1).length).toInt ≤ (Int32.ofNat E).toInt := by
    have := h2
    rw [S.2.1, S.2.2.1] at this
    exact this
  have e : q_i (τ4.1 a0 2) + Int32.ofNat (q_s a1).length = Int32.ofNat (A + (q_s a1).length) := by
    rw [S.2.2.1]
    exact o32a (by omega)
  have g3 := g1 A E S (A + (q_s a1).length) (by omega) e
  rw [o32a (by omega), o32 (by omega), o32 (by omega)] at h9
  refine ⟨e, by omega, fun q => ?_, 0, rfl, Nat.zero_le _, fun j hj => absurd hj (by omega)⟩
  rw [if_pos q.1] at g3
  have := (cb_rg S (by omega) (by omega)).mp q.2
  exact (g2.mpr (by omega)) h5
theorem sp_91_efff (a0 : Nat) (a1 : Nat) (σ : zSg) (τ3 : zSg) (r3 : Int32) (τ4 : zSg) (r4 : Int32) (h1 : (q_i (σ.1 a0 3)).toInt = (-1 : Int)) (h2 : ((q_i (σ.1 a0 2)) + (Int32.ofNat (q_s a1).length)).toInt ≤ (q_i (σ.1 a0 1)).toInt) (g3 : p_86 a0 ((q_i (σ.1 a0 2)) + (Int32.ofNat (q_s a1).length)) σ r3 τ3) (g4 : p_98 r3 τ3 r4 τ4) (h5 : r4.toInt ≠ (0 : Int)) :
    p_91 (a0) (a1) σ (Int32.ofInt (0)) τ4 := by
  intro A E S hw
  have hE := S.2.2.2.2.1
  have hA := S.2.2.2.1
  have hl := hw.1
  obtain ⟨rfl, g1⟩ := g3
  obtain ⟨rfl, g2⟩ := g4
  have e : q_i (τ4.1 a0 2) + Int32.ofNat (q_s a1).length = Int32.ofNat (A + (q_s a1).length) := by
    rw [S.2.2.1]
    exact o32a (by omega)
  have g3 := g1 A E S (A + (q_s a1).length) (by omega) e
  have g4 := g2.mp h5
  refine Or.inr ⟨rfl, fun _ q => ?_, rfl⟩
  have q2 := ((zWa_iff hw hA).mp q).2.1
  split at g3
  · next hlt => exact q2 ⟨hlt, (cb_rg S (by omega) (by omega)).mpr (by omega)⟩
  · omega
theorem sp_91_c23_t (a0 : Nat) (a1 : Nat) (σ : zSg) (l0 : Nat) (l1 : Nat) (l2 : Int32) (l3 : Int32) (τ : zSg) (τ7 : zSg) (hI : i_91 a0 a1 σ l0 l1 l2 l3 τ) (h6 : l3.toInt ≥ (Int32.ofNat (q_s l1).length).toInt) (g7 : p_97 l0 (q_w τ l0 2 (.int l2)) τ7) :
    p_91 (a0) (a1) σ (Int32.ofInt (1)) τ7 := by
  obtain ⟨rfl, rfl, rfl, hn, G⟩ := hI
  intro A E S hw
  have hE := S.2.2.2.2.1
  have hA := S.2.2.2.1
  have hl := hw.1
  obtain ⟨rfl, k1, k2, K, rfl, k3, k4⟩ := G A E S hw
  rw [o32 (by omega), o32 (by omega)] at h6
  have hz : zWa (cb τ l0) E (q_si l1) A := (zWa_iff hw hA).mpr ⟨k1, k2, fun j hj => k4 j (by omega)⟩
  refine Or.inl ⟨by decide, hn, hz, ?_⟩
  rw [g7 _ E (S.at k1), cb_w S.1 (by omega), q_w_w]
theorem sp_91_c23_ft (a0 : Nat) (a1 : Nat) (σ : zSg) (l0 : Nat) (l1 : Nat) (l2 : Int32) (l3 : Int32) (τ : zSg) (τ8 : zSg) (r8 : Int32) (hI : i_91 a0 a1 σ l0 l1 l2 l3 τ) (h6 : l3.toInt < (Int32.ofNat (q_s l1).length).toInt) (g8 : p_86 l0 ((q_i (τ.1 l0 2)) + l3) τ r8 τ8) (h9 : 0 ≤ l3.toInt ∧ l3.toInt < ((q_s l1).length : Int)) (h10 : r8.toInt = (((q_s l1).getD l3.toNatClampNeg 0) &&& 255).toInt) :
    i_91 a0 a1 σ l0 l1 l2 (l3 + Int32.ofInt (1)) τ8 := by
  obtain ⟨rfl, rfl, rfl, hn, G⟩ := hI
  obtain ⟨rfl, g1⟩ := g8
  refine ⟨rfl, rfl, rfl, hn, fun A E S hw => ?_⟩
  have hE := S.2.2.2.2.1
  have hA := S.2.2.2.1
  have hl := hw.1
  obtain ⟨rfl, k1, k2, K, rfl, k3, k4⟩ := G A E S hw
  rw [o32 (by omega), o32 (by omega)] at h6
  have g3 := g1 A E S (A + K) (by omega) (by rw [S.2.2.1]; exact o32a (by omega))
  rw [if_pos (by omega)] at g3
  rw [o32n (by omega), ← q_si_at (by omega), g3] at h10
  refine ⟨rfl, k1, k2, K + 1, by rw [← o32i (by omega)], by omega, fun j hj => ?_⟩
  by_cases hj2 : j = K
  · subst hj2
    have := hw.2 j (by omega)
    exact (cb_eq S (by omega) (by omega)).mpr h10
  · exact k4 j (by omega)
theorem sp_91_c23_ff (a0 : Nat) (a1 : Nat) (σ : zSg) (l0 : Nat) (l1 : Nat) (l2 : Int32) (l3 : Int32) (τ : zSg) (τ8 : zSg) (r8 : Int32) (hI : i_91 a0 a1 σ l0 l1 l2 l3 τ) (h6 : l3.toInt < (Int32.ofNat (q_s l1).length).toInt) (g8 : p_86 l0 ((q_i (τ.1 l0 2)) + l3) τ r8 τ8) (h9 : 0 ≤ l3.toInt ∧ l3.toInt < ((q_s l1).length : Int)) (h10 : r8.toInt ≠ (((q_s l1).getD l3.toNatClampNeg 0) &&& 255).toInt) :
    p_91 (a0) (a1) σ (Int32.ofInt (0)) τ8 := by
  obtain ⟨rfl, rfl, rfl, hn, G⟩ := hI
  obtain ⟨rfl, g1⟩ := g8
  intro A E S hw
  have hE := S.2.2.2.2.1
  have hA := S.2.2.2.1
  have hl := hw.1
  obtain ⟨rfl, k1, k2, K, rfl, k3, k4⟩ := G A E S hw
  rw [o32 (by omega), o32 (by omega)] at h6
  have g3 := g1 A E S (A + K) (by omega) (by rw [S.2.2.1]; exact o32a (by omega))
  rw [if_pos (by omega)] at g3
  rw [o32n (by omega), ← q_si_at (by omega), g3] at h10
  refine Or.inr ⟨rfl, fun _ q => ?_, rfl⟩
  have := hw.2 K (by omega)
  exact h10 ((cb_eq S (by omega) (by omega)).mp (((zWa_iff hw hA).mp q).2.2 K (by omega)))
noncomputable def qP_91 : zPp := fun as σ o σ' => match as with
  | [a0, a1] => ∃ r, o = .inl (some (.int r)) ∧ p_91 (q_r a0) (q_r a1) σ r σ'
  | _ => True
set_option maxRecDepth 100000 in
theorem sp_91 {sx : zX} (S86 : zEe sx 86 2 qP_86) (S98 : zEe sx 98 1 qP_98) (S97 : zEe sx 97 1 qP_97) : zEe sx 91 2 qP_91 := by
  refine zfle zJ_91 (sps := [(86, 2, qP_86), (98, 1, qP_98), (97, 1, qP_97)]) (fun q hq => by
    simp only [List.mem_cons, List.not_mem_nil, or_false] at hq
    rcases hq with rfl | rfl | rfl
    · exact S86
    · exact S98
    · exact S97) (fun as σ hl => ?_)
  match as, hl with
  | [a0, a1], _ =>
  refine ⟨[(23, fun lo st τ => st = [] ∧ i_91 (q_r a0) (q_r a1) σ (q_r (lo 0)) (q_r (lo 1)) (q_i (lo 2)) (q_i (lo 3)) τ)], 400, ?_, ?_⟩
  · intro q hq
    simp only [List.mem_cons, List.not_mem_nil, or_false] at hq
    rcases hq with rfl
    · rintro lo st τ ⟨rfl, hI⟩
      refine ⟨400, ?_⟩
      refine And.intro (fun h6 => ?_) (fun h6 => ?_)
      · refine fun o7 τ7 g7 => ?_
        obtain ⟨rfl, g7⟩ := g7
        exact ⟨_, rfl, sp_91_c23_t (q_r a0) (q_r a1) σ (q_r (lo 0)) (q_r (lo 1)) (q_i (lo 2)) (q_i (lo 3)) τ τ7 hI (cm3t h6) g7⟩
      · refine fun o8 τ8 g8 => ?_
        obtain ⟨r8, rfl, g8⟩ := g8
        refine fun h9 => ?_
        refine And.intro (fun h10 => ?_) (fun h10 => ?_)
        · exact ⟨rfl, sp_91_c23_ft (q_r a0) (q_r a1) σ (q_r (lo 0)) (q_r (lo 1)) (q_i (lo 2)) (q_i (lo 3)) τ τ8 r8 hI (cm3f h6) g8 (q_inp h9) (cm0t h10)⟩
        · exact ⟨_, rfl, sp_91_c23_ff (q_r a0) (q_r a1) σ (q_r (lo 0)) (q_r (lo 1)) (q_i (lo 2)) (q_i (lo 3)) τ τ8 r8 hI (cm3f h6) g8 (q_inp h9) (cm0f h10)⟩
  · refine And.intro (fun h1 => ?_) (fun h1 => ?_)
    · exact ⟨_, rfl, sp_91_et (q_r a0) (q_r a1) σ (cm1t h1)⟩
    · refine And.intro (fun h2 => ?_) (fun h2 => ?_)
      · exact ⟨_, rfl, sp_91_eft (q_r a0) (q_r a1) σ (cm1f h1) (cm4t h2)⟩
      · refine fun o3 τ3 g3 => ?_
        obtain ⟨r3, rfl, g3⟩ := g3
        refine fun o4 τ4 g4 => ?_
        obtain ⟨r4, rfl, g4⟩ := g4
        refine And.intro (fun h5 => ?_) (fun h5 => ?_)
        · exact ⟨rfl, sp_91_efft (q_r a0) (q_r a1) σ τ3 r3 τ4 r4 (cm1f h1) (cm4f h2) g3 g4 (cm0t h5)⟩
        · exact ⟨_, rfl, sp_91_efff (q_r a0) (q_r a1) σ τ3 r3 τ4 r4 (cm1f h1) (cm4f h2) g3 g4 (cm0f h5)⟩
/-- what a need leaves: the place behind, or the wrong place -/
noncomputable def cN (σ : zSg) (t A : Nat) (o : Option Nat) : zSg := match o with
  | some A1 => q_w σ t 2 (.int (Int32.ofNat A1))
  | none => q_w σ t 3 (.int (Int32.ofNat A))
noncomputable def p_92 (t w : Nat) (σ σ' : zSg) : Prop := ∀ A E, cS σ t A E → zwk w → ((q_i (σ.1 t 3)).toInt = -1 → (zWa (cb σ t) E (q_si w) A → σ' = q_w σ t 2 (.int (Int32.ofNat (zBl (cb σ t) E (A + (q_s w).length))))) ∧ (¬ zWa (cb σ t) E (q_si w) A → σ' = q_w σ t 3 (.int (Int32.ofNat A)))) ∧ ((q_i (σ.1 t 3)).toInt ≠ -1 → σ' = σ)
noncomputable def p_93 (t : Nat) (c : Int32) (σ : zSg) (r : Int32) (σ' : zSg) : Prop := ∀ A E, cS σ t A E → 0 ≤ c.toInt → c.toInt ≤ 127 → (r.toInt ≠ 0 ∧ (q_i (σ.1 t 3)).toInt = -1 ∧ (A < E ∧ cb σ t A = c.toInt) ∧ σ' = q_w σ t 2 (.int (Int32.ofNat (zBl (cb σ t) E (A + 1))))) ∨ (r.toInt = 0 ∧ ((q_i (σ.1 t 3)).toInt = -1 → ¬ (A < E ∧ cb σ t A = c.toInt)) ∧ σ' = σ)
noncomputable def p_94 (t : Nat) (c : Int32) (σ σ' : zSg) : Prop := ∀ A E, cS σ t A E → 0 ≤ c.toInt → c.toInt ≤ 127 → ((q_i (σ.1 t 3)).toInt = -1 → ((A < E ∧ cb σ t A = c.toInt) → σ' = q_w σ t 2 (.int (Int32.ofNat (zBl (cb σ t) E (A + 1))))) ∧ (¬ (A < E ∧ cb σ t A = c.toInt) → σ' = q_w σ t 3 (.int (Int32.ofNat A)))) ∧ ((q_i (σ.1 t 3)).toInt ≠ -1 → σ' = σ)
noncomputable def p_95 (t : Nat) (σ : zSg) (r : Int32) (σ' : zSg) : Prop := σ' = σ ∧ ∀ A E, cS σ t A E → (r.toInt ≠ 0 ↔ (q_i (σ.1 t 3)).toInt = -1 ∧ A < E ∧ 48 ≤ cb σ t A ∧ cb σ t A ≤ 57)
theorem zJ_92 : zJ3 92 z_m92 z_c92 z_h92 := ⟨rfl, rfl, rfl⟩
theorem zJ_93 : zJ3 93 z_m93 z_c93 z_h93 := ⟨rfl, rfl, rfl⟩
theorem zJ_94 : zJ3 94 z_m94 z_c94 z_h94 := ⟨rfl, rfl, rfl⟩
theorem zJ_95 : zJ3 95 z_m95 z_c95 z_h95 := ⟨rfl, rfl, rfl⟩
theorem sp_92_et (a0 : Nat) (a1 : Nat) (σ : zSg) (τ1 : zSg) (r1 : Int32) (g1 : p_91 a0 a1 σ r1 τ1) (h2 : r1.toInt ≠ (0 : Int)) :
    p_92 (a0) (a1) σ τ1 := by
  intro A E S hw
  rcases g1 A E S hw with ⟨g1, g2, g3, g4⟩ | ⟨g1, -⟩
  · exact ⟨fun _ => ⟨fun _ => g4, fun q => absurd g3 q⟩, fun q => absurd g2 q⟩
  · exact absurd g1 h2
theorem sp_92_ef (a0 : Nat) (a1 : Nat) (σ : zSg) (τ1 : zSg) (r1 : Int32) (τ3 : zSg) (g1 : p_91 a0 a1 σ r1 τ1) (h2 : r1.toInt = (0 : Int)) (g3 : p_90 a0 τ1 τ3) :
    p_92 (a0) (a1) σ τ3 := by
  intro A E S hw
  rcases g1 A E S hw with ⟨g1, -⟩ | ⟨g1, g2, rfl⟩
  · exact absurd h2 g1
  · refine ⟨fun hn => ⟨fun q => absurd q (g2 hn), fun _ => ?_⟩, fun hn => g3.1 hn⟩
    rw [g3.2 hn, S.2.2.1]
    rfl
noncomputable def qP_92 : zPp := fun as σ o σ' => match as with
  | [a0, a1] => o = .inl none ∧ p_92 (q_r a0) (q_r a1) σ σ'
  | _ => True
set_option maxRecDepth 100000 in
theorem sp_92 {sx : zX} (S91 : zEe sx 91 2 qP_91) (S90 : zEe sx 90 1 qP_90) : zEe sx 92 2 qP_92 := by
  refine zfle zJ_92 (sps := [(91, 2, qP_91), (90, 1, qP_90)]) (fun q hq => by
    simp only [List.mem_cons, List.not_mem_nil, or_false] at hq
    rcases hq with rfl | rfl
    · exact S91
    · exact S90) (fun as σ hl => ?_)
  match as, hl with
  | [a0, a1], _ =>
  refine ⟨[], 400, ?_, ?_⟩
  · exact fun q hq => absurd hq List.not_mem_nil
  · refine fun o1 τ1 g1 => ?_
    obtain ⟨r1, rfl, g1⟩ := g1
    refine And.intro (fun h2 => ?_) (fun h2 => ?_)
    · exact ⟨rfl, sp_92_et (q_r a0) (q_r a1) σ τ1 r1 g1 (cm1t h2)⟩
    · refine fun o3 τ3 g3 => ?_
      obtain ⟨rfl, g3⟩ := g3
      exact ⟨rfl, sp_92_ef (q_r a0) (q_r a1) σ τ1 r1 τ3 g1 (cm1f h2) g3⟩
theorem sp_93_et (a0 : Nat) (a1 : Int32) (σ : zSg) (h1 : (q_i (σ.1 a0 3)).toInt ≠ (-1 : Int)) :
    p_93 (a0) (a1) σ (Int32.ofInt (0)) σ := by
  intro A E S c0 c1
  exact Or.inr ⟨rfl, fun h => absurd h h1, rfl⟩
theorem sp_93_eft (a0 : Nat) (a1 : Int32) (σ : zSg) (τ2 : zSg) (r2 : Int32) (τ4 : zSg) (h1 : (q_i (σ.1 a0 3)).toInt = (-1 : Int)) (g2 : p_86 a0 (q_i (σ.1 a0 2)) σ r2 τ2) (h3 : r2.toInt = a1.toInt) (g4 : p_97 a0 (q_w τ2 a0 2 (.int ((q_i (τ2.1 a0 2)) + (Int32.ofInt (1))))) τ4) :
    p_93 (a0) (a1) σ (Int32.ofInt (1)) τ4 := by
  intro A E S c0 c1
  have hE := S.2.2.2.2.1
  have hA := S.2.2.2.1
  obtain ⟨rfl, g1⟩ := g2
  have g3 := g1 A E S A (by omega) (by rw [S.2.2.1]; rfl)
  split at g3
  case isFalse => omega
  next hlt =>
  refine Or.inl ⟨by decide, h1, ⟨hlt, (cb_eq S c0 c1).mpr (by omega)⟩, ?_⟩
  have e : q_w τ2 a0 2 (.int (q_i (τ2.1 a0 2) + Int32.ofInt 1)) = q_w τ2 a0 2 (.int (Int32.ofNat (A + 1))) := by
    rw [S.2.2.1, ← o32i (by omega)]
    rfl
  rw [e] at g4
  rw [g4 _ E (S.at (by omega)), cb_w S.1 (by omega), q_w_w]
theorem sp_93_eff (a0 : Nat) (a1 : Int32) (σ : zSg) (τ2 : zSg) (r2 : Int32) (h1 : (q_i (σ.1 a0 3)).toInt = (-1 : Int)) (g2 : p_86 a0 (q_i (σ.1 a0 2)) σ r2 τ2) (h3 : r2.toInt ≠ a1.toInt) :
    p_93 (a0) (a1) σ (Int32.ofInt (0)) τ2 := by
  intro A E S c0 c1
  have hE := S.2.2.2.2.1
  have hA := S.2.2.2.1
  obtain ⟨rfl, g1⟩ := g2
  have g3 := g1 A E S A (by omega) (by rw [S.2.2.1]; rfl)
  refine Or.inr ⟨rfl, fun _ q => ?_, rfl⟩
  rw [if_pos q.1] at g3
  exact h3 (g3.trans ((cb_eq S c0 c1).mp q.2))
noncomputable def qP_93 : zPp := fun as σ o σ' => match as with
  | [a0, a1] => ∃ r, o = .inl (some (.int r)) ∧ p_93 (q_r a0) (q_i a1) σ r σ'
  | _ => True
set_option maxRecDepth 100000 in
theorem sp_93 {sx : zX} (S86 : zEe sx 86 2 qP_86) (S97 : zEe sx 97 1 qP_97) : zEe sx 93 2 qP_93 := by
  refine zfle zJ_93 (sps := [(86, 2, qP_86), (97, 1, qP_97)]) (fun q hq => by
    simp only [List.mem_cons, List.not_mem_nil, or_false] at hq
    rcases hq with rfl | rfl
    · exact S86
    · exact S97) (fun as σ hl => ?_)
  match as, hl with
  | [a0, a1], _ =>
  refine ⟨[], 400, ?_, ?_⟩
  · exact fun q hq => absurd hq List.not_mem_nil
  · refine And.intro (fun h1 => ?_) (fun h1 => ?_)
    · exact ⟨_, rfl, sp_93_et (q_r a0) (q_i a1) σ (cm1t h1)⟩
    · refine fun o2 τ2 g2 => ?_
      obtain ⟨r2, rfl, g2⟩ := g2
      refine And.intro (fun h3 => ?_) (fun h3 => ?_)
      · refine fun o4 τ4 g4 => ?_
        obtain ⟨rfl, g4⟩ := g4
        exact ⟨_, rfl, sp_93_eft (q_r a0) (q_i a1) σ τ2 r2 τ4 (cm1f h1) g2 (cm0t h3) g4⟩
      · exact ⟨_, rfl, sp_93_eff (q_r a0) (q_i a1) σ τ2 r2 (cm1f h1) g2 (cm0f h3)⟩
theorem sp_94_et (a0 : Nat) (a1 : Int32) (σ : zSg) (τ1 : zSg) (r1 : Int32) (g1 : p_93 a0 a1 σ r1 τ1) (h2 : r1.toInt ≠ (0 : Int)) :
    p_94 (a0) (a1) σ τ1 := by
  intro A E S c0 c1
  rcases g1 A E S c0 c1 with ⟨g1, g2, g3, g4⟩ | ⟨g1, -⟩
  · exact ⟨fun _ => ⟨fun _ => g4, fun q => absurd g3 q⟩, fun q => absurd g2 q⟩
  · exact absurd g1 h2
theorem sp_94_ef (a0 : Nat) (a1 : Int32) (σ : zSg) (τ1 : zSg) (r1 : Int32) (τ3 : zSg) (g1 : p_93 a0 a1 σ r1 τ1) (h2 : r1.toInt = (0 : Int)) (g3 : p_90 a0 τ1 τ3) :
    p_94 (a0) (a1) σ τ3 := by
  intro A E S c0 c1
  rcases g1 A E S c0 c1 with ⟨g1, -⟩ | ⟨g1, g2, rfl⟩
  · exact absurd h2 g1
  · refine ⟨fun hn => ⟨fun q => absurd q (g2 hn), fun _ => ?_⟩, fun hn => g3.1 hn⟩
    rw [g3.2 hn, S.2.2.1]
    rfl
noncomputable def qP_94 : zPp := fun as σ o σ' => match as with
  | [a0, a1] => o = .inl none ∧ p_94 (q_r a0) (q_i a1) σ σ'
  | _ => True
set_option maxRecDepth 100000 in
theorem sp_94 {sx : zX} (S93 : zEe sx 93 2 qP_93) (S90 : zEe sx 90 1 qP_90) : zEe sx 94 2 qP_94 := by
  refine zfle zJ_94 (sps := [(93, 2, qP_93), (90, 1, qP_90)]) (fun q hq => by
    simp only [List.mem_cons, List.not_mem_nil, or_false] at hq
    rcases hq with rfl | rfl
    · exact S93
    · exact S90) (fun as σ hl => ?_)
  match as, hl with
  | [a0, a1], _ =>
  refine ⟨[], 400, ?_, ?_⟩
  · exact fun q hq => absurd hq List.not_mem_nil
  · refine fun o1 τ1 g1 => ?_
    obtain ⟨r1, rfl, g1⟩ := g1
    refine And.intro (fun h2 => ?_) (fun h2 => ?_)
    · exact ⟨rfl, sp_94_et (q_r a0) (q_i a1) σ τ1 r1 g1 (cm1t h2)⟩
    · refine fun o3 τ3 g3 => ?_
      obtain ⟨rfl, g3⟩ := g3
      exact ⟨rfl, sp_94_ef (q_r a0) (q_i a1) σ τ1 r1 τ3 g1 (cm1f h2) g3⟩
theorem sp_95_et (a0 : Nat) (σ : zSg) (h1 : (q_i (σ.1 a0 3)).toInt ≠ (-1 : Int)) :
    p_95 (a0) σ (Int32.ofInt (0)) σ := by
  exact ⟨rfl, fun A E S => ⟨fun h => absurd rfl h, fun h => absurd h.1 h1⟩⟩
theorem sp_95_eft (a0 : Nat) (σ : zSg) (τ2 : zSg) (r2 : Int32) (τ3 : zSg) (r3 : Int32) (h1 : (q_i (σ.1 a0 3)).toInt = (-1 : Int)) (g2 : p_86 a0 (q_i (σ.1 a0 2)) σ r2 τ2) (g3 : p_99 r2 τ2 r3 τ3) (h4 : r3.toInt = (0 : Int)) :
    p_95 (a0) σ (Int32.ofInt (0)) τ3 := by
  obtain ⟨rfl, g1⟩ := g2
  obtain ⟨rfl, g2⟩ := g3
  refine ⟨rfl, fun A E S => ?_⟩
  have hE := S.2.2.2.2.1
  have hA := S.2.2.2.1
  have g3 := g1 A E S A (by omega) (by rw [S.2.2.1]; rfl)
  have g4 := cb_rg (k := A) (lo := 48) (hi := 57) S (by omega) (by omega)
  have c0 : (Int32.ofInt 0).toInt = 0 := rfl
  have c1 : (Int32.ofInt 1).toInt = 1 := rfl
  have H9 := h1
  split at g3 <;> omega
theorem sp_95_eff (a0 : Nat) (σ : zSg) (τ2 : zSg) (r2 : Int32) (τ3 : zSg) (r3 : Int32) (h1 : (q_i (σ.1 a0 3)).toInt = (-1 : Int)) (g2 : p_86 a0 (q_i (σ.1 a0 2)) σ r2 τ2) (g3 : p_99 r2 τ2 r3 τ3) (h4 : r3.toInt ≠ (0 : Int)) :
    p_95 (a0) σ (Int32.ofInt (1)) τ3 := by
  obtain ⟨rfl, g1⟩ := g2
  obtain ⟨rfl, g2⟩ := g3
  refine ⟨rfl, fun A E S => ?_⟩
  have hE := S.2.2.2.2.1
  have hA := S.2.2.2.1
  have g3 := g1 A E S A (by omega) (by rw [S.2.2.1]; rfl)
  have g4 := cb_rg (k := A) (lo := 48) (hi := 57) S (by omega) (by omega)
  have c0 : (Int32.ofInt 0).toInt = 0 := rfl
  have c1 : (Int32.ofInt 1).toInt = 1 := rfl
  have H9 := h1
  split at g3 <;> omega
noncomputable def qP_95 : zPp := fun as σ o σ' => match as with
  | [a0] => ∃ r, o = .inl (some (.int r)) ∧ p_95 (q_r a0) σ r σ'
  | _ => True
set_option maxRecDepth 100000 in
theorem sp_95 {sx : zX} (S86 : zEe sx 86 2 qP_86) (S99 : zEe sx 99 1 qP_99) : zEe sx 95 1 qP_95 := by
  refine zfle zJ_95 (sps := [(86, 2, qP_86), (99, 1, qP_99)]) (fun q hq => by
    simp only [List.mem_cons, List.not_mem_nil, or_false] at hq
    rcases hq with rfl | rfl
    · exact S86
    · exact S99) (fun as σ hl => ?_)
  match as, hl with
  | [a0], _ =>
  refine ⟨[], 400, ?_, ?_⟩
  · exact fun q hq => absurd hq List.not_mem_nil
  · refine And.intro (fun h1 => ?_) (fun h1 => ?_)
    · exact ⟨_, rfl, sp_95_et (q_r a0) σ (cm1t h1)⟩
    · refine fun o2 τ2 g2 => ?_
      obtain ⟨r2, rfl, g2⟩ := g2
      refine fun o3 τ3 g3 => ?_
      obtain ⟨r3, rfl, g3⟩ := g3
      refine And.intro (fun h4 => ?_) (fun h4 => ?_)
      · exact ⟨_, rfl, sp_95_eft (q_r a0) σ τ2 r2 τ3 r3 (cm1f h1) g2 g3 (cm0t h4)⟩
      · exact ⟨_, rfl, sp_95_eff (q_r a0) σ τ2 r2 τ3 r3 (cm1f h1) g2 g3 (cm0f h4)⟩
noncomputable def p_96 (t : Nat) (lo hi : Int32) (σ : zSg) (r : Int32) (σ' : zSg) : Prop := ∀ A E, cS σ t A E → 0 ≤ lo.toInt → ((q_i (σ.1 t 3)).toInt = -1 → (0 ≤ zNm (cb σ t) E lo.toInt hi.toInt A ∧ r.toInt = zNm (cb σ t) E lo.toInt hi.toInt A ∧ σ' = q_w σ t 2 (.int (Int32.ofNat (zBl (cb σ t) E (zDe (cb σ t) E A))))) ∨ (zNm (cb σ t) E lo.toInt hi.toInt A = -1 ∧ r = lo ∧ σ' = q_w σ t 3 (.int (Int32.ofNat A)))) ∧ ((q_i (σ.1 t 3)).toInt ≠ -1 → (r = lo ∨ (lo.toInt ≤ r.toInt ∧ r.toInt ≤ hi.toInt)) ∧ ∃ A', A' ≤ E ∧ σ' = q_w σ t 2 (.int (Int32.ofNat A')))
noncomputable def i_96 (t : Nat) (lo hi : Int32) (σ : zSg) (l0 : Nat) (l1 l2 bh v : Int32) (τ : zSg) : Prop := l0 = t ∧ l1 = lo ∧ l2 = hi ∧ τ = σ ∧ ∀ A E, cS σ t A E → ∃ K, bh = Int32.ofNat K ∧ A ≤ K ∧ K ≤ E ∧ zDe (cb σ t) E A = zDe (cb σ t) E K ∧ K ≤ zDe (cb σ t) E A ∧ v.toInt = zDv (cb σ t) A (K - A)
theorem zJ_96 : zJ3 96 z_m96 z_c96 z_h96 := ⟨rfl, rfl, rfl⟩
noncomputable def j_96 (t : Nat) (lo hi : Int32) (σ : zSg) (l0 : Nat) (l1 l2 bh v : Int32) (τ : zSg) : Prop := l0 = t ∧ l1 = lo ∧ l2 = hi ∧ τ = σ ∧ ∀ A E, cS σ t A E → ∃ K, bh = Int32.ofNat K ∧ A ≤ K ∧ K ≤ E ∧ zDe (cb σ t) E A = K ∧ v.toInt = zDv (cb σ t) A (K - A)
theorem sp_96_e (a0 : Nat) (a1 : Int32) (a2 : Int32) (σ : zSg)  :
    i_96 a0 a1 a2 σ a0 a1 a2 (q_i (σ.1 a0 2)) (Int32.ofInt (0)) σ := by
  refine ⟨rfl, rfl, rfl, rfl, fun A E S => ⟨A, ?_, Nat.le_refl _, S.2.2.2.1, rfl, zRn_ge, ?_⟩⟩
  · rw [S.2.2.1]; rfl
  · rw [Nat.sub_self]; rfl
theorem sp_96_c5_t (a0 : Nat) (a1 : Int32) (a2 : Int32) (σ : zSg) (l0 : Nat) (l1 : Int32) (l2 : Int32) (l3 : Int32) (l4 : Int32) (τ : zSg) (hI : i_96 a0 a1 a2 σ l0 l1 l2 l3 l4 τ) (h1 : l3.toInt ≥ (q_i (τ.1 l0 1)).toInt) :
    j_96 a0 a1 a2 σ l0 l1 l2 l3 l4 τ := by
  obtain ⟨rfl, rfl, rfl, rfl, G⟩ := hI
  refine ⟨rfl, rfl, rfl, rfl, fun A E S => ?_⟩
  obtain ⟨K, rfl, k1, k2, k3, k4, k5⟩ := G A E S
  have hE := S.2.2.2.2.1
  refine ⟨K, rfl, k1, k2, ?_, k5⟩
  have h9 : (Int32.ofNat K).toInt ≥ (Int32.ofNat E).toInt := by
    have := h1
    rw [S.2.1] at this
    exact this
  rw [o32 (by omega), o32 (by omega)] at h9
  rw [k3]
  exact zRn_f (by omega)
theorem sp_96_c5_ft (a0 : Nat) (a1 : Int32) (a2 : Int32) (σ : zSg) (l0 : Nat) (l1 : Int32) (l2 : Int32) (l3 : Int32) (l4 : Int32) (τ : zSg) (τ2 : zSg) (r2 : Int32) (τ3 : zSg) (r3 : Int32) (hI : i_96 a0 a1 a2 σ l0 l1 l2 l3 l4 τ) (h1 : l3.toInt < (q_i (τ.1 l0 1)).toInt) (g2 : p_86 l0 l3 τ r2 τ2) (g3 : p_99 r2 τ2 r3 τ3) (h4 : r3.toInt = (0 : Int)) :
    j_96 a0 a1 a2 σ l0 l1 l2 l3 l4 τ3 := by
  obtain ⟨rfl, rfl, rfl, rfl, G⟩ := hI
  obtain ⟨rfl, g1⟩ := g2
  obtain ⟨rfl, g2⟩ := g3
  refine ⟨rfl, rfl, rfl, rfl, fun A E S => ?_⟩
  obtain ⟨K, rfl, k1, k2, k3, k4, k5⟩ := G A E S
  have hE := S.2.2.2.2.1
  refine ⟨K, rfl, k1, k2, ?_, k5⟩
  have g3 := g1 A E S K (by omega) rfl
  rw [k3]
  refine zRn_f (fun q => ?_)
  rw [if_pos q.1] at g3
  have q2 := (cb_rg S (by omega) (by omega)).mp q.2
  exact (g2.mpr (by omega)) h4
theorem sp_96_c5_fft (a0 : Nat) (a1 : Int32) (a2 : Int32) (σ : zSg) (l0 : Nat) (l1 : Int32) (l2 : Int32) (l3 : Int32) (l4 : Int32) (τ : zSg) (τ2 : zSg) (r2 : Int32) (τ3 : zSg) (r3 : Int32) (hI : i_96 a0 a1 a2 σ l0 l1 l2 l3 l4 τ) (h1 : l3.toInt < (q_i (τ.1 l0 1)).toInt) (g2 : p_86 l0 l3 τ r2 τ2) (g3 : p_99 r2 τ2 r3 τ3) (h4 : r3.toInt ≠ (0 : Int)) (h5 : (l3 - (q_i (τ3.1 l0 2))).toInt ≥ (3 : Int)) :
    i_96 a0 a1 a2 σ l0 l1 l2 (l3 + Int32.ofInt (1)) l4 τ3 := by
  obtain ⟨rfl, rfl, rfl, rfl, G⟩ := hI
  obtain ⟨rfl, g1⟩ := g2
  obtain ⟨rfl, g2⟩ := g3
  refine ⟨rfl, rfl, rfl, rfl, fun A E S => ?_⟩
  obtain ⟨K, rfl, k1, k2, k3, k4, k5⟩ := G A E S
  have hE := S.2.2.2.2.1
  have g3 := g1 A E S K (by omega) rfl
  have g4 := g2.mp h4
  have hlt : K < E := by
    split at g3
    · assumption
    · omega
  rw [if_pos hlt] at g3
  have hd : K < E ∧ 48 ≤ cb τ3 l0 K ∧ cb τ3 l0 K ≤ 57 := ⟨hlt, (cb_rg S (by omega) (by omega)).mpr (by omega)⟩
  have hD : zDe (cb τ3 l0) E K = zDe (cb τ3 l0) E (K + 1) := zRn_t hd
  have hK : K + 1 ≤ zDe (cb τ3 l0) E A := by rw [k3, hD]; exact zRn_ge
  have e1 : (Int32.ofNat K - q_i (τ3.1 l0 2)).toInt = (K : Int) - A := by
    rw [S.2.2.1]
    exact zI_sub (o32 (by omega)) (o32 (by omega)) (by omega) (by omega)
  rw [e1] at h5
  refine ⟨K + 1, by rw [← o32i (by omega)], by omega, by omega, k3.trans hD, hK, ?_⟩
  rw [show K + 1 - A = (K - A) + 1 by omega]
  unfold zDv
  rw [if_neg (by omega)]
  exact k5
theorem sp_96_c5_fff (a0 : Nat) (a1 : Int32) (a2 : Int32) (σ : zSg) (l0 : Nat) (l1 : Int32) (l2 : Int32) (l3 : Int32) (l4 : Int32) (τ : zSg) (τ2 : zSg) (r2 : Int32) (τ3 : zSg) (r3 : Int32) (τ6 : zSg) (r6 : Int32) (hI : i_96 a0 a1 a2 σ l0 l1 l2 l3 l4 τ) (h1 : l3.toInt < (q_i (τ.1 l0 1)).toInt) (g2 : p_86 l0 l3 τ r2 τ2) (g3 : p_99 r2 τ2 r3 τ3) (h4 : r3.toInt ≠ (0 : Int)) (h5 : (l3 - (q_i (τ3.1 l0 2))).toInt < (3 : Int)) (g6 : p_86 l0 l3 τ3 r6 τ6) :
    i_96 a0 a1 a2 σ l0 l1 l2 (l3 + Int32.ofInt (1)) (((l4 * (Int32.ofInt (10))) + r6) - (Int32.ofInt (48))) τ6 := by
  obtain ⟨rfl, rfl, rfl, rfl, G⟩ := hI
  obtain ⟨rfl, g9⟩ := g6
  obtain ⟨rfl, g1⟩ := g2
  obtain ⟨rfl, g2⟩ := g3
  refine ⟨rfl, rfl, rfl, rfl, fun A E S => ?_⟩
  obtain ⟨K, rfl, k1, k2, k3, k4, k5⟩ := G A E S
  have hE := S.2.2.2.2.1
  have g3 := g1 A E S K (by omega) rfl
  have g4 := g2.mp h4
  have hlt : K < E := by
    split at g3
    · assumption
    · omega
  rw [if_pos hlt] at g3
  have hd : K < E ∧ 48 ≤ cb τ6 l0 K ∧ cb τ6 l0 K ≤ 57 := ⟨hlt, (cb_rg S (by omega) (by omega)).mpr (by omega)⟩
  have hD : zDe (cb τ6 l0) E K = zDe (cb τ6 l0) E (K + 1) := zRn_t hd
  have hK : K + 1 ≤ zDe (cb τ6 l0) E A := by rw [k3, hD]; exact zRn_ge
  have e1 : (Int32.ofNat K - q_i (τ6.1 l0 2)).toInt = (K : Int) - A := by
    rw [S.2.2.1]
    exact zI_sub (o32 (by omega)) (o32 (by omega)) (by omega) (by omega)
  rw [e1] at h5
  refine ⟨K + 1, by rw [← o32i (by omega)], by omega, by omega, k3.trans hD, hK, ?_⟩
  rw [show K + 1 - A = (K - A) + 1 by omega]
  unfold zDv
  rw [if_pos (by omega), show A + (K - A) = K by omega]
  have hv := zDv_in (b := cb τ6 l0) (E := E) (A := A) (K - A) (by omega)
  have g5 := g9 A E S K (by omega) rfl
  rw [if_pos hlt] at g5
  have m1 : (l4 * Int32.ofInt 10).toInt = l4.toInt * 10 := by
    rw [Int32.toInt_mul, zI_c (by omega) (by omega)]
    exact z_bm (by omega) (by omega)
  have c48 : (Int32.ofInt 48).toInt = 48 := rfl
  have hcb : cb τ6 l0 K = cu τ6 l0 K := by
    unfold cb
    rw [if_neg (by omega)]
  rw [zI_sub (zI_add m1 g5 (by omega) (by omega)) c48 (by omega) (by omega), k5, hcb]
  omega
theorem sp_96_c32_t (a0 : Nat) (a1 : Int32) (a2 : Int32) (σ : zSg) (l0 : Nat) (l1 : Int32) (l2 : Int32) (l3 : Int32) (l4 : Int32) (τ : zSg) (τ8 : zSg) (hI : j_96 a0 a1 a2 σ l0 l1 l2 l3 l4 τ) (h7 : (l3 - (q_i (τ.1 l0 2))).toInt < (1 : Int)) (g8 : p_90 l0 τ τ8) :
    p_96 (a0) (a1) (a2) σ l1 τ8 := by
  obtain ⟨rfl, rfl, rfl, rfl, G⟩ := hI
  intro A E S hlo
  obtain ⟨K, rfl, k1, k2, k3, k5⟩ := G A E S
  have hE := S.2.2.2.2.1
  have e1 : (Int32.ofNat K - q_i (τ.1 l0 2)).toInt = (K : Int) - A := by
    rw [S.2.2.1]
    exact zI_sub (o32 (by omega)) (o32 (by omega)) (by omega) (by omega)
  rw [e1] at h7
  have hv := zDv_in (b := cb τ l0) (E := E) (A := A) (K - A) (by omega)
  have hz : zNm (cb τ l0) E l1.toInt l2.toInt A = -1 := by
    unfold zNm
    rw [k3, ← k5, if_neg (by omega)]
  refine ⟨fun hn => Or.inr ⟨hz, rfl, ?_⟩, fun hn => ⟨Or.inl rfl, A, S.2.2.2.1, ?_⟩⟩
  · rw [g8.2 hn, S.2.2.1]
    rfl
  · rw [g8.1 hn, q_w_id S.2.2.1]
theorem sp_96_c32_ft (a0 : Nat) (a1 : Int32) (a2 : Int32) (σ : zSg) (l0 : Nat) (l1 : Int32) (l2 : Int32) (l3 : Int32) (l4 : Int32) (τ : zSg) (τ10 : zSg) (hI : j_96 a0 a1 a2 σ l0 l1 l2 l3 l4 τ) (h7 : (l3 - (q_i (τ.1 l0 2))).toInt ≥ (1 : Int)) (h9 : (l3 - (q_i (τ.1 l0 2))).toInt > (3 : Int)) (g10 : p_90 l0 τ τ10) :
    p_96 (a0) (a1) (a2) σ l1 τ10 := by
  obtain ⟨rfl, rfl, rfl, rfl, G⟩ := hI
  intro A E S hlo
  obtain ⟨K, rfl, k1, k2, k3, k5⟩ := G A E S
  have hE := S.2.2.2.2.1
  have e1 : (Int32.ofNat K - q_i (τ.1 l0 2)).toInt = (K : Int) - A := by
    rw [S.2.2.1]
    exact zI_sub (o32 (by omega)) (o32 (by omega)) (by omega) (by omega)
  rw [e1] at h9 h7
  have hv := zDv_in (b := cb τ l0) (E := E) (A := A) (K - A) (by omega)
  have hz : zNm (cb τ l0) E l1.toInt l2.toInt A = -1 := by
    unfold zNm
    rw [k3, ← k5, if_neg (by omega)]
  refine ⟨fun hn => Or.inr ⟨hz, rfl, ?_⟩, fun hn => ⟨Or.inl rfl, A, S.2.2.2.1, ?_⟩⟩
  · rw [g10.2 hn, S.2.2.1]
    rfl
  · rw [g10.1 hn, q_w_id S.2.2.1]
theorem sp_96_c32_fft (a0 : Nat) (a1 : Int32) (a2 : Int32) (σ : zSg) (l0 : Nat) (l1 : Int32) (l2 : Int32) (l3 : Int32) (l4 : Int32) (τ : zSg) (τ12 : zSg) (hI : j_96 a0 a1 a2 σ l0 l1 l2 l3 l4 τ) (h7 : (l3 - (q_i (τ.1 l0 2))).toInt ≥ (1 : Int)) (h9 : (l3 - (q_i (τ.1 l0 2))).toInt ≤ (3 : Int)) (h11 : l4.toInt < l1.toInt) (g12 : p_90 l0 τ τ12) :
    p_96 (a0) (a1) (a2) σ l1 τ12 := by
  obtain ⟨rfl, rfl, rfl, rfl, G⟩ := hI
  intro A E S hlo
  obtain ⟨K, rfl, k1, k2, k3, k5⟩ := G A E S
  have hE := S.2.2.2.2.1
  have e1 : (Int32.ofNat K - q_i (τ.1 l0 2)).toInt = (K : Int) - A := by
    rw [S.2.2.1]
    exact zI_sub (o32 (by omega)) (o32 (by omega)) (by omega) (by omega)
  rw [e1] at h9 h7
  have hv := zDv_in (b := cb τ l0) (E := E) (A := A) (K - A) (by omega)
  have hz : zNm (cb τ l0) E l1.toInt l2.toInt A = -1 := by
    unfold zNm
    rw [k3, ← k5, if_neg (by omega)]
  refine ⟨fun hn => Or.inr ⟨hz, rfl, ?_⟩, fun hn => ⟨Or.inl rfl, A, S.2.2.2.1, ?_⟩⟩
  · rw [g12.2 hn, S.2.2.1]
    rfl
  · rw [g12.1 hn, q_w_id S.2.2.1]
theorem sp_96_c32_ffft (a0 : Nat) (a1 : Int32) (a2 : Int32) (σ : zSg) (l0 : Nat) (l1 : Int32) (l2 : Int32) (l3 : Int32) (l4 : Int32) (τ : zSg) (τ14 : zSg) (hI : j_96 a0 a1 a2 σ l0 l1 l2 l3 l4 τ) (h7 : (l3 - (q_i (τ.1 l0 2))).toInt ≥ (1 : Int)) (h9 : (l3 - (q_i (τ.1 l0 2))).toInt ≤ (3 : Int)) (h11 : l4.toInt ≥ l1.toInt) (h13 : l4.toInt ≤ l2.toInt) (g14 : p_97 l0 (q_w τ l0 2 (.int l3)) τ14) :
    p_96 (a0) (a1) (a2) σ l4 τ14 := by
  obtain ⟨rfl, rfl, rfl, rfl, G⟩ := hI
  intro A E S hlo
  obtain ⟨K, rfl, k1, k2, k3, k5⟩ := G A E S
  have hE := S.2.2.2.2.1
  have e1 : (Int32.ofNat K - q_i (τ.1 l0 2)).toInt = (K : Int) - A := by
    rw [S.2.2.1]
    exact zI_sub (o32 (by omega)) (o32 (by omega)) (by omega) (by omega)
  rw [e1] at h9 h7
  have hv := zDv_in (b := cb τ l0) (E := E) (A := A) (K - A) (by omega)
  have hz : zNm (cb τ l0) E l1.toInt l2.toInt A = l4.toInt := by
    unfold zNm
    rw [k3, ← k5, if_pos (by omega)]
  have hg := g14 K E (S.at k2)
  rw [cb_w S.1 (by omega), q_w_w] at hg
  refine ⟨fun hn => Or.inl ⟨by omega, hz.symm, by rw [hg, k3]⟩, fun hn => ⟨Or.inr (by omega), _, zBl_le k2, hg⟩⟩
theorem sp_96_c32_ffff (a0 : Nat) (a1 : Int32) (a2 : Int32) (σ : zSg) (l0 : Nat) (l1 : Int32) (l2 : Int32) (l3 : Int32) (l4 : Int32) (τ : zSg) (τ15 : zSg) (hI : j_96 a0 a1 a2 σ l0 l1 l2 l3 l4 τ) (h7 : (l3 - (q_i (τ.1 l0 2))).toInt ≥ (1 : Int)) (h9 : (l3 - (q_i (τ.1 l0 2))).toInt ≤ (3 : Int)) (h11 : l4.toInt ≥ l1.toInt) (h13 : l4.toInt > l2.toInt) (g15 : p_90 l0 τ τ15) :
    p_96 (a0) (a1) (a2) σ l1 τ15 := by
  obtain ⟨rfl, rfl, rfl, rfl, G⟩ := hI
  intro A E S hlo
  obtain ⟨K, rfl, k1, k2, k3, k5⟩ := G A E S
  have hE := S.2.2.2.2.1
  have e1 : (Int32.ofNat K - q_i (τ.1 l0 2)).toInt = (K : Int) - A := by
    rw [S.2.2.1]
    exact zI_sub (o32 (by omega)) (o32 (by omega)) (by omega) (by omega)
  rw [e1] at h9 h7
  have hv := zDv_in (b := cb τ l0) (E := E) (A := A) (K - A) (by omega)
  have hz : zNm (cb τ l0) E l1.toInt l2.toInt A = -1 := by
    unfold zNm
    rw [k3, ← k5, if_neg (by omega)]
  refine ⟨fun hn => Or.inr ⟨hz, rfl, ?_⟩, fun hn => ⟨Or.inl rfl, A, S.2.2.2.1, ?_⟩⟩
  · rw [g15.2 hn, S.2.2.1]
    rfl
  · rw [g15.1 hn, q_w_id S.2.2.1]
noncomputable def qP_96 : zPp := fun as σ o σ' => match as with
  | [a0, a1, a2] => ∃ r, o = .inl (some (.int r)) ∧ p_96 (q_r a0) (q_i a1) (q_i a2) σ r σ'
  | _ => True
set_option maxRecDepth 100000 in
theorem sp_96 {sx : zX} (S86 : zEe sx 86 2 qP_86) (S99 : zEe sx 99 1 qP_99) (S90 : zEe sx 90 1 qP_90) (S97 : zEe sx 97 1 qP_97) : zEe sx 96 3 qP_96 := by
  refine zfle zJ_96 (sps := [(86, 2, qP_86), (99, 1, qP_99), (90, 1, qP_90), (97, 1, qP_97)]) (fun q hq => by
    simp only [List.mem_cons, List.not_mem_nil, or_false] at hq
    rcases hq with rfl | rfl | rfl | rfl
    · exact S86
    · exact S99
    · exact S90
    · exact S97) (fun as σ hl => ?_)
  match as, hl with
  | [a0, a1, a2], _ =>
  refine ⟨[(5, fun lo st τ => st = [] ∧ i_96 (q_r a0) (q_i a1) (q_i a2) σ (q_r (lo 0)) (q_i (lo 1)) (q_i (lo 2)) (q_i (lo 3)) (q_i (lo 4)) τ), (32, fun lo st τ => st = [] ∧ j_96 (q_r a0) (q_i a1) (q_i a2) σ (q_r (lo 0)) (q_i (lo 1)) (q_i (lo 2)) (q_i (lo 3)) (q_i (lo 4)) τ)], 400, ?_, ?_⟩
  · intro q hq
    simp only [List.mem_cons, List.not_mem_nil, or_false] at hq
    rcases hq with rfl | rfl
    · rintro lo st τ ⟨rfl, hI⟩
      refine ⟨400, ?_⟩
      refine And.intro (fun h1 => ?_) (fun h1 => ?_)
      · exact ⟨rfl, sp_96_c5_t (q_r a0) (q_i a1) (q_i a2) σ (q_r (lo 0)) (q_i (lo 1)) (q_i (lo 2)) (q_i (lo 3)) (q_i (lo 4)) τ hI (cm3t h1)⟩
      · refine fun o2 τ2 g2 => ?_
        obtain ⟨r2, rfl, g2⟩ := g2
        refine fun o3 τ3 g3 => ?_
        obtain ⟨r3, rfl, g3⟩ := g3
        refine And.intro (fun h4 => ?_) (fun h4 => ?_)
        · exact ⟨rfl, sp_96_c5_ft (q_r a0) (q_i a1) (q_i a2) σ (q_r (lo 0)) (q_i (lo 1)) (q_i (lo 2)) (q_i (lo 3)) (q_i (lo 4)) τ τ2 r2 τ3 r3 hI (cm3f h1) g2 g3 (cm0t h4)⟩
        · refine And.intro (fun h5 => ?_) (fun h5 => ?_)
          · exact ⟨rfl, sp_96_c5_fft (q_r a0) (q_i a1) (q_i a2) σ (q_r (lo 0)) (q_i (lo 1)) (q_i (lo 2)) (q_i (lo 3)) (q_i (lo 4)) τ τ2 r2 τ3 r3 hI (cm3f h1) g2 g3 (cm0f h4) (cm3t h5)⟩
          · refine fun o6 τ6 g6 => ?_
            obtain ⟨r6, rfl, g6⟩ := g6
            exact ⟨rfl, sp_96_c5_fff (q_r a0) (q_i a1) (q_i a2) σ (q_r (lo 0)) (q_i (lo 1)) (q_i (lo 2)) (q_i (lo 3)) (q_i (lo 4)) τ τ2 r2 τ3 r3 τ6 r6 hI (cm3f h1) g2 g3 (cm0f h4) (cm3f h5) g6⟩
    · rintro lo st τ ⟨rfl, hI⟩
      refine ⟨400, ?_⟩
      refine And.intro (fun h7 => ?_) (fun h7 => ?_)
      · refine fun o8 τ8 g8 => ?_
        obtain ⟨rfl, g8⟩ := g8
        exact ⟨_, rfl, sp_96_c32_t (q_r a0) (q_i a1) (q_i a2) σ (q_r (lo 0)) (q_i (lo 1)) (q_i (lo 2)) (q_i (lo 3)) (q_i (lo 4)) τ τ8 hI (cm2t h7) g8⟩
      · refine And.intro (fun h9 => ?_) (fun h9 => ?_)
        · refine fun o10 τ10 g10 => ?_
          obtain ⟨rfl, g10⟩ := g10
          exact ⟨_, rfl, sp_96_c32_ft (q_r a0) (q_i a1) (q_i a2) σ (q_r (lo 0)) (q_i (lo 1)) (q_i (lo 2)) (q_i (lo 3)) (q_i (lo 4)) τ τ10 hI (cm2f h7) (cm4t h9) g10⟩
        · refine And.intro (fun h11 => ?_) (fun h11 => ?_)
          · refine fun o12 τ12 g12 => ?_
            obtain ⟨rfl, g12⟩ := g12
            exact ⟨_, rfl, sp_96_c32_fft (q_r a0) (q_i a1) (q_i a2) σ (q_r (lo 0)) (q_i (lo 1)) (q_i (lo 2)) (q_i (lo 3)) (q_i (lo 4)) τ τ12 hI (cm2f h7) (cm4f h9) (cm2t h11) g12⟩
          · refine And.intro (fun h13 => ?_) (fun h13 => ?_)
            · refine fun o14 τ14 g14 => ?_
              obtain ⟨rfl, g14⟩ := g14
              exact ⟨_, rfl, sp_96_c32_ffft (q_r a0) (q_i a1) (q_i a2) σ (q_r (lo 0)) (q_i (lo 1)) (q_i (lo 2)) (q_i (lo 3)) (q_i (lo 4)) τ τ14 hI (cm2f h7) (cm4f h9) (cm2f h11) (cm5t h13) g14⟩
            · refine fun o15 τ15 g15 => ?_
              obtain ⟨rfl, g15⟩ := g15
              exact ⟨_, rfl, sp_96_c32_ffff (q_r a0) (q_i a1) (q_i a2) σ (q_r (lo 0)) (q_i (lo 1)) (q_i (lo 2)) (q_i (lo 3)) (q_i (lo 4)) τ τ15 hI (cm2f h7) (cm4f h9) (cm2f h11) (cm5f h13) g15⟩
  · exact ⟨rfl, sp_96_e (q_r a0) (q_i a1) (q_i a2) σ ⟩
