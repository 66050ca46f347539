section
/-! the Tape of the class, exact; printed with wip/gen/gen_t2.py -/
noncomputable def cu (σ : zSg) (t k : Nat) : Int := (q_i (σ.1 (q_r (σ.1 t 0)) k)).toInt
noncomputable def cb (σ : zSg) (t k : Nat) : Int := if 128 ≤ cu σ t k then cu σ t k - 256 else cu σ t k
noncomputable def cS (σ : zSg) (t A E : Nat) : Prop := q_r (σ.1 t 0) ≠ t ∧ σ.1 t 1 = .int (Int32.ofNat E) ∧ σ.1 t 2 = .int (Int32.ofNat A) ∧ A ≤ E ∧ E ≤ 400 ∧ ∀ k, 0 ≤ cu σ t k ∧ cu σ t k ≤ 255
section CTK
variable {σ : zSg} {t A E : Nat} {v : Value}
theorem cu_w {k : Nat} (h : q_r (σ.1 t 0) ≠ t) (hk : k ≠ 0) : cu (q_w σ t k v) t = cu σ t := by
  funext i
  unfold cu
  rw [q_w_ne (c' := t) (k' := 0) (fun _ q => hk q.symm), q_w_ne (fun q _ => h q)]
theorem cb_w {k : Nat} (h : q_r (σ.1 t 0) ≠ t) (hk : k ≠ 0) : cb (q_w σ t k v) t = cb σ t := by
  funext i
  unfold cb
  rw [cu_w h hk]
theorem cS.at (H : cS σ t A E) {K : Nat} (hK : K ≤ E) : cS (q_w σ t 2 (.int (Int32.ofNat K))) t K E := by
  obtain ⟨h1, h2, h3, h4, h5, h6⟩ := H
  refine ⟨?_, ?_, q_w_at _ _ _ _, hK, h5, ?_⟩
  · rw [q_w_ne (fun _ q => by omega)]; exact h1
  · rw [q_w_ne (fun _ q => by omega)]; exact h2
  · rw [cu_w h1 (by omega)]; exact h6
theorem cS.wr (H : cS σ t A E) : cS (q_w σ t 3 v) t A E := by
  obtain ⟨h1, h2, h3, h4, h5, h6⟩ := H
  refine ⟨?_, ?_, ?_, h4, h5, ?_⟩
  · rw [q_w_ne (fun _ q => by omega)]; exact h1
  · rw [q_w_ne (fun _ q => by omega)]; exact h2
  · rw [q_w_ne (fun _ q => by omega)]; exact h3
  · rw [cu_w h1 (by omega)]; exact h6
theorem cb_rg (H : cS σ t A E) {k : Nat} {lo hi : Int} (h1 : 0 ≤ lo) (h2 : hi ≤ 127) : (lo ≤ cb σ t k ∧ cb σ t k ≤ hi) ↔ (lo ≤ cu σ t k ∧ cu σ t k ≤ hi) := by
  have := H.2.2.2.2.2 k
  unfold cb
  split <;> omega
theorem cb_eq (H : cS σ t A E) {k : Nat} {c : Int} (h1 : 0 ≤ c) (h2 : c ≤ 127) : cb σ t k = c ↔ cu σ t k = c := by
  have := H.2.2.2.2.2 k
  unfold cb
  split <;> omega
/-- a tape, wherever it was read to -/
noncomputable def cS0 (σ : zSg) (t E : Nat) : Prop := q_r (σ.1 t 0) ≠ t ∧ σ.1 t 1 = .int (Int32.ofNat E) ∧ E ≤ 400 ∧ ∀ k, 0 ≤ cu σ t k ∧ cu σ t k ≤ 255
theorem cS0.mk {w : Value} {K : Nat} (H : cS0 σ t E) (hK : K ≤ E) : cS (q_w (q_w σ t 3 w) t 2 (.int (Int32.ofNat K))) t K E ∧ cb (q_w (q_w σ t 3 w) t 2 (.int (Int32.ofNat K))) t = cb σ t := by
  obtain ⟨h1, h2, h5, h6⟩ := H
  have e0 : q_r ((q_w σ t 3 w).1 t 0) ≠ t := by rw [q_w_ne (fun _ q => by omega)]; exact h1
  refine ⟨⟨?_, ?_, q_w_at _ _ _ _, hK, h5, ?_⟩, ?_⟩
  · rw [q_w_ne (fun _ q => by omega), q_w_ne (fun _ q => by omega)]; exact h1
  · rw [q_w_ne (fun _ q => by omega), q_w_ne (fun _ q => by omega)]; exact h2
  · rw [cu_w e0 (by omega), cu_w h1 (by omega)]; exact h6
  · rw [cb_w e0 (by omega), cb_w h1 (by omega)]
end CTK
noncomputable def p_86 (t : Nat) (x : Int32) (σ : zSg) (r : Int32) (σ' : zSg) : Prop := σ' = σ ∧ ∀ A E, cS σ t A E → ∀ k : Nat, k ≤ 900 → x = Int32.ofNat k → r.toInt = if k < E then cu σ t k else -1
theorem zJ_86 : zJ3 86 z_m86 z_c86 z_h86 := ⟨rfl, rfl, rfl⟩
theorem sp_86_et (a0 : Nat) (a1 : Int32) (σ : zSg) (h1 : a1.toInt < (0 : Int)) :
    p_86 (a0) (a1) σ (Int32.ofInt (-1)) σ := by
  refine ⟨rfl, fun A E S k hk hx => ?_⟩
  subst hx
  have hE := S.2.2.2.2.1
  simp only [S.2.1, q_ii, o32 (show k ≤ 1000 by omega), o32 (show E ≤ 1000 by omega)] at *
  rw [if_neg (by omega)]
  rfl
theorem sp_86_eft (a0 : Nat) (a1 : Int32) (σ : zSg) (h1 : a1.toInt ≥ (0 : Int)) (h2 : a1.toInt ≥ (q_i (σ.1 a0 1)).toInt) :
    p_86 (a0) (a1) σ (Int32.ofInt (-1)) σ := by
  refine ⟨rfl, fun A E S k hk hx => ?_⟩
  subst hx
  have hE := S.2.2.2.2.1
  simp only [S.2.1, q_ii, o32 (show k ≤ 1000 by omega), o32 (show E ≤ 1000 by omega)] at *
  rw [if_neg (by omega)]
  rfl
theorem sp_86_efft (a0 : Nat) (a1 : Int32) (σ : zSg) (h1 : a1.toInt ≥ (0 : Int)) (h2 : a1.toInt < (q_i (σ.1 a0 1)).toInt) (h3 : a1.toInt ≥ (400 : Int)) :
    p_86 (a0) (a1) σ (Int32.ofInt (-1)) σ := by
  refine ⟨rfl, fun A E S k hk hx => ?_⟩
  subst hx
  have hE := S.2.2.2.2.1
  simp only [S.2.1, q_ii, o32 (show k ≤ 1000 by omega), o32 (show E ≤ 1000 by omega)] at *
  rw [if_neg (by omega)]
  rfl
theorem sp_86_efff (a0 : Nat) (a1 : Int32) (σ : zSg) (h1 : a1.toInt ≥ (0 : Int)) (h2 : a1.toInt < (q_i (σ.1 a0 1)).toInt) (h3 : a1.toInt < (400 : Int)) (h4 : 0 ≤ a1.toInt ∧ a1.toInt < (σ.2.1 (q_r (σ.1 a0 0)) : Int)) :
    p_86 (a0) (a1) σ (q_i (σ.1 (q_r (σ.1 a0 0)) a1.toNatClampNeg)) σ := by
  refine ⟨rfl, fun A E S k hk hx => ?_⟩
  subst hx
  rw [S.2.1] at h2
  have h9 : (Int32.ofNat k).toInt < (Int32.ofNat E).toInt := h2
  have hE := S.2.2.2.2.1
  rw [o32 (by omega), o32 (by omega)] at h9
  rw [if_pos (by omega), o32n (by omega)]
  rfl
noncomputable def qP_86 : zPp := fun as σ o σ' => match as with
  | [a0, a1] => ∃ r, o = .inl (some (.int r)) ∧ p_86 (q_r a0) (q_i a1) σ r σ'
  | _ => True
set_option maxRecDepth 100000 in
theorem sp_86 {sx : zX}  : zEe sx 86 2 qP_86 := by
  refine zfle zJ_86 (sps := []) (fun q hq => absurd hq List.not_mem_nil) (fun as σ hl => ?_)
  match as, hl with
  | [a0, a1], _ =>
  refine ⟨[], 400, ?_, ?_⟩
  · exact fun q hq => absurd hq List.not_mem_nil
  · refine And.intro (fun h1 => ?_) (fun h1 => ?_)
    · exact ⟨_, rfl, sp_86_et (q_r a0) (q_i a1) σ (cm2t h1)⟩
    · refine And.intro (fun h2 => ?_) (fun h2 => ?_)
      · exact ⟨_, rfl, sp_86_eft (q_r a0) (q_i a1) σ (cm2f h1) (cm3t h2)⟩
      · refine And.intro (fun h3 => ?_) (fun h3 => ?_)
        · exact ⟨_, rfl, sp_86_efft (q_r a0) (q_i a1) σ (cm2f h1) (cm3f h2) (cm3t h3)⟩
        · refine fun h4 => ?_
          exact ⟨_, rfl, sp_86_efff (q_r a0) (q_i a1) σ (cm2f h1) (cm3f h2) (cm3f h3) (q_inp h4)⟩
noncomputable def p_97 (t : Nat) (σ σ' : zSg) : Prop := ∀ A E, cS σ t A E → σ' = q_w σ t 2 (.int (Int32.ofNat (zBl (cb σ t) E A)))
noncomputable def i_97 (t : Nat) (σ : zSg) (l : Nat) (τ : zSg) : Prop := l = t ∧ ∀ A E, cS σ t A E → ∃ K, K ≤ E ∧ zBl (cb σ t) E A = zBl (cb σ t) E K ∧ τ = q_w σ t 2 (.int (Int32.ofNat K))
theorem zJ_97 : zJ3 97 z_m97 z_c97 z_h97 := ⟨rfl, rfl, rfl⟩
theorem sp_97_et (a0 : Nat) (σ : zSg) (h1 : (q_i (σ.1 a0 2)).toInt ≥ (q_i (σ.1 a0 1)).toInt) :
    p_97 (a0) σ σ := by
  intro A E S
  have hE := S.2.2.2.2.1
  have hA := S.2.2.2.1
  have hz : ¬ (A < E ∧ 32 ≤ cb σ a0 A ∧ cb σ a0 A ≤ 32) := by
    rw [cb_rg S (by omega) (by omega)]
    unfold cu
    simp only [S.2.1, S.2.2.1, q_ii, o32n (show A ≤ 1000 by omega), o32 (show A ≤ 1000 by omega), o32 (show E ≤ 1000 by omega)] at *
    omega
  rw [zBl_f hz, q_w_id S.2.2.1]
theorem sp_97_eft (a0 : Nat) (σ : zSg) (h1 : (q_i (σ.1 a0 2)).toInt < (q_i (σ.1 a0 1)).toInt) (h2 : (q_i (σ.1 a0 2)).toInt ≥ (400 : Int)) :
    p_97 (a0) σ σ := by
  intro A E S
  have hE := S.2.2.2.2.1
  have hA := S.2.2.2.1
  have hz : ¬ (A < E ∧ 32 ≤ cb σ a0 A ∧ cb σ a0 A ≤ 32) := by
    rw [cb_rg S (by omega) (by omega)]
    unfold cu
    simp only [S.2.1, S.2.2.1, q_ii, o32n (show A ≤ 1000 by omega), o32 (show A ≤ 1000 by omega), o32 (show E ≤ 1000 by omega)] at *
    omega
  rw [zBl_f hz, q_w_id S.2.2.1]
theorem sp_97_efft (a0 : Nat) (σ : zSg) (h1 : (q_i (σ.1 a0 2)).toInt < (q_i (σ.1 a0 1)).toInt) (h2 : (q_i (σ.1 a0 2)).toInt < (400 : Int)) (h3 : 0 ≤ (q_i (σ.1 a0 2)).toInt ∧ (q_i (σ.1 a0 2)).toInt < (σ.2.1 (q_r (σ.1 a0 0)) : Int)) (h4 : (q_i (σ.1 (q_r (σ.1 a0 0)) (q_i (σ.1 a0 2)).toNatClampNeg)).toInt ≠ (32 : Int)) :
    p_97 (a0) σ σ := by
  intro A E S
  have hE := S.2.2.2.2.1
  have hA := S.2.2.2.1
  have hz : ¬ (A < E ∧ 32 ≤ cb σ a0 A ∧ cb σ a0 A ≤ 32) := by
    rw [cb_rg S (by omega) (by omega)]
    unfold cu
    simp only [S.2.1, S.2.2.1, q_ii, o32n (show A ≤ 1000 by omega), o32 (show A ≤ 1000 by omega), o32 (show E ≤ 1000 by omega)] at *
    omega
  rw [zBl_f hz, q_w_id S.2.2.1]
theorem sp_97_efff (a0 : Nat) (σ : zSg) (h1 : (q_i (σ.1 a0 2)).toInt < (q_i (σ.1 a0 1)).toInt) (h2 : (q_i (σ.1 a0 2)).toInt < (400 : Int)) (h3 : 0 ≤ (q_i (σ.1 a0 2)).toInt ∧ (q_i (σ.1 a0 2)).toInt < (σ.2.1 (q_r (σ.1 a0 0)) : Int)) (h4 : (q_i (σ.1 (q_r (σ.1 a0 0)) (q_i (σ.1 a0 2)).toNatClampNeg)).toInt = (32 : Int)) :
    i_97 a0 σ a0 (q_w σ a0 2 (.int ((q_i (σ.1 a0 2)) + (Int32.ofInt (1))))) := by
  refine ⟨rfl, fun A E S => ?_⟩
  have hE := S.2.2.2.2.1
  have hA := S.2.2.2.1
  have hz : (A < E ∧ 32 ≤ cb σ a0 A ∧ cb σ a0 A ≤ 32) := by
    rw [cb_rg S (by omega) (by omega)]
    unfold cu
    simp only [S.2.1, S.2.2.1, q_ii, o32n (show A ≤ 1000 by omega), o32 (show A ≤ 1000 by omega), o32 (show E ≤ 1000 by omega)] at *
    omega
  refine ⟨A + 1, by omega, zBl_t hz, ?_⟩
  rw [S.2.2.1]
  show q_w σ a0 2 (.int (Int32.ofNat A + Int32.ofInt 1)) = _
  rw [o32i (by omega)]
theorem sp_97_c0_t (a0 : Nat) (σ : zSg) (l0 : Nat) (τ : zSg) (hI : i_97 a0 σ l0 τ) (h5 : (q_i (τ.1 l0 2)).toInt ≥ (q_i (τ.1 l0 1)).toInt) :
    p_97 (a0) σ τ := by
  obtain ⟨rfl, G⟩ := hI
  intro A E S
  obtain ⟨K, k1, k2, rfl⟩ := G A E S
  have hE := S.2.2.2.2.1
  have S1 := S.at k1
  have hz : ¬ (K < E ∧ 32 ≤ cb (q_w σ l0 2 (.int (Int32.ofNat K))) l0 K ∧ cb (q_w σ l0 2 (.int (Int32.ofNat K))) l0 K ≤ 32) := by
    rw [cb_rg S1 (by omega) (by omega)]
    unfold cu
    simp only [S1.2.1, S1.2.2.1, q_ii, o32n (show K ≤ 1000 by omega), o32 (show K ≤ 1000 by omega), o32 (show E ≤ 1000 by omega)] at *
    omega
  rw [cb_w S.1 (by omega)] at hz
  rw [k2, zBl_f hz]
theorem sp_97_c0_ft (a0 : Nat) (σ : zSg) (l0 : Nat) (τ : zSg) (hI : i_97 a0 σ l0 τ) (h5 : (q_i (τ.1 l0 2)).toInt < (q_i (τ.1 l0 1)).toInt) (h6 : (q_i (τ.1 l0 2)).toInt ≥ (400 : Int)) :
    p_97 (a0) σ τ := by
  obtain ⟨rfl, G⟩ := hI
  intro A E S
  obtain ⟨K, k1, k2, rfl⟩ := G A E S
  have hE := S.2.2.2.2.1
  have S1 := S.at k1
  have hz : ¬ (K < E ∧ 32 ≤ cb (q_w σ l0 2 (.int (Int32.ofNat K))) l0 K ∧ cb (q_w σ l0 2 (.int (Int32.ofNat K))) l0 K ≤ 32) := by
    rw [cb_rg S1 (by omega) (by omega)]
    unfold cu
    simp only [S1.2.1, S1.2.2.1, q_ii, o32n (show K ≤ 1000 by omega), o32 (show K ≤ 1000 by omega), o32 (show E ≤ 1000 by omega)] at *
    omega
  rw [cb_w S.1 (by omega)] at hz
  rw [k2, zBl_f hz]
theorem sp_97_c0_fft (a0 : Nat) (σ : zSg) (l0 : Nat) (τ : zSg) (hI : i_97 a0 σ l0 τ) (h5 : (q_i (τ.1 l0 2)).toInt < (q_i (τ.1 l0 1)).toInt) (h6 : (q_i (τ.1 l0 2)).toInt < (400 : Int)) (h7 : 0 ≤ (q_i (τ.1 l0 2)).toInt ∧ (q_i (τ.1 l0 2)).toInt < (τ.2.1 (q_r (τ.1 l0 0)) : Int)) (h8 : (q_i (τ.1 (q_r (τ.1 l0 0)) (q_i (τ.1 l0 2)).toNatClampNeg)).toInt ≠ (32 : Int)) :
    p_97 (a0) σ τ := by
  obtain ⟨rfl, G⟩ := hI
  intro A E S
  obtain ⟨K, k1, k2, rfl⟩ := G A E S
  have hE := S.2.2.2.2.1
  have S1 := S.at k1
  have hz : ¬ (K < E ∧ 32 ≤ cb (q_w σ l0 2 (.int (Int32.ofNat K))) l0 K ∧ cb (q_w σ l0 2 (.int (Int32.ofNat K))) l0 K ≤ 32) := by
    rw [cb_rg S1 (by omega) (by omega)]
    unfold cu
    simp only [S1.2.1, S1.2.2.1, q_ii, o32n (show K ≤ 1000 by omega), o32 (show K ≤ 1000 by omega), o32 (show E ≤ 1000 by omega)] at *
    omega
  rw [cb_w S.1 (by omega)] at hz
  rw [k2, zBl_f hz]
theorem sp_97_c0_fff (a0 : Nat) (σ : zSg) (l0 : Nat) (τ : zSg) (hI : i_97 a0 σ l0 τ) (h5 : (q_i (τ.1 l0 2)).toInt < (q_i (τ.1 l0 1)).toInt) (h6 : (q_i (τ.1 l0 2)).toInt < (400 : Int)) (h7 : 0 ≤ (q_i (τ.1 l0 2)).toInt ∧ (q_i (τ.1 l0 2)).toInt < (τ.2.1 (q_r (τ.1 l0 0)) : Int)) (h8 : (q_i (τ.1 (q_r (τ.1 l0 0)) (q_i (τ.1 l0 2)).toNatClampNeg)).toInt = (32 : Int)) :
    i_97 a0 σ l0 (q_w τ l0 2 (.int ((q_i (τ.1 l0 2)) + (Int32.ofInt (1))))) := by
  obtain ⟨rfl, G⟩ := hI
  refine ⟨rfl, fun A E S => ?_⟩
  obtain ⟨K, k1, k2, rfl⟩ := G A E S
  have hE := S.2.2.2.2.1
  have S1 := S.at k1
  have hz : (K < E ∧ 32 ≤ cb (q_w σ l0 2 (.int (Int32.ofNat K))) l0 K ∧ cb (q_w σ l0 2 (.int (Int32.ofNat K))) l0 K ≤ 32) := by
    rw [cb_rg S1 (by omega) (by omega)]
    unfold cu
    simp only [S1.2.1, S1.2.2.1, q_ii, o32n (show K ≤ 1000 by omega), o32 (show K ≤ 1000 by omega), o32 (show E ≤ 1000 by omega)] at *
    omega
  rw [cb_w S.1 (by omega)] at hz
  refine ⟨K + 1, by omega, k2.trans (zBl_t hz), ?_⟩
  rw [q_w_at]
  show q_w (q_w σ l0 2 _) l0 2 (.int (Int32.ofNat K + Int32.ofInt 1)) = _
  rw [o32i (by omega), q_w_w]
noncomputable def qP_97 : zPp := fun as σ o σ' => match as with
  | [a0] => o = .inl none ∧ p_97 (q_r a0) σ σ'
  | _ => True
set_option maxRecDepth 100000 in
theorem sp_97 {sx : zX}  : zEe sx 97 1 qP_97 := by
  refine zfle zJ_97 (sps := []) (fun q hq => absurd hq List.not_mem_nil) (fun as σ hl => ?_)
  match as, hl with
  | [a0], _ =>
  refine ⟨[(0, fun lo st τ => st = [] ∧ i_97 (q_r a0) σ (q_r (lo 0)) τ)], 400, ?_, ?_⟩
  · intro q hq
    simp only [List.mem_cons, List.not_mem_nil, or_false] at hq
    rcases hq with rfl
    · rintro lo st τ ⟨rfl, hI⟩
      refine ⟨400, ?_⟩
      refine And.intro (fun h5 => ?_) (fun h5 => ?_)
      · exact ⟨rfl, sp_97_c0_t (q_r a0) σ (q_r (lo 0)) τ hI (cm3t h5)⟩
      · refine And.intro (fun h6 => ?_) (fun h6 => ?_)
        · exact ⟨rfl, sp_97_c0_ft (q_r a0) σ (q_r (lo 0)) τ hI (cm3f h5) (cm3t h6)⟩
        · refine fun h7 => ?_
          refine And.intro (fun h8 => ?_) (fun h8 => ?_)
          · exact ⟨rfl, sp_97_c0_fft (q_r a0) σ (q_r (lo 0)) τ hI (cm3f h5) (cm3f h6) (q_inp h7) (cm1t h8)⟩
          · exact ⟨rfl, sp_97_c0_fff (q_r a0) σ (q_r (lo 0)) τ hI (cm3f h5) (cm3f h6) (q_inp h7) (cm1f h8)⟩
  · refine And.intro (fun h1 => ?_) (fun h1 => ?_)
    · exact ⟨rfl, sp_97_et (q_r a0) σ (cm3t h1)⟩
    · refine And.intro (fun h2 => ?_) (fun h2 => ?_)
      · exact ⟨rfl, sp_97_eft (q_r a0) σ (cm3f h1) (cm3t h2)⟩
      · refine fun h3 => ?_
        refine And.intro (fun h4 => ?_) (fun h4 => ?_)
        · exact ⟨rfl, sp_97_efft (q_r a0) σ (cm3f h1) (cm3f h2) (q_inp h3) (cm1t h4)⟩
        · exact ⟨rfl, sp_97_efff (q_r a0) σ (cm3f h1) (cm3f h2) (q_inp h3) (cm1f h4)⟩
noncomputable def p_87 (t : Nat) (σ σ' : zSg) : Prop := ∀ E, cS0 σ t E → σ' = q_w (q_w σ t 3 (.int (Int32.ofInt (-1)))) t 2 (.int (Int32.ofNat (zBl (cb σ t) E 0)))
noncomputable def p_88 (t : Nat) (σ : zSg) (r : Int32) (σ' : zSg) : Prop := σ' = σ ∧ r = q_i (σ.1 t 3)
noncomputable def p_89 (t : Nat) (σ : zSg) (r : Int32) (σ' : zSg) : Prop := σ' = σ ∧ ∀ A E, cS σ t A E → (r.toInt ≠ 0 ↔ (q_i (σ.1 t 3)).toInt = -1 ∧ A < E)
noncomputable def p_90 (t : Nat) (σ σ' : zSg) : Prop := ((q_i (σ.1 t 3)).toInt ≠ -1 → σ' = σ) ∧ ((q_i (σ.1 t 3)).toInt = -1 → σ' = q_w σ t 3 (.int (q_i (σ.1 t 2))))
noncomputable def p_98 (x : Int32) (σ : zSg) (r : Int32) (σ' : zSg) : Prop := σ' = σ ∧ (r.toInt ≠ 0 ↔ 97 ≤ x.toInt ∧ x.toInt ≤ 122)
noncomputable def p_99 (x : Int32) (σ : zSg) (r : Int32) (σ' : zSg) : Prop := σ' = σ ∧ (r.toInt ≠ 0 ↔ 48 ≤ x.toInt ∧ x.toInt ≤ 57)
theorem zJ_87 : zJ3 87 z_m87 z_c87 z_h87 := ⟨rfl, rfl, rfl⟩
theorem zJ_88 : zJ3 88 z_m88 z_c88 z_h88 := ⟨rfl, rfl, rfl⟩
theorem zJ_89 : zJ3 89 z_m89 z_c89 z_h89 := ⟨rfl, rfl, rfl⟩
theorem zJ_90 : zJ3 90 z_m90 z_c90 z_h90 := ⟨rfl, rfl, rfl⟩
theorem zJ_98 : zJ3 98 z_m98 z_c98 z_h98 := ⟨rfl, rfl, rfl⟩
theorem zJ_99 : zJ3 99 z_m99 z_c99 z_h99 := ⟨rfl, rfl, rfl⟩
theorem sp_87_e (a0 : Nat) (σ : zSg) (τ1 : zSg) (g1 : p_97 a0 (q_w (q_w σ a0 2 (.int (Int32.ofInt (0)))) a0 3 (.int (Int32.ofInt (-1)))) τ1) :
    p_87 (a0) σ τ1 := by
  intro E S
  have e : q_w (q_w σ a0 2 (.int (Int32.ofInt (0)))) a0 3 (.int (Int32.ofInt (-1))) = q_w (q_w σ a0 3 (.int (Int32.ofInt (-1)))) a0 2 (.int (Int32.ofNat 0)) := q_w_cm (fun _ q => by omega)
  rw [e] at g1
  obtain ⟨S0, b0⟩ := S.mk (w := .int (Int32.ofInt (-1))) (Nat.zero_le E)
  have h9 := g1 0 E S0
  rw [b0] at h9
  rw [h9, q_w_w]
noncomputable def qP_87 : zPp := fun as σ o σ' => match as with
  | [a0] => o = .inl none ∧ p_87 (q_r a0) σ σ'
  | _ => True
set_option maxRecDepth 100000 in
theorem sp_87 {sx : zX} (S97 : zEe sx 97 1 qP_97) : zEe sx 87 1 qP_87 := by
  refine zfle zJ_87 (sps := [(97, 1, qP_97)]) (fun q hq => by
    simp only [List.mem_cons, List.not_mem_nil, or_false] at hq
    rcases hq with rfl
    · exact S97) (fun as σ hl => ?_)
  match as, hl with
  | [a0], _ =>
  refine ⟨[], 400, ?_, ?_⟩
  · exact fun q hq => absurd hq List.not_mem_nil
  · refine fun o1 τ1 g1 => ?_
    obtain ⟨rfl, g1⟩ := g1
    exact ⟨rfl, sp_87_e (q_r a0) σ τ1 g1⟩
theorem sp_88_e (a0 : Nat) (σ : zSg)  :
    p_88 (a0) σ (q_i (σ.1 a0 3)) σ := by
  exact ⟨rfl, rfl⟩
noncomputable def qP_88 : zPp := fun as σ o σ' => match as with
  | [a0] => ∃ r, o = .inl (some (.int r)) ∧ p_88 (q_r a0) σ r σ'
  | _ => True
set_option maxRecDepth 100000 in
theorem sp_88 {sx : zX}  : zEe sx 88 1 qP_88 := by
  refine zfle zJ_88 (sps := []) (fun q hq => absurd hq List.not_mem_nil) (fun as σ hl => ?_)
  match as, hl with
  | [a0], _ =>
  refine ⟨[], 400, ?_, ?_⟩
  · exact fun q hq => absurd hq List.not_mem_nil
  · exact ⟨_, rfl, sp_88_e (q_r a0) σ ⟩
theorem sp_89_et (a0 : Nat) (σ : zSg) (h1 : (q_i (σ.1 a0 3)).toInt ≠ (-1 : Int)) :
    p_89 (a0) σ (Int32.ofInt (0)) σ := by
  refine ⟨rfl, fun A E S => ?_⟩
  have hE := S.2.2.2.2.1
  have hA := S.2.2.2.1
  have c0 : (Int32.ofInt 0).toInt = 0 := rfl
  have c1 : (Int32.ofInt 1).toInt = 1 := rfl
  try simp only [S.2.1, S.2.2.1, q_ii, o32 (show A ≤ 1000 by omega), o32 (show E ≤ 1000 by omega)] at *
  omega
theorem sp_89_eft (a0 : Nat) (σ : zSg) (h1 : (q_i (σ.1 a0 3)).toInt = (-1 : Int)) (h2 : (q_i (σ.1 a0 2)).toInt ≥ (q_i (σ.1 a0 1)).toInt) :
    p_89 (a0) σ (Int32.ofInt (0)) σ := by
  refine ⟨rfl, fun A E S => ?_⟩
  have hE := S.2.2.2.2.1
  have hA := S.2.2.2.1
  have c0 : (Int32.ofInt 0).toInt = 0 := rfl
  have c1 : (Int32.ofInt 1).toInt = 1 := rfl
  try simp only [S.2.1, S.2.2.1, q_ii, o32 (show A ≤ 1000 by omega), o32 (show E ≤ 1000 by omega)] at *
  omega
theorem sp_89_eff (a0 : Nat) (σ : zSg) (h1 : (q_i (σ.1 a0 3)).toInt = (-1 : Int)) (h2 : (q_i (σ.1 a0 2)).toInt < (q_i (σ.1 a0 1)).toInt) :
    p_89 (a0) σ (Int32.ofInt (1)) σ := by
  refine ⟨rfl, fun A E S => ?_⟩
  have hE := S.2.2.2.2.1
  have hA := S.2.2.2.1
  have c0 : (Int32.ofInt 0).toInt = 0 := rfl
  have c1 : (Int32.ofInt 1).toInt = 1 := rfl
  try simp only [S.2.1, S.2.2.1, q_ii, o32 (show A ≤ 1000 by omega), o32 (show E ≤ 1000 by omega)] at *
  omega
noncomputable def qP_89 : zPp := fun as σ o σ' => match as with
  | [a0] => ∃ r, o = .inl (some (.int r)) ∧ p_89 (q_r a0) σ r σ'
  | _ => True
set_option maxRecDepth 100000 in
theorem sp_89 {sx : zX}  : zEe sx 89 1 qP_89 := by
  refine zfle zJ_89 (sps := []) (fun q hq => absurd hq List.not_mem_nil) (fun as σ hl => ?_)
  match as, hl with
  | [a0], _ =>
  refine ⟨[], 400, ?_, ?_⟩
  · exact fun q hq => absurd hq List.not_mem_nil
  · refine And.intro (fun h1 => ?_) (fun h1 => ?_)
    · exact ⟨_, rfl, sp_89_et (q_r a0) σ (cm1t h1)⟩
    · refine And.intro (fun h2 => ?_) (fun h2 => ?_)
      · exact ⟨_, rfl, sp_89_eft (q_r a0) σ (cm1f h1) (cm3t h2)⟩
      · exact ⟨_, rfl, sp_89_eff (q_r a0) σ (cm1f h1) (cm3f h2)⟩
theorem sp_90_et (a0 : Nat) (σ : zSg) (h1 : (q_i (σ.1 a0 3)).toInt ≠ (-1 : Int)) :
    p_90 (a0) σ σ := by
  exact ⟨fun _ => rfl, fun h => absurd h h1⟩
theorem sp_90_ef (a0 : Nat) (σ : zSg) (h1 : (q_i (σ.1 a0 3)).toInt = (-1 : Int)) :
    p_90 (a0) σ (q_w σ a0 3 (.int (q_i (σ.1 a0 2)))) := by
  exact ⟨fun h => absurd h1 h, fun _ => rfl⟩
noncomputable def qP_90 : zPp := fun as σ o σ' => match as with
  | [a0] => o = .inl none ∧ p_90 (q_r a0) σ σ'
  | _ => True
set_option maxRecDepth 100000 in
theorem sp_90 {sx : zX}  : zEe sx 90 1 qP_90 := by
  refine zfle zJ_90 (sps := []) (fun q hq => absurd hq List.not_mem_nil) (fun as σ hl => ?_)
  match as, hl with
  | [a0], _ =>
  refine ⟨[], 400, ?_, ?_⟩
  · exact fun q hq => absurd hq List.not_mem_nil
  · refine And.intro (fun h1 => ?_) (fun h1 => ?_)
    · exact ⟨rfl, sp_90_et (q_r a0) σ (cm1t h1)⟩
    · exact ⟨rfl, sp_90_ef (q_r a0) σ (cm1f h1)⟩
theorem sp_98_et (a0 : Int32) (σ : zSg) (h1 : a0.toInt < (97 : Int)) :
    p_98 (a0) σ (Int32.ofInt (0)) σ := by
  refine ⟨rfl, ?_⟩
  have c0 : (Int32.ofInt 0).toInt = 0 := rfl
  have c1 : (Int32.ofInt 1).toInt = 1 := rfl
  omega
theorem sp_98_eft (a0 : Int32) (σ : zSg) (h1 : a0.toInt ≥ (97 : Int)) (h2 : a0.toInt > (122 : Int)) :
    p_98 (a0) σ (Int32.ofInt (0)) σ := by
  refine ⟨rfl, ?_⟩
  have c0 : (Int32.ofInt 0).toInt = 0 := rfl
  have c1 : (Int32.ofInt 1).toInt = 1 := rfl
  omega
theorem sp_98_eff (a0 : Int32) (σ : zSg) (h1 : a0.toInt ≥ (97 : Int)) (h2 : a0.toInt ≤ (122 : Int)) :
    p_98 (a0) σ (Int32.ofInt (1)) σ := by
  refine ⟨rfl, ?_⟩
  have c0 : (Int32.ofInt 0).toInt = 0 := rfl
  have c1 : (Int32.ofInt 1).toInt = 1 := rfl
  omega
noncomputable def qP_98 : zPp := fun as σ o σ' => match as with
  | [a0] => ∃ r, o = .inl (some (.int r)) ∧ p_98 (q_i a0) σ r σ'
  | _ => True
set_option maxRecDepth 100000 in
theorem sp_98 {sx : zX}  : zEe sx 98 1 qP_98 := by
  refine zfle zJ_98 (sps := []) (fun q hq => absurd hq List.not_mem_nil) (fun as σ hl => ?_)
  match as, hl with
  | [a0], _ =>
  refine ⟨[], 400, ?_, ?_⟩
  · exact fun q hq => absurd hq List.not_mem_nil
  · refine And.intro (fun h1 => ?_) (fun h1 => ?_)
    · exact ⟨_, rfl, sp_98_et (q_i a0) σ (cm2t h1)⟩
    · refine And.intro (fun h2 => ?_) (fun h2 => ?_)
      · exact ⟨_, rfl, sp_98_eft (q_i a0) σ (cm2f h1) (cm4t h2)⟩
      · exact ⟨_, rfl, sp_98_eff (q_i a0) σ (cm2f h1) (cm4f h2)⟩
theorem sp_99_et (a0 : Int32) (σ : zSg) (h1 : a0.toInt < (48 : Int)) :
    p_99 (a0) σ (Int32.ofInt (0)) σ := by
  refine ⟨rfl, ?_⟩
  have c0 : (Int32.ofInt 0).toInt = 0 := rfl
  have c1 : (Int32.ofInt 1).toInt = 1 := rfl
  omega
theorem sp_99_eft (a0 : Int32) (σ : zSg) (h1 : a0.toInt ≥ (48 : Int)) (h2 : a0.toInt > (57 : Int)) :
    p_99 (a0) σ (Int32.ofInt (0)) σ := by
  refine ⟨rfl, ?_⟩
  have c0 : (Int32.ofInt 0).toInt = 0 := rfl
  have c1 : (Int32.ofInt 1).toInt = 1 := rfl
  omega
theorem sp_99_eff (a0 : Int32) (σ : zSg) (h1 : a0.toInt ≥ (48 : Int)) (h2 : a0.toInt ≤ (57 : Int)) :
    p_99 (a0) σ (Int32.ofInt (1)) σ := by
  refine ⟨rfl, ?_⟩
  have c0 : (Int32.ofInt 0).toInt = 0 := rfl
  have c1 : (Int32.ofInt 1).toInt = 1 := rfl
  omega
noncomputable def qP_99 : zPp := fun as σ o σ' => match as with
  | [a0] => ∃ r, o = .inl (some (.int r)) ∧ p_99 (q_i a0) σ r σ'
  | _ => True
set_option maxRecDepth 100000 in
theorem sp_99 {sx : zX}  : zEe sx 99 1 qP_99 := by
  refine zfle zJ_99 (sps := []) (fun q hq => absurd hq List.not_mem_nil) (fun as σ hl => ?_)
  match as, hl with
  | [a0], _ =>
  refine ⟨[], 400, ?_, ?_⟩
  · exact fun q hq => absurd hq List.not_mem_nil
  · refine And.intro (fun h1 => ?_) (fun h1 => ?_)
    · exact ⟨_, rfl, sp_99_et (q_i a0) σ (cm2t h1)⟩
    · refine And.intro (fun h2 => ?_) (fun h2 => ?_)
      · exact ⟨_, rfl, sp_99_eft (q_i a0) σ (cm2f h1) (cm4t h2)⟩
      · exact ⟨_, rfl, sp_99_eff (q_i a0) σ (cm2f h1) (cm4f h2)⟩
noncomputable def zwk (w : Nat) : Prop := (q_s w).length ≤ 100 ∧ ∀ k, k < (q_s w).length → 97 ≤ (q_si w).getD k 0 ∧ (q_si w).getD k 0 ≤ 122
theorem zWa_iff {b : Nat → Int} {E w A : Nat} (hw : zwk w) (hA : A ≤ E) : zWa b E (q_si w) A ↔ A + (q_s w).length ≤ E ∧ ¬ (A + (q_s w).length < E ∧ 97 ≤ b (A + (q_s w).length) ∧ b (A + (q_s w).length) ≤ 122) ∧ ∀ k, k < (q_s w).length → b (A + k) = (q_si w).getD k 0 := by
  unfold zWa zWd
  rw [q_si_len]
  constructor
  · rintro ⟨h1, h2⟩
    have g1 := zRn_le (b := b) (lo := 97) (hi := 122) hA
    have g2 := zRn_end (b := b) (E := E) (lo := 97) (hi := 122) (P := A)
    have e : zRn b E 97 122 A = A + (q_s w).length := h1
    rw [e] at g1 g2
    exact ⟨g1, g2, h2⟩
  · rintro ⟨h1, h2, h3⟩
    refine ⟨zRn_uniq (by omega) (fun k k1 k2 => ?_) h2, h3⟩
    have := h3 (k - A) (by omega)
    have h4 := hw.2 (k - A) (by omega)
    rw [show A + (k - A) = k by omega] at this
    omega
noncomputable def p_91 (t w : Nat) (σ : zSg) (r : Int32) (σ' : zSg) : Prop := ∀ A E, cS σ t A E → zwk w → (r.toInt ≠ 0 ∧ (q_i (σ.1 t 3)).toInt = -1 ∧ zWa (cb σ t) E (q_si w) A ∧ σ' = q_w σ t 2 (.int (Int32.ofNat (zBl (cb σ t) E (A + (q_s w).length))))) ∨ (r.toInt = 0 ∧ ((q_i (σ.1 t 3)).toInt = -1 → ¬ zWa (cb σ t) E (q_si w) A) ∧ σ' = σ)
noncomputable def i_91 (t w : Nat) (σ : zSg) (l0 l1 : Nat) (bh k : Int32) (τ : zSg) : Prop := l0 = t ∧ l1 = w ∧ τ = σ ∧ (q_i (σ.1 t 3)).toInt = -1 ∧ ∀ A E, cS σ t A E → zwk w → bh = Int32.ofNat (A + (q_s w).length) ∧ A + (q_s w).length ≤ E ∧ ¬ (A + (q_s w).length < E ∧ 97 ≤ cb σ t (A + (q_s w).length) ∧ cb σ t (A + (q_s w).length) ≤ 122) ∧ ∃ K : Nat, k = Int32.ofNat K ∧ K ≤ (q_s w).length ∧ ∀ j, j < K → cb σ t (A + j) = (q_si w).getD j 0
theorem o32a {m n : Nat} (h : m + n ≤ 1000) : Int32.ofNat m + Int32.ofNat n = Int32.ofNat (m + n) := by
  refine Int32.toInt_inj.mp ?_
  rw [zI_add (o32 (by omega)) (o32 (by omega)) (by omega) (by omega), o32 (by omega)]
  omega
theorem zJ_91 : zJ3 91 z_m91 z_c91 z_h91 := ⟨rfl, rfl, rfl⟩
theorem sp_91_et (a0 : Nat) (a1 : Nat) (σ : zSg) (h1 : (q_i (σ.1 a0 3)).toInt ≠ (-1 : Int)) :
    p_91 (a0) (a1) σ (Int32.ofInt (0)) σ := by
  intro A E S hw
  have hE := S.2.2.2.2.1
  have hA := S.2.2.2.1
  have hl := hw.1
  exact Or.inr ⟨rfl, fun h => absurd h h1, rfl⟩
theorem sp_91_eft (a0 : Nat) (a1 : Nat) (σ : zSg) (h1 : (q_i (σ.1 a0 3)).toInt = (-1 : Int)) (h2 : ((q_i (σ.1 a0 2)) + (Int32.ofNat (q_s a1).length)).toInt > (q_i (σ.1 a0 1)).toInt) :
    p_91 (a0) (a1) σ (Int32.ofInt (0)) σ := by
  intro A E S hw
  have hE := S.2.2.2.2.1
  have hA := S.2.2.2.1
  have hl := hw.1
  have h9 : (Int32.ofNat A + Int32.ofNat (q_s a1).length).toInt > (Int32.ofNat E).toInt := by
    have := h2
    rw [S.2.1, S.2.2.1] at this
    exact this
  rw [o32a (by omega), o32 (by omega), o32 (by omega)] at h9
  exact Or.inr ⟨rfl, fun _ q => by have := ((zWa_iff hw hA).mp q).1; omega, rfl⟩
theorem sp_91_efft (a0 : Nat) (a1 : Nat) (σ : zSg) (τ3 : zSg) (r3 : Int32) (τ4 : zSg) (r4 : Int32) (h1 : (q_i (σ.1 a0 3)).toInt = (-1 : Int)) (h2 : ((q_i (σ.1 a0 2)) + (Int32.ofNat (q_s a1).length)).toInt ≤ (q_i (σ.1 a0 1)).toInt) (g3 : p_86 a0 ((q_i (σ.1 a0 2)) + (Int32.ofNat (q_s a1).length)) σ r3 τ3) (g4 : p_98 r3 τ3 r4 τ4) (h5 : r4.toInt = (0 : Int)) :
    i_91 a0 a1 σ a0 a1 ((q_i (σ.1 a0 2)) + (Int32.ofNat (q_s a1).length)) (Int32.ofInt (0)) τ4 := by
  obtain ⟨rfl, g1⟩ := g3
  obtain ⟨rfl, g2⟩ := g4
  refine ⟨rfl, rfl, rfl, h1, fun A E S hw => ?_⟩
  have hE := S.2.2.2.2.1
  have hA := S.2.2.2.1
  have hl := hw.1
  have h9 : (Int32.ofNat A + Int32.ofNat (q_s a1).length).toInt ≤ (Int32.ofNat E).toInt := by
    have := h2
    rw [S.2.1, S.2.2.1] at this
    exact this
  have e : q_i (τ4.1 a0 2) + Int32.ofNat (q_s a1).length = Int32.ofNat (A + (q_s a1).length) := by
    rw [S.2.2.1]
    exact o32a (by omega)
  have g3 := g1 A E S (A + (q_s a1).length) (by omega) e
  rw [o32a (by omega), o32 (by omega), o32 (by omega)] at h9
  refine ⟨e, by omega, fun q => ?_, 0, rfl, Nat.zero_le _, fun j hj => absurd hj (by omega)⟩
  rw [if_pos q.1] at g3
  have := (cb_rg S (by omega) (by omega)).mp q.2
  exact (g2.mpr (by omega)) h5
theorem sp_91_efff (a0 : Nat) (a1 : Nat) (σ : zSg) (τ3 : zSg) (r3 : Int32) (τ4 : zSg) (r4 : Int32) (h1 : (q_i (σ.1 a0 3)).toInt = (-1 : Int)) (h2 : ((q_i (σ.1 a0 2)) + (Int32.ofNat (q_s a1).length)).toInt ≤ (q_i (σ.1 a0 1)).toInt) (g3 : p_86 a0 ((q_i (σ.1 a0 2)) + (Int32.ofNat (q_s a1).length)) σ r3 τ3) (g4 : p_98 r3 τ3 r4 τ4) (h5 : r4.toInt ≠ (0 : Int)) :
    p_91 (a0) (a1) σ (Int32.ofInt (0)) τ4 := by
  intro A E S hw
  have hE := S.2.2.2.2.1
  have hA := S.2.2.2.1
  have hl := hw.1
  obtain ⟨rfl, g1⟩ := g3
  obtain ⟨rfl, g2⟩ := g4
  have e : q_i (τ4.1 a0 2) + Int32.ofNat (q_s a1).length = Int32.ofNat (A + (q_s a1).length) := by
    rw [S.2.2.1]
    exact o32a (by omega)
  have g3 := g1 A E S (A + (q_s a1).length) (by omega) e
  have g4 := g2.mp h5
  refine Or.inr ⟨rfl, fun _ q => ?_, rfl⟩
  have q2 := ((zWa_iff hw hA).mp q).2.1
  split at g3
  · next hlt => exact q2 ⟨hlt, (cb_rg S (by omega) (by omega)).mpr (by omega)⟩
  · omega
theorem sp_91_c23_t (a0 : Nat) (a1 : Nat) (σ : zSg) (l0 : Nat) (l1 : Nat) (l2 : Int32) (l3 : Int32) (τ : zSg) (τ7 : zSg) (hI : i_91 a0 a1 σ l0 l1 l2 l3 τ) (h6 : l3.toInt ≥ (Int32.ofNat (q_s l1).length).toInt) (g7 : p_97 l0 (q_w τ l0 2 (.int l2)) τ7) :
    p_91 (a0) (a1) σ (Int32.ofInt (1)) τ7 := by
  obtain ⟨rfl, rfl, rfl, hn, G⟩ := hI
  intro A E S hw
  have hE := S.2.2.2.2.1
  have hA := S.2.2.2.1
  have hl := hw.1
  obtain ⟨rfl, k1, k2, K, rfl, k3, k4⟩ := G A E S hw
  rw [o32 (by omega), o32 (by omega)] at h6
  have hz : zWa (cb τ l0) E (q_si l1) A := (zWa_iff hw hA).mpr ⟨k1, k2, fun j hj => k4 j (by omega)⟩
  refine Or.inl ⟨by decide, hn, hz, ?_⟩
  rw [g7 _ E (S.at k1), cb_w S.1 (by omega), q_w_w]
theorem sp_91_c23_ft (a0 : Nat) (a1 : Nat) (σ : zSg) (l0 : Nat) (l1 : Nat) (l2 : Int32) (l3 : Int32) (τ : zSg) (τ8 : zSg) (r8 : Int32) (hI : i_91 a0 a1 σ l0 l1 l2 l3 τ) (h6 : l3.toInt < (Int32.ofNat (q_s l1).length).toInt) (g8 : p_86 l0 ((q_i (τ.1 l0 2)) + l3) τ r8 τ8) (h9 : 0 ≤ l3.toInt ∧ l3.toInt < ((q_s l1).length : Int)) (h10 : r8.toInt = (((q_s l1).getD l3.toNatClampNeg 0) &&& 255).toInt) :
    i_91 a0 a1 σ l0 l1 l2 (l3 + Int32.ofInt (1)) τ8 := by
  obtain ⟨rfl, rfl, rfl, hn, G⟩ := hI
  obtain ⟨rfl, g1⟩ := g8
  refine ⟨rfl, rfl, rfl, hn, fun A E S hw => ?_⟩
  have hE := S.2.2.2.2.1
  have hA := S.2.2.2.1
  have hl := hw.1
  obtain ⟨rfl, k1, k2, K, rfl, k3, k4⟩ := G A E S hw
  rw [o32 (by omega), o32 (by omega)] at h6
  have g3 := g1 A E S (A + K) (by omega) (by rw [S.2.2.1]; exact o32a (by omega))
  rw [if_pos (by omega)] at g3
  rw [o32n (by omega), ← q_si_at (by omega), g3] at h10
  refine ⟨rfl, k1, k2, K + 1, by rw [← o32i (by omega)], by omega, fun j hj => ?_⟩
  by_cases hj2 : j = K
  · subst hj2
    have := hw.2 j (by omega)
    exact (cb_eq S (by omega) (by omega)).mpr h10
  · exact k4 j (by omega)
theorem sp_91_c23_ff (a0 : Nat) (a1 : Nat) (σ : zSg) (l0 : Nat) (l1 : Nat) (l2 : Int32) (l3 : Int32) (τ : zSg) (τ8 : zSg) (r8 : Int32) (hI : i_91 a0 a1 σ l0 l1 l2 l3 τ) (h6 : l3.toInt < (Int32.ofNat (q_s l1).length).toInt) (g8 : p_86 l0 ((q_i (τ.1 l0 2)) + l3) τ r8 τ8) (h9 : 0 ≤ l3.toInt ∧ l3.toInt < ((q_s l1).length : Int)) (h10 : r8.toInt ≠ (((q_s l1).getD l3.toNatClampNeg 0) &&& 255).toInt) :
    p_91 (a0) (a1) σ (Int32.ofInt (0)) τ8 := by
  obtain ⟨rfl, rfl, rfl, hn, G⟩ := hI
  obtain ⟨rfl, g1⟩ := g8
  intro A E S hw
  have hE := S.2.2.2.2.1
  have hA := S.2.2.2.1
  have hl := hw.1
  obtain ⟨rfl, k1, k2, K, rfl, k3, k4⟩ := G A E S hw
  rw [o32 (by omega), o32 (by omega)] at h6
  have g3 := g1 A E S (A + K) (by omega) (by rw [S.2.2.1]; exact o32a (by omega))
  rw [if_pos (by omega)] at g3
  rw [o32n (by omega), ← q_si_at (by omega), g3] at h10
  refine Or.inr ⟨rfl, fun _ q => ?_, rfl⟩
  have := hw.2 K (by omega)
  exact h10 ((cb_eq S (by omega) (by omega)).mp (((zWa_iff hw hA).mp q).2.2 K (by omega)))
noncomputable def qP_91 : zPp := fun as σ o σ' => match as with
  | [a0, a1] => ∃ r, o = .inl (some (.int r)) ∧ p_91 (q_r a0) (q_r a1) σ r σ'
  | _ => True
set_option maxRecDepth 100000 in
theorem sp_91 {sx : zX} (S86 : zEe sx 86 2 qP_86) (S98 : zEe sx 98 1 qP_98) (S97 : zEe sx 97 1 qP_97) : zEe sx 91 2 qP_91 := by
  refine zfle zJ_91 (sps := [(86, 2, qP_86), (98, 1, qP_98), (97, 1, qP_97)]) (fun q hq => by
    simp only [List.mem_cons, List.not_mem_nil, or_false] at hq
    rcases hq with rfl | rfl | rfl
    · exact S86
    · exact S98
    · exact S97) (fun as σ hl => ?_)
  match as, hl with
  | [a0, a1], _ =>
  refine ⟨[(23, fun lo st τ => st = [] ∧ i_91 (q_r a0) (q_r a1) σ (q_r (lo 0)) (q_r (lo 1)) (q_i (lo 2)) (q_i (lo 3)) τ)], 400, ?_, ?_⟩
  · intro q hq
    simp only [List.mem_cons, List.not_mem_nil, or_false] at hq
    rcases hq with rfl
    · rintro lo st τ ⟨rfl, hI⟩
      refine ⟨400, ?_⟩
      refine And.intro (fun h6 => ?_) (fun h6 => ?_)
      · refine fun o7 τ7 g7 => ?_
        obtain ⟨rfl, g7⟩ := g7
        exact ⟨_, rfl, sp_91_c23_t (q_r a0) (q_r a1) σ (q_r (lo 0)) (q_r (lo 1)) (q_i (lo 2)) (q_i (lo 3)) τ τ7 hI (cm3t h6) g7⟩
      · refine fun o8 τ8 g8 => ?_
        obtain ⟨r8, rfl, g8⟩ := g8
        refine fun h9 => ?_
        refine And.intro (fun h10 => ?_) (fun h10 => ?_)
        · exact ⟨rfl, sp_91_c23_ft (q_r a0) (q_r a1) σ (q_r (lo 0)) (q_r (lo 1)) (q_i (lo 2)) (q_i (lo 3)) τ τ8 r8 hI (cm3f h6) g8 (q_inp h9) (cm0t h10)⟩
        · exact ⟨_, rfl, sp_91_c23_ff (q_r a0) (q_r a1) σ (q_r (lo 0)) (q_r (lo 1)) (q_i (lo 2)) (q_i (lo 3)) τ τ8 r8 hI (cm3f h6) g8 (q_inp h9) (cm0f h10)⟩
  · refine And.intro (fun h1 => ?_) (fun h1 => ?_)
    · exact ⟨_, rfl, sp_91_et (q_r a0) (q_r a1) σ (cm1t h1)⟩
    · refine And.intro (fun h2 => ?_) (fun h2 => ?_)
      · exact ⟨_, rfl, sp_91_eft (q_r a0) (q_r a1) σ (cm1f h1) (cm4t h2)⟩
      · refine fun o3 τ3 g3 => ?_
        obtain ⟨r3, rfl, g3⟩ := g3
        refine fun o4 τ4 g4 => ?_
        obtain ⟨r4, rfl, g4⟩ := g4
        refine And.intro (fun h5 => ?_) (fun h5 => ?_)
        · exact ⟨rfl, sp_91_efft (q_r a0) (q_r a1) σ τ3 r3 τ4 r4 (cm1f h1) (cm4f h2) g3 g4 (cm0t h5)⟩
        · exact ⟨_, rfl, sp_91_efff (q_r a0) (q_r a1) σ τ3 r3 τ4 r4 (cm1f h1) (cm4f h2) g3 g4 (cm0f h5)⟩
/-- what a need leaves: the place behind, or the wrong place -/
noncomputable def cN (σ : zSg) (t A : Nat) (o : Option Nat) : zSg := match o with
  | some A1 => q_w σ t 2 (.int (Int32.ofNat A1))
  | none => q_w σ t 3 (.int (Int32.ofNat A))
noncomputable def p_92 (t w : Nat) (σ σ' : zSg) : Prop := ∀ A E, cS σ t A E → zwk w → ((q_i (σ.1 t 3)).toInt = -1 → (zWa (cb σ t) E (q_si w) A → σ' = q_w σ t 2 (.int (Int32.ofNat (zBl (cb σ t) E (A + (q_s w).length))))) ∧ (¬ zWa (cb σ t) E (q_si w) A → σ' = q_w σ t 3 (.int (Int32.ofNat A)))) ∧ ((q_i (σ.1 t 3)).toInt ≠ -1 → σ' = σ)
noncomputable def p_93 (t : Nat) (c : Int32) (σ : zSg) (r : Int32) (σ' : zSg) : Prop := ∀ A E, cS σ t A E → 0 ≤ c.toInt → c.toInt ≤ 127 → (r.toInt ≠ 0 ∧ (q_i (σ.1 t 3)).toInt = -1 ∧ (A < E ∧ cb σ t A = c.toInt) ∧ σ' = q_w σ t 2 (.int (Int32.ofNat (zBl (cb σ t) E (A + 1))))) ∨ (r.toInt = 0 ∧ ((q_i (σ.1 t 3)).toInt = -1 → ¬ (A < E ∧ cb σ t A = c.toInt)) ∧ σ' = σ)
noncomputable def p_94 (t : Nat) (c : Int32) (σ σ' : zSg) : Prop := ∀ A E, cS σ t A E → 0 ≤ c.toInt → c.toInt ≤ 127 → ((q_i (σ.1 t 3)).toInt = -1 → ((A < E ∧ cb σ t A = c.toInt) → σ' = q_w σ t 2 (.int (Int32.ofNat (zBl (cb σ t) E (A + 1))))) ∧ (¬ (A < E ∧ cb σ t A = c.toInt) → σ' = q_w σ t 3 (.int (Int32.ofNat A)))) ∧ ((q_i (σ.1 t 3)).toInt ≠ -1 → σ' = σ)
noncomputable def p_95 (t : Nat) (σ : zSg) (r : Int32) (σ' : zSg) : Prop := σ' = σ ∧ ∀ A E, cS σ t A E → (r.toInt ≠ 0 ↔ (q_i (σ.1 t 3)).toInt = -1 ∧ A < E ∧ 48 ≤ cb σ t A ∧ cb σ t A ≤ 57)
theorem zJ_92 : zJ3 92 z_m92 z_c92 z_h92 := ⟨rfl, rfl, rfl⟩
theorem zJ_93 : zJ3 93 z_m93 z_c93 z_h93 := ⟨rfl, rfl, rfl⟩
theorem zJ_94 : zJ3 94 z_m94 z_c94 z_h94 := ⟨rfl, rfl, rfl⟩
theorem zJ_95 : zJ3 95 z_m95 z_c95 z_h95 := ⟨rfl, rfl, rfl⟩
theorem sp_92_et (a0 : Nat) (a1 : Nat) (σ : zSg) (τ1 : zSg) (r1 : Int32) (g1 : p_91 a0 a1 σ r1 τ1) (h2 : r1.toInt ≠ (0 : Int)) :
    p_92 (a0) (a1) σ τ1 := by
  intro A E S hw
  rcases g1 A E S hw with ⟨g1, g2, g3, g4⟩ | ⟨g1, -⟩
  · exact ⟨fun _ => ⟨fun _ => g4, fun q => absurd g3 q⟩, fun q => absurd g2 q⟩
  · exact absurd g1 h2
theorem sp_92_ef (a0 : Nat) (a1 : Nat) (σ : zSg) (τ1 : zSg) (r1 : Int32) (τ3 : zSg) (g1 : p_91 a0 a1 σ r1 τ1) (h2 : r1.toInt = (0 : Int)) (g3 : p_90 a0 τ1 τ3) :
    p_92 (a0) (a1) σ τ3 := by
  intro A E S hw
  rcases g1 A E S hw with ⟨g1, -⟩ | ⟨g1, g2, rfl⟩
  · exact absurd h2 g1
  · refine ⟨fun hn => ⟨fun q => absurd q (g2 hn), fun _ => ?_⟩, fun hn => g3.1 hn⟩
    rw [g3.2 hn, S.2.2.1]
    rfl
noncomputable def qP_92 : zPp := fun as σ o σ' => match as with
  | [a0, a1] => o = .inl none ∧ p_92 (q_r a0) (q_r a1) σ σ'
  | _ => True
set_option maxRecDepth 100000 in
theorem sp_92 {sx : zX} (S91 : zEe sx 91 2 qP_91) (S90 : zEe sx 90 1 qP_90) : zEe sx 92 2 qP_92 := by
  refine zfle zJ_92 (sps := [(91, 2, qP_91), (90, 1, qP_90)]) (fun q hq => by
    simp only [List.mem_cons, List.not_mem_nil, or_false] at hq
    rcases hq with rfl | rfl
    · exact S91
    · exact S90) (fun as σ hl => ?_)
  match as, hl with
  | [a0, a1], _ =>
  refine ⟨[], 400, ?_, ?_⟩
  · exact fun q hq => absurd hq List.not_mem_nil
  · refine fun o1 τ1 g1 => ?_
    obtain ⟨r1, rfl, g1⟩ := g1
    refine And.intro (fun h2 => ?_) (fun h2 => ?_)
    · exact ⟨rfl, sp_92_et (q_r a0) (q_r a1) σ τ1 r1 g1 (cm1t h2)⟩
    · refine fun o3 τ3 g3 => ?_
      obtain ⟨rfl, g3⟩ := g3
      exact ⟨rfl, sp_92_ef (q_r a0) (q_r a1) σ τ1 r1 τ3 g1 (cm1f h2) g3⟩
theorem sp_93_et (a0 : Nat) (a1 : Int32) (σ : zSg) (h1 : (q_i (σ.1 a0 3)).toInt ≠ (-1 : Int)) :
    p_93 (a0) (a1) σ (Int32.ofInt (0)) σ := by
  intro A E S c0 c1
  exact Or.inr ⟨rfl, fun h => absurd h h1, rfl⟩
theorem sp_93_eft (a0 : Nat) (a1 : Int32) (σ : zSg) (τ2 : zSg) (r2 : Int32) (τ4 : zSg) (h1 : (q_i (σ.1 a0 3)).toInt = (-1 : Int)) (g2 : p_86 a0 (q_i (σ.1 a0 2)) σ r2 τ2) (h3 : r2.toInt = a1.toInt) (g4 : p_97 a0 (q_w τ2 a0 2 (.int ((q_i (τ2.1 a0 2)) + (Int32.ofInt (1))))) τ4) :
    p_93 (a0) (a1) σ (Int32.ofInt (1)) τ4 := by
  intro A E S c0 c1
  have hE := S.2.2.2.2.1
  have hA := S.2.2.2.1
  obtain ⟨rfl, g1⟩ := g2
  have g3 := g1 A E S A (by omega) (by rw [S.2.2.1]; rfl)
  split at g3
  case isFalse => omega
  next hlt =>
  refine Or.inl ⟨by decide, h1, ⟨hlt, (cb_eq S c0 c1).mpr (by omega)⟩, ?_⟩
  have e : q_w τ2 a0 2 (.int (q_i (τ2.1 a0 2) + Int32.ofInt 1)) = q_w τ2 a0 2 (.int (Int32.ofNat (A + 1))) := by
    rw [S.2.2.1, ← o32i (by omega)]
    rfl
  rw [e] at g4
  rw [g4 _ E (S.at (by omega)), cb_w S.1 (by omega), q_w_w]
theorem sp_93_eff (a0 : Nat) (a1 : Int32) (σ : zSg) (τ2 : zSg) (r2 : Int32) (h1 : (q_i (σ.1 a0 3)).toInt = (-1 : Int)) (g2 : p_86 a0 (q_i (σ.1 a0 2)) σ r2 τ2) (h3 : r2.toInt ≠ a1.toInt) :
    p_93 (a0) (a1) σ (Int32.ofInt (0)) τ2 := by
  intro A E S c0 c1
  have hE := S.2.2.2.2.1
  have hA := S.2.2.2.1
  obtain ⟨rfl, g1⟩ := g2
  have g3 := g1 A E S A (by omega) (by rw [S.2.2.1]; rfl)
  refine Or.inr ⟨rfl, fun _ q => ?_, rfl⟩
  rw [if_pos q.1] at g3
  exact h3 (g3.trans ((cb_eq S c0 c1).mp q.2))
noncomputable def qP_93 : zPp := fun as σ o σ' => match as with
  | [a0, a1] => ∃ r, o = .inl (some (.int r)) ∧ p_93 (q_r a0) (q_i a1) σ r σ'
  | _ => True
set_option maxRecDepth 100000 in
theorem sp_93 {sx : zX} (S86 : zEe sx 86 2 qP_86) (S97 : zEe sx 97 1 qP_97) : zEe sx 93 2 qP_93 := by
  refine zfle zJ_93 (sps := [(86, 2, qP_86), (97, 1, qP_97)]) (fun q hq => by
    simp only [List.mem_cons, List.not_mem_nil, or_false] at hq
    rcases hq with rfl | rfl
    · exact S86
    · exact S97) (fun as σ hl => ?_)
  match as, hl with
  | [a0, a1], _ =>
  refine ⟨[], 400, ?_, ?_⟩
  · exact fun q hq => absurd hq List.not_mem_nil
  · refine And.intro (fun h1 => ?_) (fun h1 => ?_)
    · exact ⟨_, rfl, sp_93_et (q_r a0) (q_i a1) σ (cm1t h1)⟩
    · refine fun o2 τ2 g2 => ?_
      obtain ⟨r2, rfl, g2⟩ := g2
      refine And.intro (fun h3 => ?_) (fun h3 => ?_)
      · refine fun o4 τ4 g4 => ?_
        obtain ⟨rfl, g4⟩ := g4
        exact ⟨_, rfl, sp_93_eft (q_r a0) (q_i a1) σ τ2 r2 τ4 (cm1f h1) g2 (cm0t h3) g4⟩
      · exact ⟨_, rfl, sp_93_eff (q_r a0) (q_i a1) σ τ2 r2 (cm1f h1) g2 (cm0f h3)⟩
theorem sp_94_et (a0 : Nat) (a1 : Int32) (σ : zSg) (τ1 : zSg) (r1 : Int32) (g1 : p_93 a0 a1 σ r1 τ1) (h2 : r1.toInt ≠ (0 : Int)) :
    p_94 (a0) (a1) σ τ1 := by
  intro A E S c0 c1
  rcases g1 A E S c0 c1 with ⟨g1, g2, g3, g4⟩ | ⟨g1, -⟩
  · exact ⟨fun _ => ⟨fun _ => g4, fun q => absurd g3 q⟩, fun q => absurd g2 q⟩
  · exact absurd g1 h2
theorem sp_94_ef (a0 : Nat) (a1 : Int32) (σ : zSg) (τ1 : zSg) (r1 : Int32) (τ3 : zSg) (g1 : p_93 a0 a1 σ r1 τ1) (h2 : r1.toInt = (0 : Int)) (g3 : p_90 a0 τ1 τ3) :
    p_94 (a0) (a1) σ τ3 := by
  intro A E S c0 c1
  rcases g1 A E S c0 c1 with ⟨g1, -⟩ | ⟨g1, g2, rfl⟩
  · exact absurd h2 g1
  · refine ⟨fun hn => ⟨fun q => absurd q (g2 hn), fun _ => ?_⟩, fun hn => g3.1 hn⟩
    rw [g3.2 hn, S.2.2.1]
    rfl
noncomputable def qP_94 : zPp := fun as σ o σ' => match as with
  | [a0, a1] => o = .inl none ∧ p_94 (q_r a0) (q_i a1) σ σ'
  | _ => True
set_option maxRecDepth 100000 in
theorem sp_94 {sx : zX} (S93 : zEe sx 93 2 qP_93) (S90 : zEe sx 90 1 qP_90) : zEe sx 94 2 qP_94 := by
  refine zfle zJ_94 (sps := [(93, 2, qP_93), (90, 1, qP_90)]) (fun q hq => by
    simp only [List.mem_cons, List.not_mem_nil, or_false] at hq
    rcases hq with rfl | rfl
    · exact S93
    · exact S90) (fun as σ hl => ?_)
  match as, hl with
  | [a0, a1], _ =>
  refine ⟨[], 400, ?_, ?_⟩
  · exact fun q hq => absurd hq List.not_mem_nil
  · refine fun o1 τ1 g1 => ?_
    obtain ⟨r1, rfl, g1⟩ := g1
    refine And.intro (fun h2 => ?_) (fun h2 => ?_)
    · exact ⟨rfl, sp_94_et (q_r a0) (q_i a1) σ τ1 r1 g1 (cm1t h2)⟩
    · refine fun o3 τ3 g3 => ?_
      obtain ⟨rfl, g3⟩ := g3
      exact ⟨rfl, sp_94_ef (q_r a0) (q_i a1) σ τ1 r1 τ3 g1 (cm1f h2) g3⟩
theorem sp_95_et (a0 : Nat) (σ : zSg) (h1 : (q_i (σ.1 a0 3)).toInt ≠ (-1 : Int)) :
    p_95 (a0) σ (Int32.ofInt (0)) σ := by
  exact ⟨rfl, fun A E S => ⟨fun h => absurd rfl h, fun h => absurd h.1 h1⟩⟩
theorem sp_95_eft (a0 : Nat) (σ : zSg) (τ2 : zSg) (r2 : Int32) (τ3 : zSg) (r3 : Int32) (h1 : (q_i (σ.1 a0 3)).toInt = (-1 : Int)) (g2 : p_86 a0 (q_i (σ.1 a0 2)) σ r2 τ2) (g3 : p_99 r2 τ2 r3 τ3) (h4 : r3.toInt = (0 : Int)) :
    p_95 (a0) σ (Int32.ofInt (0)) τ3 := by
  obtain ⟨rfl, g1⟩ := g2
  obtain ⟨rfl, g2⟩ := g3
  refine ⟨rfl, fun A E S => ?_⟩
  have hE := S.2.2.2.2.1
  have hA := S.2.2.2.1
  have g3 := g1 A E S A (by omega) (by rw [S.2.2.1]; rfl)
  have g4 := cb_rg (k := A) (lo := 48) (hi := 57) S (by omega) (by omega)
  have c0 : (Int32.ofInt 0).toInt = 0 := rfl
  have c1 : (Int32.ofInt 1).toInt = 1 := rfl
  have H9 := h1
  split at g3 <;> omega
theorem sp_95_eff (a0 : Nat) (σ : zSg) (τ2 : zSg) (r2 : Int32) (τ3 : zSg) (r3 : Int32) (h1 : (q_i (σ.1 a0 3)).toInt = (-1 : Int)) (g2 : p_86 a0 (q_i (σ.1 a0 2)) σ r2 τ2) (g3 : p_99 r2 τ2 r3 τ3) (h4 : r3.toInt ≠ (0 : Int)) :
    p_95 (a0) σ (Int32.ofInt (1)) τ3 := by
  obtain ⟨rfl, g1⟩ := g2
  obtain ⟨rfl, g2⟩ := g3
  refine ⟨rfl, fun A E S => ?_⟩
  have hE := S.2.2.2.2.1
  have hA := S.2.2.2.1
  have g3 := g1 A E S A (by omega) (by rw [S.2.2.1]; rfl)
  have g4 := cb_rg (k := A) (lo := 48) (hi := 57) S (by omega) (by omega)
  have c0 : (Int32.ofInt 0).toInt = 0 := rfl
  have c1 : (Int32.ofInt 1).toInt = 1 := rfl
  have H9 := h1
  split at g3 <;> omega
noncomputable def qP_95 : zPp := fun as σ o σ' => match as with
  | [a0] => ∃ r, o = .inl (some (.int r)) ∧ p_95 (q_r a0) σ r σ'
  | _ => True
set_option maxRecDepth 100000 in
theorem sp_95 {sx : zX} (S86 : zEe sx 86 2 qP_86) (S99 : zEe sx 99 1 qP_99) : zEe sx 95 1 qP_95 := by
  refine zfle zJ_95 (sps := [(86, 2, qP_86), (99, 1, qP_99)]) (fun q hq => by
    simp only [List.mem_cons, List.not_mem_nil, or_false] at hq
    rcases hq with rfl | rfl
    · exact S86
    · exact S99) (fun as σ hl => ?_)
  match as, hl with
  | [a0], _ =>
  refine ⟨[], 400, ?_, ?_⟩
  · exact fun q hq => absurd hq List.not_mem_nil
  · refine And.intro (fun h1 => ?_) (fun h1 => ?_)
    · exact ⟨_, rfl, sp_95_et (q_r a0) σ (cm1t h1)⟩
    · refine fun o2 τ2 g2 => ?_
      obtain ⟨r2, rfl, g2⟩ := g2
      refine fun o3 τ3 g3 => ?_
      obtain ⟨r3, rfl, g3⟩ := g3
      refine And.intro (fun h4 => ?_) (fun h4 => ?_)
      · exact ⟨_, rfl, sp_95_eft (q_r a0) σ τ2 r2 τ3 r3 (cm1f h1) g2 g3 (cm0t h4)⟩
      · exact ⟨_, rfl, sp_95_eff (q_r a0) σ τ2 r2 τ3 r3 (cm1f h1) g2 g3 (cm0f h4)⟩
noncomputable def p_96 (t : Nat) (lo hi : Int32) (σ : zSg) (r : Int32) (σ' : zSg) : Prop := ∀ A E, cS σ t A E → 0 ≤ lo.toInt → ((q_i (σ.1 t 3)).toInt = -1 → (0 ≤ zNm (cb σ t) E lo.toInt hi.toInt A ∧ r.toInt = zNm (cb σ t) E lo.toInt hi.toInt A ∧ σ' = q_w σ t 2 (.int (Int32.ofNat (zBl (cb σ t) E (zDe (cb σ t) E A))))) ∨ (zNm (cb σ t) E lo.toInt hi.toInt A = -1 ∧ r = lo ∧ σ' = q_w σ t 3 (.int (Int32.ofNat A)))) ∧ ((q_i (σ.1 t 3)).toInt ≠ -1 → (r = lo ∨ (lo.toInt ≤ r.toInt ∧ r.toInt ≤ hi.toInt)) ∧ ∃ A', A' ≤ E ∧ σ' = q_w σ t 2 (.int (Int32.ofNat A')))
noncomputable def i_96 (t : Nat) (lo hi : Int32) (σ : zSg) (l0 : Nat) (l1 l2 bh v : Int32) (τ : zSg) : Prop := l0 = t ∧ l1 = lo ∧ l2 = hi ∧ τ = σ ∧ ∀ A E, cS σ t A E → ∃ K, bh = Int32.ofNat K ∧ A ≤ K ∧ K ≤ E ∧ zDe (cb σ t) E A = zDe (cb σ t) E K ∧ K ≤ zDe (cb σ t) E A ∧ v.toInt = zDv (cb σ t) A (K - A)
theorem zJ_96 : zJ3 96 z_m96 z_c96 z_h96 := ⟨rfl, rfl, rfl⟩
noncomputable def j_96 (t : Nat) (lo hi : Int32) (σ : zSg) (l0 : Nat) (l1 l2 bh v : Int32) (τ : zSg) : Prop := l0 = t ∧ l1 = lo ∧ l2 = hi ∧ τ = σ ∧ ∀ A E, cS σ t A E → ∃ K, bh = Int32.ofNat K ∧ A ≤ K ∧ K ≤ E ∧ zDe (cb σ t) E A = K ∧ v.toInt = zDv (cb σ t) A (K - A)
theorem sp_96_e (a0 : Nat) (a1 : Int32) (a2 : Int32) (σ : zSg)  :
    i_96 a0 a1 a2 σ a0 a1 a2 (q_i (σ.1 a0 2)) (Int32.ofInt (0)) σ := by
  refine ⟨rfl, rfl, rfl, rfl, fun A E S => ⟨A, ?_, Nat.le_refl _, S.2.2.2.1, rfl, zRn_ge, ?_⟩⟩
  · rw [S.2.2.1]; rfl
  · rw [Nat.sub_self]; rfl
theorem sp_96_c5_t (a0 : Nat) (a1 : Int32) (a2 : Int32) (σ : zSg) (l0 : Nat) (l1 : Int32) (l2 : Int32) (l3 : Int32) (l4 : Int32) (τ : zSg) (hI : i_96 a0 a1 a2 σ l0 l1 l2 l3 l4 τ) (h1 : l3.toInt ≥ (q_i (τ.1 l0 1)).toInt) :
    j_96 a0 a1 a2 σ l0 l1 l2 l3 l4 τ := by
  obtain ⟨rfl, rfl, rfl, rfl, G⟩ := hI
  refine ⟨rfl, rfl, rfl, rfl, fun A E S => ?_⟩
  obtain ⟨K, rfl, k1, k2, k3, k4, k5⟩ := G A E S
  have hE := S.2.2.2.2.1
  refine ⟨K, rfl, k1, k2, ?_, k5⟩
  have h9 : (Int32.ofNat K).toInt ≥ (Int32.ofNat E).toInt := by
    have := h1
    rw [S.2.1] at this
    exact this
  rw [o32 (by omega), o32 (by omega)] at h9
  rw [k3]
  exact zRn_f (by omega)
theorem sp_96_c5_ft (a0 : Nat) (a1 : Int32) (a2 : Int32) (σ : zSg) (l0 : Nat) (l1 : Int32) (l2 : Int32) (l3 : Int32) (l4 : Int32) (τ : zSg) (τ2 : zSg) (r2 : Int32) (τ3 : zSg) (r3 : Int32) (hI : i_96 a0 a1 a2 σ l0 l1 l2 l3 l4 τ) (h1 : l3.toInt < (q_i (τ.1 l0 1)).toInt) (g2 : p_86 l0 l3 τ r2 τ2) (g3 : p_99 r2 τ2 r3 τ3) (h4 : r3.toInt = (0 : Int)) :
    j_96 a0 a1 a2 σ l0 l1 l2 l3 l4 τ3 := by
  obtain ⟨rfl, rfl, rfl, rfl, G⟩ := hI
  obtain ⟨rfl, g1⟩ := g2
  obtain ⟨rfl, g2⟩ := g3
  refine ⟨rfl, rfl, rfl, rfl, fun A E S => ?_⟩
  obtain ⟨K, rfl, k1, k2, k3, k4, k5⟩ := G A E S
  have hE := S.2.2.2.2.1
  refine ⟨K, rfl, k1, k2, ?_, k5⟩
  have g3 := g1 A E S K (by omega) rfl
  rw [k3]
  refine zRn_f (fun q => ?_)
  rw [if_pos q.1] at g3
  have q2 := (cb_rg S (by omega) (by omega)).mp q.2
  exact (g2.mpr (by omega)) h4
theorem sp_96_c5_fft (a0 : Nat) (a1 : Int32) (a2 : Int32) (σ : zSg) (l0 : Nat) (l1 : Int32) (l2 : Int32) (l3 : Int32) (l4 : Int32) (τ : zSg) (τ2 : zSg) (r2 : Int32) (τ3 : zSg) (r3 : Int32) (hI : i_96 a0 a1 a2 σ l0 l1 l2 l3 l4 τ) (h1 : l3.toInt < (q_i (τ.1 l0 1)).toInt) (g2 : p_86 l0 l3 τ r2 τ2) (g3 : p_99 r2 τ2 r3 τ3) (h4 : r3.toInt ≠ (0 : Int)) (h5 : (l3 - (q_i (τ3.1 l0 2))).toInt ≥ (3 : Int)) :
    i_96 a0 a1 a2 σ l0 l1 l2 (l3 + Int32.ofInt (1)) l4 τ3 := by
  obtain ⟨rfl, rfl, rfl, rfl, G⟩ := hI
  obtain ⟨rfl, g1⟩ := g2
  obtain ⟨rfl, g2⟩ := g3
  refine ⟨rfl, rfl, rfl, rfl, fun A E S => ?_⟩
  obtain ⟨K, rfl, k1, k2, k3, k4, k5⟩ := G A E S
  have hE := S.2.2.2.2.1
  have g3 := g1 A E S K (by omega) rfl
  have g4 := g2.mp h4
  have hlt : K < E := by
    split at g3
    · assumption
    · omega
  rw [if_pos hlt] at g3
  have hd : K < E ∧ 48 ≤ cb τ3 l0 K ∧ cb τ3 l0 K ≤ 57 := ⟨hlt, (cb_rg S (by omega) (by omega)).mpr (by omega)⟩
  have hD : zDe (cb τ3 l0) E K = zDe (cb τ3 l0) E (K + 1) := zRn_t hd
  have hK : K + 1 ≤ zDe (cb τ3 l0) E A := by rw [k3, hD]; exact zRn_ge
  have e1 : (Int32.ofNat K - q_i (τ3.1 l0 2)).toInt = (K : Int) - A := by
    rw [S.2.2.1]
    exact zI_sub (o32 (by omega)) (o32 (by omega)) (by omega) (by omega)
  rw [e1] at h5
  refine ⟨K + 1, by rw [← o32i (by omega)], by omega, by omega, k3.trans hD, hK, ?_⟩
  rw [show K + 1 - A = (K - A) + 1 by omega]
  unfold zDv
  rw [if_neg (by omega)]
  exact k5
theorem sp_96_c5_fff (a0 : Nat) (a1 : Int32) (a2 : Int32) (σ : zSg) (l0 : Nat) (l1 : Int32) (l2 : Int32) (l3 : Int32) (l4 : Int32) (τ : zSg) (τ2 : zSg) (r2 : Int32) (τ3 : zSg) (r3 : Int32) (τ6 : zSg) (r6 : Int32) (hI : i_96 a0 a1 a2 σ l0 l1 l2 l3 l4 τ) (h1 : l3.toInt < (q_i (τ.1 l0 1)).toInt) (g2 : p_86 l0 l3 τ r2 τ2) (g3 : p_99 r2 τ2 r3 τ3) (h4 : r3.toInt ≠ (0 : Int)) (h5 : (l3 - (q_i (τ3.1 l0 2))).toInt < (3 : Int)) (g6 : p_86 l0 l3 τ3 r6 τ6) :
    i_96 a0 a1 a2 σ l0 l1 l2 (l3 + Int32.ofInt (1)) (((l4 * (Int32.ofInt (10))) + r6) - (Int32.ofInt (48))) τ6 := by
  obtain ⟨rfl, rfl, rfl, rfl, G⟩ := hI
  obtain ⟨rfl, g9⟩ := g6
  obtain ⟨rfl, g1⟩ := g2
  obtain ⟨rfl, g2⟩ := g3
  refine ⟨rfl, rfl, rfl, rfl, fun A E S => ?_⟩
  obtain ⟨K, rfl, k1, k2, k3, k4, k5⟩ := G A E S
  have hE := S.2.2.2.2.1
  have g3 := g1 A E S K (by omega) rfl
  have g4 := g2.mp h4
  have hlt : K < E := by
    split at g3
    · assumption
    · omega
  rw [if_pos hlt] at g3
  have hd : K < E ∧ 48 ≤ cb τ6 l0 K ∧ cb τ6 l0 K ≤ 57 := ⟨hlt, (cb_rg S (by omega) (by omega)).mpr (by omega)⟩
  have hD : zDe (cb τ6 l0) E K = zDe (cb τ6 l0) E (K + 1) := zRn_t hd
  have hK : K + 1 ≤ zDe (cb τ6 l0) E A := by rw [k3, hD]; exact zRn_ge
  have e1 : (Int32.ofNat K - q_i (τ6.1 l0 2)).toInt = (K : Int) - A := by
    rw [S.2.2.1]
    exact zI_sub (o32 (by omega)) (o32 (by omega)) (by omega) (by omega)
  rw [e1] at h5
  refine ⟨K + 1, by rw [← o32i (by omega)], by omega, by omega, k3.trans hD, hK, ?_⟩
  rw [show K + 1 - A = (K - A) + 1 by omega]
  unfold zDv
  rw [if_pos (by omega), show A + (K - A) = K by omega]
  have hv := zDv_in (b := cb τ6 l0) (E := E) (A := A) (K - A) (by omega)
  have g5 := g9 A E S K (by omega) rfl
  rw [if_pos hlt] at g5
  have m1 : (l4 * Int32.ofInt 10).toInt = l4.toInt * 10 := by
    rw [Int32.toInt_mul, zI_c (by omega) (by omega)]
    exact z_bm (by omega) (by omega)
  have c48 : (Int32.ofInt 48).toInt = 48 := rfl
  have hcb : cb τ6 l0 K = cu τ6 l0 K := by
    unfold cb
    rw [if_neg (by omega)]
  rw [zI_sub (zI_add m1 g5 (by omega) (by omega)) c48 (by omega) (by omega), k5, hcb]
  omega
theorem sp_96_c32_t (a0 : Nat) (a1 : Int32) (a2 : Int32) (σ : zSg) (l0 : Nat) (l1 : Int32) (l2 : Int32) (l3 : Int32) (l4 : Int32) (τ : zSg) (τ8 : zSg) (hI : j_96 a0 a1 a2 σ l0 l1 l2 l3 l4 τ) (h7 : (l3 - (q_i (τ.1 l0 2))).toInt < (1 : Int)) (g8 : p_90 l0 τ τ8) :
    p_96 (a0) (a1) (a2) σ l1 τ8 := by
  obtain ⟨rfl, rfl, rfl, rfl, G⟩ := hI
  intro A E S hlo
  obtain ⟨K, rfl, k1, k2, k3, k5⟩ := G A E S
  have hE := S.2.2.2.2.1
  have e1 : (Int32.ofNat K - q_i (τ.1 l0 2)).toInt = (K : Int) - A := by
    rw [S.2.2.1]
    exact zI_sub (o32 (by omega)) (o32 (by omega)) (by omega) (by omega)
  rw [e1] at h7
  have hv := zDv_in (b := cb τ l0) (E := E) (A := A) (K - A) (by omega)
  have hz : zNm (cb τ l0) E l1.toInt l2.toInt A = -1 := by
    unfold zNm
    rw [k3, ← k5, if_neg (by omega)]
  refine ⟨fun hn => Or.inr ⟨hz, rfl, ?_⟩, fun hn => ⟨Or.inl rfl, A, S.2.2.2.1, ?_⟩⟩
  · rw [g8.2 hn, S.2.2.1]
    rfl
  · rw [g8.1 hn, q_w_id S.2.2.1]
theorem sp_96_c32_ft (a0 : Nat) (a1 : Int32) (a2 : Int32) (σ : zSg) (l0 : Nat) (l1 : Int32) (l2 : Int32) (l3 : Int32) (l4 : Int32) (τ : zSg) (τ10 : zSg) (hI : j_96 a0 a1 a2 σ l0 l1 l2 l3 l4 τ) (h7 : (l3 - (q_i (τ.1 l0 2))).toInt ≥ (1 : Int)) (h9 : (l3 - (q_i (τ.1 l0 2))).toInt > (3 : Int)) (g10 : p_90 l0 τ τ10) :
    p_96 (a0) (a1) (a2) σ l1 τ10 := by
  obtain ⟨rfl, rfl, rfl, rfl, G⟩ := hI
  intro A E S hlo
  obtain ⟨K, rfl, k1, k2, k3, k5⟩ := G A E S
  have hE := S.2.2.2.2.1
  have e1 : (Int32.ofNat K - q_i (τ.1 l0 2)).toInt = (K : Int) - A := by
    rw [S.2.2.1]
    exact zI_sub (o32 (by omega)) (o32 (by omega)) (by omega) (by omega)
  rw [e1] at h9 h7
  have hv := zDv_in (b := cb τ l0) (E := E) (A := A) (K - A) (by omega)
  have hz : zNm (cb τ l0) E l1.toInt l2.toInt A = -1 := by
    unfold zNm
    rw [k3, ← k5, if_neg (by omega)]
  refine ⟨fun hn => Or.inr ⟨hz, rfl, ?_⟩, fun hn => ⟨Or.inl rfl, A, S.2.2.2.1, ?_⟩⟩
  · rw [g10.2 hn, S.2.2.1]
    rfl
  · rw [g10.1 hn, q_w_id S.2.2.1]
theorem sp_96_c32_fft (a0 : Nat) (a1 : Int32) (a2 : Int32) (σ : zSg) (l0 : Nat) (l1 : Int32) (l2 : Int32) (l3 : Int32) (l4 : Int32) (τ : zSg) (τ12 : zSg) (hI : j_96 a0 a1 a2 σ l0 l1 l2 l3 l4 τ) (h7 : (l3 - (q_i (τ.1 l0 2))).toInt ≥ (1 : Int)) (h9 : (l3 - (q_i (τ.1 l0 2))).toInt ≤ (3 : Int)) (h11 : l4.toInt < l1.toInt) (g12 : p_90 l0 τ τ12) :
    p_96 (a0) (a1) (a2) σ l1 τ12 := by
  obtain ⟨rfl, rfl, rfl, rfl, G⟩ := hI
  intro A E S hlo
  obtain ⟨K, rfl, k1, k2, k3, k5⟩ := G A E S
  have hE := S.2.2.2.2.1
  have e1 : (Int32.ofNat K - q_i (τ.1 l0 2)).toInt = (K : Int) - A := by
    rw [S.2.2.1]
    exact zI_sub (o32 (by omega)) (o32 (by omega)) (by omega) (by omega)
  rw [e1] at h9 h7
  have hv := zDv_in (b := cb τ l0) (E := E) (A := A) (K - A) (by omega)
  have hz : zNm (cb τ l0) E l1.toInt l2.toInt A = -1 := by
    unfold zNm
    rw [k3, ← k5, if_neg (by omega)]
  refine ⟨fun hn => Or.inr ⟨hz, rfl, ?_⟩, fun hn => ⟨Or.inl rfl, A, S.2.2.2.1, ?_⟩⟩
  · rw [g12.2 hn, S.2.2.1]
    rfl
  · rw [g12.1 hn, q_w_id S.2.2.1]
theorem sp_96_c32_ffft (a0 : Nat) (a1 : Int32) (a2 : Int32) (σ : zSg) (l0 : Nat) (l1 : Int32) (l2 : Int32) (l3 : Int32) (l4 : Int32) (τ : zSg) (τ14 : zSg) (hI : j_96 a0 a1 a2 σ l0 l1 l2 l3 l4 τ) (h7 : (l3 - (q_i (τ.1 l0 2))).toInt ≥ (1 : Int)) (h9 : (l3 - (q_i (τ.1 l0 2))).toInt ≤ (3 : Int)) (h11 : l4.toInt ≥ l1.toInt) (h13 : l4.toInt ≤ l2.toInt) (g14 : p_97 l0 (q_w τ l0 2 (.int l3)) τ14) :
    p_96 (a0) (a1) (a2) σ l4 τ14 := by
  obtain ⟨rfl, rfl, rfl, rfl, G⟩ := hI
  intro A E S hlo
  obtain ⟨K, rfl, k1, k2, k3, k5⟩ := G A E S
  have hE := S.2.2.2.2.1
  have e1 : (Int32.ofNat K - q_i (τ.1 l0 2)).toInt = (K : Int) - A := by
    rw [S.2.2.1]
    exact zI_sub (o32 (by omega)) (o32 (by omega)) (by omega) (by omega)
  rw [e1] at h9 h7
  have hv := zDv_in (b := cb τ l0) (E := E) (A := A) (K - A) (by omega)
  have hz : zNm (cb τ l0) E l1.toInt l2.toInt A = l4.toInt := by
    unfold zNm
    rw [k3, ← k5, if_pos (by omega)]
  have hg := g14 K E (S.at k2)
  rw [cb_w S.1 (by omega), q_w_w] at hg
  refine ⟨fun hn => Or.inl ⟨by omega, hz.symm, by rw [hg, k3]⟩, fun hn => ⟨Or.inr (by omega), _, zBl_le k2, hg⟩⟩
theorem sp_96_c32_ffff (a0 : Nat) (a1 : Int32) (a2 : Int32) (σ : zSg) (l0 : Nat) (l1 : Int32) (l2 : Int32) (l3 : Int32) (l4 : Int32) (τ : zSg) (τ15 : zSg) (hI : j_96 a0 a1 a2 σ l0 l1 l2 l3 l4 τ) (h7 : (l3 - (q_i (τ.1 l0 2))).toInt ≥ (1 : Int)) (h9 : (l3 - (q_i (τ.1 l0 2))).toInt ≤ (3 : Int)) (h11 : l4.toInt ≥ l1.toInt) (h13 : l4.toInt > l2.toInt) (g15 : p_90 l0 τ τ15) :
    p_96 (a0) (a1) (a2) σ l1 τ15 := by
  obtain ⟨rfl, rfl, rfl, rfl, G⟩ := hI
  intro A E S hlo
  obtain ⟨K, rfl, k1, k2, k3, k5⟩ := G A E S
  have hE := S.2.2.2.2.1
  have e1 : (Int32.ofNat K - q_i (τ.1 l0 2)).toInt = (K : Int) - A := by
    rw [S.2.2.1]
    exact zI_sub (o32 (by omega)) (o32 (by omega)) (by omega) (by omega)
  rw [e1] at h9 h7
  have hv := zDv_in (b := cb τ l0) (E := E) (A := A) (K - A) (by omega)
  have hz : zNm (cb τ l0) E l1.toInt l2.toInt A = -1 := by
    unfold zNm
    rw [k3, ← k5, if_neg (by omega)]
  refine ⟨fun hn => Or.inr ⟨hz, rfl, ?_⟩, fun hn => ⟨Or.inl rfl, A, S.2.2.2.1, ?_⟩⟩
  · rw [g15.2 hn, S.2.2.1]
    rfl
  · rw [g15.1 hn, q_w_id S.2.2.1]
noncomputable def qP_96 : zPp := fun as σ o σ' => match as with
  | [a0, a1, a2] => ∃ r, o = .inl (some (.int r)) ∧ p_96 (q_r a0) (q_i a1) (q_i a2) σ r σ'
  | _ => True
set_option maxRecDepth 100000 in
theorem sp_96 {sx : zX} (S86 : zEe sx 86 2 qP_86) (S99 : zEe sx 99 1 qP_99) (S90 : zEe sx 90 1 qP_90) (S97 : zEe sx 97 1 qP_97) : zEe sx 96 3 qP_96 := by
  refine zfle zJ_96 (sps := [(86, 2, qP_86), (99, 1, qP_99), (90, 1, qP_90), (97, 1, qP_97)]) (fun q hq => by
    simp only [List.mem_cons, List.not_mem_nil, or_false] at hq
    rcases hq with rfl | rfl | rfl | rfl
    · exact S86
    · exact S99
    · exact S90
    · exact S97) (fun as σ hl => ?_)
  match as, hl with
  | [a0, a1, a2], _ =>
  refine ⟨[(5, fun lo st τ => st = [] ∧ i_96 (q_r a0) (q_i a1) (q_i a2) σ (q_r (lo 0)) (q_i (lo 1)) (q_i (lo 2)) (q_i (lo 3)) (q_i (lo 4)) τ), (32, fun lo st τ => st = [] ∧ j_96 (q_r a0) (q_i a1) (q_i a2) σ (q_r (lo 0)) (q_i (lo 1)) (q_i (lo 2)) (q_i (lo 3)) (q_i (lo 4)) τ)], 400, ?_, ?_⟩
  · intro q hq
    simp only [List.mem_cons, List.not_mem_nil, or_false] at hq
    rcases hq with rfl | rfl
    · rintro lo st τ ⟨rfl, hI⟩
      refine ⟨400, ?_⟩
      refine And.intro (fun h1 => ?_) (fun h1 => ?_)
      · exact ⟨rfl, sp_96_c5_t (q_r a0) (q_i a1) (q_i a2) σ (q_r (lo 0)) (q_i (lo 1)) (q_i (lo 2)) (q_i (lo 3)) (q_i (lo 4)) τ hI (cm3t h1)⟩
      · refine fun o2 τ2 g2 => ?_
        obtain ⟨r2, rfl, g2⟩ := g2
        refine fun o3 τ3 g3 => ?_
        obtain ⟨r3, rfl, g3⟩ := g3
        refine And.intro (fun h4 => ?_) (fun h4 => ?_)
        · exact ⟨rfl, sp_96_c5_ft (q_r a0) (q_i a1) (q_i a2) σ (q_r (lo 0)) (q_i (lo 1)) (q_i (lo 2)) (q_i (lo 3)) (q_i (lo 4)) τ τ2 r2 τ3 r3 hI (cm3f h1) g2 g3 (cm0t h4)⟩
        · refine And.intro (fun h5 => ?_) (fun h5 => ?_)
          · exact ⟨rfl, sp_96_c5_fft (q_r a0) (q_i a1) (q_i a2) σ (q_r (lo 0)) (q_i (lo 1)) (q_i (lo 2)) (q_i (lo 3)) (q_i (lo 4)) τ τ2 r2 τ3 r3 hI (cm3f h1) g2 g3 (cm0f h4) (cm3t h5)⟩
          · refine fun o6 τ6 g6 => ?_
            obtain ⟨r6, rfl, g6⟩ := g6
            exact ⟨rfl, sp_96_c5_fff (q_r a0) (q_i a1) (q_i a2) σ (q_r (lo 0)) (q_i (lo 1)) (q_i (lo 2)) (q_i (lo 3)) (q_i (lo 4)) τ τ2 r2 τ3 r3 τ6 r6 hI (cm3f h1) g2 g3 (cm0f h4) (cm3f h5) g6⟩
    · rintro lo st τ ⟨rfl, hI⟩
      refine ⟨400, ?_⟩
      refine And.intro (fun h7 => ?_) (fun h7 => ?_)
      · refine fun o8 τ8 g8 => ?_
        obtain ⟨rfl, g8⟩ := g8
        exact ⟨_, rfl, sp_96_c32_t (q_r a0) (q_i a1) (q_i a2) σ (q_r (lo 0)) (q_i (lo 1)) (q_i (lo 2)) (q_i (lo 3)) (q_i (lo 4)) τ τ8 hI (cm2t h7) g8⟩
      · refine And.intro (fun h9 => ?_) (fun h9 => ?_)
        · refine fun o10 τ10 g10 => ?_
          obtain ⟨rfl, g10⟩ := g10
          exact ⟨_, rfl, sp_96_c32_ft (q_r a0) (q_i a1) (q_i a2) σ (q_r (lo 0)) (q_i (lo 1)) (q_i (lo 2)) (q_i (lo 3)) (q_i (lo 4)) τ τ10 hI (cm2f h7) (cm4t h9) g10⟩
        · refine And.intro (fun h11 => ?_) (fun h11 => ?_)
          · refine fun o12 τ12 g12 => ?_
            obtain ⟨rfl, g12⟩ := g12
            exact ⟨_, rfl, sp_96_c32_fft (q_r a0) (q_i a1) (q_i a2) σ (q_r (lo 0)) (q_i (lo 1)) (q_i (lo 2)) (q_i (lo 3)) (q_i (lo 4)) τ τ12 hI (cm2f h7) (cm4f h9) (cm2t h11) g12⟩
          · refine And.intro (fun h13 => ?_) (fun h13 => ?_)
            · refine fun o14 τ14 g14 => ?_
              obtain ⟨rfl, g14⟩ := g14
              exact ⟨_, rfl, sp_96_c32_ffft (q_r a0) (q_i a1) (q_i a2) σ (q_r (lo 0)) (q_i (lo 1)) (q_i (lo 2)) (q_i (lo 3)) (q_i (lo 4)) τ τ14 hI (cm2f h7) (cm4f h9) (cm2f h11) (cm5t h13) g14⟩
            · refine fun o15 τ15 g15 => ?_
              obtain ⟨rfl, g15⟩ := g15
              exact ⟨_, rfl, sp_96_c32_ffff (q_r a0) (q_i a1) (q_i a2) σ (q_r (lo 0)) (q_i (lo 1)) (q_i (lo 2)) (q_i (lo 3)) (q_i (lo 4)) τ τ15 hI (cm2f h7) (cm4f h9) (cm2f h11) (cm5f h13) g15⟩
  · exact ⟨rfl, sp_96_e (q_r a0) (q_i a1) (q_i a2) σ ⟩
end
section
/-! THE GRAMMAR of a law's text as functions of places: b the byte at a place, E the text's length; A a place behind blanks; what is read: the place behind it and the steps, or the wrong place; none: the fuel was too small -/
abbrev zSs : Type := List (Nat × Nat)
abbrev zRs : Type := (Nat × zSs) ⊕ Nat
noncomputable def zWaB (b : Nat → Int) (E : Nat) (s : List Int) (A : Nat) : Bool := Nat.beq (zLt b E A) (A + s.length) && (List.range s.length).all (fun k => decide (b (A + k) = s.getD k 0))
theorem zWaB_iff {b : Nat → Int} {E : Nat} {s : List Int} {A : Nat} : zWaB b E s A = true ↔ zWa b E s A := by
  unfold zWaB zWa zWd
  rw [Bool.and_eq_true, List.all_eq_true]
  constructor
  · rintro ⟨h1, h2⟩
    exact ⟨Nat.eq_of_beq_eq_true h1, fun k hk => of_decide_eq_true (h2 k (List.mem_range.mpr hk))⟩
  · rintro ⟨h1, h2⟩
    exact ⟨by rw [h1]; exact Nat.beq_refl _, fun k hk => decide_eq_true (h2 k (List.mem_range.mp hk))⟩
noncomputable def tw (b : Nat → Int) (E : Nat) (s : List Int) (A : Nat) : Option Nat := bif zWaB b E s A then some (zBl b E (A + s.length)) else none
theorem tw_pos {b : Nat → Int} {E : Nat} {s : List Int} {A : Nat} (h : zWa b E s A) : tw b E s A = some (zBl b E (A + s.length)) := by
  unfold tw
  rw [zWaB_iff.mpr h]
  rfl
theorem tw_neg {b : Nat → Int} {E : Nat} {s : List Int} {A : Nat} (h : ¬ zWa b E s A) : tw b E s A = none := by
  unfold tw
  cases hb : zWaB b E s A with
  | true => exact absurd (zWaB_iff.mp hb) h
  | false => rfl
theorem tw_some {b : Nat → Int} {E : Nat} {s : List Int} {A A1 : Nat} (h : tw b E s A = some A1) : zWa b E s A := by
  unfold tw at h
  cases hb : zWaB b E s A with
  | true => exact zWaB_iff.mp hb
  | false => rw [hb] at h; cases h
noncomputable def ts (b : Nat → Int) (E : Nat) (c : Int) (A : Nat) : Option Nat := if A < E ∧ b A = c then some (zBl b E (A + 1)) else none
noncomputable def tn (b : Nat → Int) (E : Nat) (lo hi : Int) (A : Nat) : Option (Nat × Nat) := if 0 ≤ zNm b E lo hi A then some (zBl b E (zDe b E A), (zNm b E lo hi A).toNat) else none
noncomputable def wFamily : List Int := [102, 97, 109, 105, 108, 121]
noncomputable def wHour : List Int := [104, 111, 117, 114]
noncomputable def wHeat : List Int := [104, 101, 97, 116]
noncomputable def wDirt : List Int := [100, 105, 114, 116]
noncomputable def wQuarrel : List Int := [113, 117, 97, 114, 114, 101, 108]
noncomputable def wLeft : List Int := [108, 101, 102, 116]
noncomputable def wNight : List Int := [110, 105, 103, 104, 116]
noncomputable def wWished : List Int := [119, 105, 115, 104, 101, 100]
noncomputable def wNot : List Int := [110, 111, 116]
noncomputable def wAnd : List Int := [97, 110, 100]
noncomputable def wOr : List Int := [111, 114]
noncomputable def wIf : List Int := [105, 102]
noncomputable def wWarm : List Int := [119, 97, 114, 109]
noncomputable def wDust : List Int := [100, 117, 115, 116]
noncomputable def wFine : List Int := [102, 105, 110, 101]
/-- the first of these words: where it ends, which it is -/
noncomputable def tws (b : Nat → Int) (E A : Nat) : List (List Int) → Nat → Option (Nat × Nat)
  | [], _ => none
  | s :: r, c => match tw b E s A with
    | some A1 => some (A1, c)
    | none => tws b E A r (c + 1)
noncomputable def gPart (b : Nat → Int) (E A : Nat) : zRs := if A < E ∧ 48 ≤ b A ∧ b A ≤ 57 then (match tn b E 0 999 A with
    | some (A1, v) => .inl (A1, [(8, v)])
    | none => .inr A) else (match tws b E A [wFamily, wHour, wHeat, wDirt, wQuarrel, wLeft] 0 with
    | some (A1, c) => .inl (A1, [(c, 0)])
    | none => .inr A)
noncomputable def gSumL (b : Nat → Int) (E : Nat) : Nat → Nat → zSs → Option zRs
  | 0, _, _ => none
  | n + 1, A, l => match ts b E 43 A with
    | none => some (.inl (A, l))
    | some A1 => (match gPart b E A1 with
      | .inr F => some (.inr F)
      | .inl (A2, m) => gSumL b E n A2 (l ++ m ++ [(9, 0)]))
noncomputable def gSum (b : Nat → Int) (E n A : Nat) : Option zRs := match gPart b E A with
  | .inr F => some (.inr F)
  | .inl (A1, l) => gSumL b E n A1 l
noncomputable def gLoop (b : Nat → Int) (E : Nat) (f : Nat → Option zRs) : Nat → Nat → Bool → zSs → Option zRs
  | 0, _, _, _ => none
  | n + 1, A, w, l => match tw b E wAnd A with
    | some A1 => (match f A1 with
      | none => none
      | some (.inr F) => some (.inr F)
      | some (.inl (A2, m)) => gLoop b E f n A2 w (l ++ m ++ [(13, 0)]))
    | none => (match tw b E wOr A with
      | some A1 => (match f A1 with
        | none => none
        | some (.inr F) => some (.inr F)
        | some (.inl (A2, m)) => gLoop b E f n A2 true ((bif w then l ++ [(14, 0)] else l) ++ m))
      | none => some (.inl (A, bif w then l ++ [(14, 0)] else l)))
noncomputable def gCond (b : Nat → Int) (E : Nat) (f : Nat → Option zRs) (n A : Nat) : Option zRs := match f A with
  | none => none
  | some (.inr F) => some (.inr F)
  | some (.inl (A1, l)) => gLoop b E f n A1 false l
/-- night, wished, or two sums compared -/
noncomputable def gBase (b : Nat → Int) (E n A : Nat) : Option zRs := match tw b E wNight A with
  | some A1 => some (.inl (A1, [(6, 0)]))
  | none => (match tw b E wWished A with
    | some A1 => some (.inl (A1, [(7, 0)]))
    | none => (match gSum b E n A with
      | none => none
      | some (.inr F) => some (.inr F)
      | some (.inl (A1, l)) => (match ts b E 60 A1 with
        | some A2 => (match gSum b E n A2 with
          | none => none
          | some (.inr F) => some (.inr F)
          | some (.inl (A3, m)) => some (.inl (A3, l ++ m ++ [(10, 0)])))
        | none => (match ts b E 62 A1 with
          | some A2 => (match gSum b E n A2 with
            | none => none
            | some (.inr F) => some (.inr F)
            | some (.inl (A3, m)) => some (.inl (A3, l ++ m ++ [(11, 0)])))
          | none => some (.inr A1)))))
noncomputable def gAtom (b : Nat → Int) (E : Nat) : Nat → Nat → Nat → Option zRs
  | 0, _, _ => none
  | n + 1, D, A => match ts b E 40 A with
    | some A1 => if D = 6 then some (.inr A) else (match gCond b E (gAtom b E n (D + 1)) n A1 with
      | none => none
      | some (.inr F) => some (.inr F)
      | some (.inl (A2, l)) => (match ts b E 41 A2 with
        | some A3 => some (.inl (A3, l))
        | none => some (.inr A2)))
    | none => (match tw b E wNot A with
      | some A1 => if D = 6 then some (.inr A) else (match gAtom b E n (D + 1) A1 with
        | none => none
        | some (.inr F) => some (.inr F)
        | some (.inl (A2, l)) => some (.inl (A2, l ++ [(12, 0)])))
      | none => gBase b E n A)
/-! more fuel changes nothing -/
section GMO
variable {b : Nat → Int} {E : Nat}
theorem gSumL_mono {R : zRs} : ∀ {n m A : Nat} {l : zSs}, gSumL b E n A l = some R → n ≤ m → gSumL b E m A l = some R
  | 0, _, _, _, h, _ => by cases h
  | n + 1, 0, _, _, _, hm => by omega
  | n + 1, m + 1, A, l, h, hm => by
    unfold gSumL at h ⊢
    cases h1 : ts b E 43 A with
    | none => rw [h1] at h; exact h
    | some A1 =>
      rw [h1] at h
      dsimp only at h ⊢
      cases h2 : gPart b E A1 with
      | inr F => rw [h2] at h; exact h
      | inl q => rw [h2] at h; exact gSumL_mono h (by omega)
theorem gSum_mono {R : zRs} {n m A : Nat} (h : gSum b E n A = some R) (hm : n ≤ m) : gSum b E m A = some R := by
  unfold gSum at h ⊢
  cases h2 : gPart b E A with
  | inr F => rw [h2] at h; exact h
  | inl q => rw [h2] at h; exact gSumL_mono h hm
theorem gLoop_mono {f g : Nat → Option zRs} (hf : ∀ A R, f A = some R → g A = some R) {R : zRs} : ∀ {n m A : Nat} {w : Bool} {l : zSs}, gLoop b E f n A w l = some R → n ≤ m → gLoop b E g m A w l = some R
  | 0, _, _, _, _, h, _ => by cases h
  | n + 1, 0, _, _, _, _, hm => by omega
  | n + 1, m + 1, A, w, l, h, hm => by
    unfold gLoop at h ⊢
    cases h1 : tw b E wAnd A with
    | some A1 =>
      rw [h1] at h
      dsimp only at h ⊢
      cases h2 : f A1 with
      | none => rw [h2] at h; cases h
      | some q =>
        rw [h2] at h
        rw [hf _ _ h2]
        cases q with
        | inr F => exact h
        | inl q => exact gLoop_mono hf h (by omega)
    | none =>
      rw [h1] at h
      dsimp only at h ⊢
      cases h3 : tw b E wOr A with
      | none => rw [h3] at h; exact h
      | some A1 =>
        rw [h3] at h
        dsimp only at h ⊢
        cases h2 : f A1 with
        | none => rw [h2] at h; cases h
        | some q =>
          rw [h2] at h
          rw [hf _ _ h2]
          cases q with
          | inr F => exact h
          | inl q => exact gLoop_mono hf h (by omega)
theorem gCond_mono {f g : Nat → Option zRs} (hf : ∀ A R, f A = some R → g A = some R) {R : zRs} {n m A : Nat} (h : gCond b E f n A = some R) (hm : n ≤ m) : gCond b E g m A = some R := by
  unfold gCond at h ⊢
  cases h2 : f A with
  | none => rw [h2] at h; cases h
  | some q =>
    rw [h2] at h
    rw [hf _ _ h2]
    cases q with
    | inr F => exact h
    | inl q => exact gLoop_mono hf h hm
theorem gBase_mono {R : zRs} {n m A : Nat} (h : gBase b E n A = some R) (hm : n ≤ m) : gBase b E m A = some R := by
  unfold gBase at h ⊢
  cases h1 : tw b E wNight A with
  | some A1 => rw [h1] at h; exact h
  | none =>
  rw [h1] at h
  dsimp only at h ⊢
  cases h2 : tw b E wWished A with
  | some A1 => rw [h2] at h; exact h
  | none =>
  rw [h2] at h
  dsimp only at h ⊢
  cases h3 : gSum b E n A with
  | none => rw [h3] at h; cases h
  | some q =>
  rw [h3] at h
  rw [gSum_mono h3 hm]
  cases q with
  | inr F => exact h
  | inl q =>
  obtain ⟨A1, l⟩ := q
  dsimp only at h ⊢
  cases h4 : ts b E 60 A1 with
  | some A2 =>
    rw [h4] at h
    dsimp only at h ⊢
    cases h5 : gSum b E n A2 with
    | none => rw [h5] at h; cases h
    | some q => rw [h5] at h; rw [gSum_mono h5 hm]; exact h
  | none =>
    rw [h4] at h
    dsimp only at h ⊢
    cases h6 : ts b E 62 A1 with
    | none => rw [h6] at h; exact h
    | some A2 =>
      rw [h6] at h
      dsimp only at h ⊢
      cases h5 : gSum b E n A2 with
      | none => rw [h5] at h; cases h
      | some q => rw [h5] at h; rw [gSum_mono h5 hm]; exact h
theorem gAtom_mono {R : zRs} : ∀ {n m D A : Nat}, gAtom b E n D A = some R → n ≤ m → gAtom b E m D A = some R
  | 0, _, _, _, h, _ => by cases h
  | n + 1, 0, _, _, _, hm => by omega
  | n + 1, m + 1, D, A, h, hm => by
    unfold gAtom at h ⊢
    cases h1 : ts b E 40 A with
    | some A1 =>
      rw [h1] at h
      dsimp only at h ⊢
      by_cases hD : D = 6
      · rw [if_pos hD] at h ⊢; exact h
      rw [if_neg hD] at h ⊢
      cases h2 : gCond b E (gAtom b E n (D + 1)) n A1 with
      | none => rw [h2] at h; cases h
      | some q =>
        rw [h2] at h
        rw [gCond_mono (g := gAtom b E m (D + 1)) (fun A R h => gAtom_mono h (by omega)) h2 (by omega)]
        exact h
    | none =>
      rw [h1] at h
      dsimp only at h ⊢
      cases h3 : tw b E wNot A with
      | none => rw [h3] at h; exact gBase_mono h (by omega)
      | some A1 =>
        rw [h3] at h
        dsimp only at h ⊢
        by_cases hD : D = 6
        · rw [if_pos hD] at h ⊢; exact h
        rw [if_neg hD] at h ⊢
        cases h2 : gAtom b E n (D + 1) A1 with
        | none => rw [h2] at h; cases h
        | some q =>
          rw [h2] at h
          rw [gAtom_mono h2 (by omega)]
          exact h
/-! and-loops within or-loops, as the reference reads: the same -/
noncomputable def gAndL (b : Nat → Int) (E : Nat) (f : Nat → Option zRs) : Nat → Nat → zSs → Option zRs
  | 0, _, _ => none
  | n + 1, A, l => match tw b E wAnd A with
    | some A1 => (match f A1 with
      | none => none
      | some (.inr F) => some (.inr F)
      | some (.inl (A2, m)) => gAndL b E f n A2 (l ++ m ++ [(13, 0)]))
    | none => some (.inl (A, l))
noncomputable def gAll (b : Nat → Int) (E : Nat) (f : Nat → Option zRs) (n A : Nat) : Option zRs := match f A with
  | none => none
  | some (.inr F) => some (.inr F)
  | some (.inl (A1, l)) => gAndL b E f n A1 l
theorem gAndL_ok {f : Nat → Option zRs} {w : Bool} {p : zSs} : ∀ {n A : Nat} {l : zSs} {R : zRs}, gAndL b E f n A l = some R → (∀ F, R = .inr F → ∃ k, gLoop b E f k A w (p ++ l) = some (.inr F)) ∧ ∀ A' l', R = .inl (A', l') → tw b E wAnd A' = none ∧ ∀ k R', gLoop b E f k A' w (p ++ l') = some R' → ∃ k', gLoop b E f k' A w (p ++ l) = some R'
  | 0, _, _, _, h => by cases h
  | n + 1, A, l, R, h => by
    unfold gAndL at h
    cases h1 : tw b E wAnd A with
    | none =>
      rw [h1] at h
      cases h
      refine ⟨fun F q => (by cases q), fun A' l' q => ?_⟩
      cases q
      exact ⟨h1, fun k R' hk => ⟨k, hk⟩⟩
    | some A1 =>
      rw [h1] at h
      dsimp only at h
      cases h2 : f A1 with
      | none => rw [h2] at h; cases h
      | some q =>
        rw [h2] at h
        cases q with
        | inr F =>
          cases h
          refine ⟨fun F q => ⟨1, ?_⟩, fun A' l' q => (by cases q)⟩
          cases q
          unfold gLoop
          rw [h1]
          dsimp only
          rw [h2]
        | inl q =>
          obtain ⟨A2, m⟩ := q
          obtain ⟨i1, i2⟩ := gAndL_ok (w := w) (p := p) h
          have st : ∀ k R', gLoop b E f k A2 w (p ++ (l ++ m ++ [(13, 0)])) = some R' → gLoop b E f (k + 1) A w (p ++ l) = some R' := by
            intro k R' hk
            unfold gLoop
            rw [h1]
            dsimp only
            rw [h2]
            dsimp only
            rw [show p ++ l ++ m ++ [(13, 0)] = p ++ (l ++ m ++ [(13, 0)]) by simp only [List.append_assoc]]
            exact hk
          refine ⟨fun F q => ?_, fun A' l' q => ⟨(i2 A' l' q).1, fun k R' hk => ?_⟩⟩
          · obtain ⟨k, hk⟩ := i1 F q
            exact ⟨_, st k _ hk⟩
          · obtain ⟨k', hk'⟩ := (i2 A' l' q).2 k R' hk
            exact ⟨_, st k' _ hk'⟩
noncomputable def gOrL (b : Nat → Int) (E : Nat) (f : Nat → Option zRs) : Nat → Nat → zSs → Option zRs
  | 0, _, _ => none
  | n + 1, A, l => match tw b E wOr A with
    | some A1 => (match gAll b E f n A1 with
      | none => none
      | some (.inr F) => some (.inr F)
      | some (.inl (A2, m)) => gOrL b E f n A2 (l ++ m ++ [(14, 0)]))
    | none => some (.inl (A, l))
/-- behind an all-of: the flat loop goes on -/
theorem gOrL_ok {f : Nat → Option zRs} : ∀ {n A : Nat} {l : zSs} {w : Bool} {R : zRs}, gOrL b E f n A (bif w then l ++ [(14, 0)] else l) = some R → tw b E wAnd A = none → ∃ k, gLoop b E f k A w l = some R
  | 0, _, _, _, _, h, _ => by cases h
  | n + 1, A, l, w, R, h, ha => by
    unfold gOrL at h
    cases h1 : tw b E wOr A with
    | none =>
      rw [h1] at h
      refine ⟨1, ?_⟩
      unfold gLoop
      rw [ha]
      dsimp only
      rw [h1]
      exact h
    | some A1 =>
      rw [h1] at h
      dsimp only at h
      cases h2 : gAll b E f n A1 with
      | none => rw [h2] at h; cases h
      | some q =>
        rw [h2] at h
        unfold gAll at h2
        cases h3 : f A1 with
        | none => rw [h3] at h2; cases h2
        | some q3 =>
        rw [h3] at h2
        have st : ∀ (A2 : Nat) (m : zSs) k R', f A1 = some (.inl (A2, m)) → gLoop b E f k A2 true ((bif w then l ++ [(14, 0)] else l) ++ m) = some R' → gLoop b E f (k + 1) A w l = some R' := by
          intro A2 m k R' hf hk
          unfold gLoop
          rw [ha]
          dsimp only
          rw [h1]
          dsimp only
          rw [hf]
          exact hk
        cases q3 with
        | inr F =>
          cases h2
          cases h
          refine ⟨1, ?_⟩
          unfold gLoop
          rw [ha]
          dsimp only
          rw [h1]
          dsimp only
          rw [h3]
        | inl q3 =>
          obtain ⟨A2, m⟩ := q3
          dsimp only at h2
          obtain ⟨i1, i2⟩ := gAndL_ok (w := true) (p := bif w then l ++ [(14, 0)] else l) h2
          cases q with
          | inr F =>
            cases h
            obtain ⟨k, hk⟩ := i1 F rfl
            exact ⟨_, st A2 m k _ h3 hk⟩
          | inl q =>
            obtain ⟨A3, m3⟩ := q
            dsimp only at h
            obtain ⟨j1, j2⟩ := i2 A3 m3 rfl
            have h9 : gOrL b E f n A3 (bif true then ((bif w then l ++ [(14, 0)] else l) ++ m3) ++ [(14, 0)] else ((bif w then l ++ [(14, 0)] else l) ++ m3)) = some R := h
            obtain ⟨k, hk⟩ := gOrL_ok h9 j1
            obtain ⟨k', hk'⟩ := j2 k R hk
            exact ⟨_, st A2 m k' _ h3 hk'⟩
noncomputable def gCnd (b : Nat → Int) (E : Nat) (f : Nat → Option zRs) (n A : Nat) : Option zRs := match gAll b E f n A with
  | none => none
  | some (.inr F) => some (.inr F)
  | some (.inl (A1, l)) => gOrL b E f n A1 l
theorem gCnd_ok {f : Nat → Option zRs} {n A : Nat} {R : zRs} (h : gCnd b E f n A = some R) : ∃ k, gCond b E f k A = some R := by
  unfold gCnd at h
  cases h1 : gAll b E f n A with
  | none => rw [h1] at h; cases h
  | some q =>
    rw [h1] at h
    unfold gAll at h1
    cases h2 : f A with
    | none => rw [h2] at h1; cases h1
    | some q2 =>
      rw [h2] at h1
      cases q2 with
      | inr F =>
        cases h1
        cases h
        refine ⟨0, ?_⟩
        unfold gCond
        rw [h2]
      | inl q2 =>
        obtain ⟨A1, l⟩ := q2
        dsimp only at h1
        obtain ⟨i1, i2⟩ := gAndL_ok (w := false) (p := []) h1
        cases q with
        | inr F =>
          cases h
          obtain ⟨k, hk⟩ := i1 F rfl
          refine ⟨k, ?_⟩
          unfold gCond
          rw [h2]
          exact hk
        | inl q =>
          obtain ⟨A3, m3⟩ := q
          dsimp only at h
          obtain ⟨j1, j2⟩ := i2 A3 m3 rfl
          obtain ⟨k, hk⟩ := gOrL_ok (w := false) h j1
          obtain ⟨k', hk'⟩ := j2 k R hk
          refine ⟨k', ?_⟩
          unfold gCond
          rw [h2]
          exact hk'
end GMO
end
section
/-! the grammar as relations: how each comes about, and that each has one end -/
section GRE
variable {b : Nat → Int} {E : Nat}
noncomputable def GSL (b : Nat → Int) (E A : Nat) (l : zSs) (R : zRs) : Prop := ∃ n, gSumL b E n A l = some R
noncomputable def GS (b : Nat → Int) (E A : Nat) (R : zRs) : Prop := ∃ n, gSum b E n A = some R
noncomputable def GB (b : Nat → Int) (E A : Nat) (R : zRs) : Prop := ∃ n, gBase b E n A = some R
noncomputable def GA (b : Nat → Int) (E D A : Nat) (R : zRs) : Prop := ∃ n, gAtom b E n D A = some R
noncomputable def GL (b : Nat → Int) (E D A : Nat) (w : Bool) (l : zSs) (R : zRs) : Prop := ∃ n, gLoop b E (gAtom b E n D) n A w l = some R
noncomputable def GC (b : Nat → Int) (E D A : Nat) (R : zRs) : Prop := ∃ n, gCond b E (gAtom b E n D) n A = some R
noncomputable def GN (b : Nat → Int) (E D A : Nat) (l : zSs) (R : zRs) : Prop := ∃ n, gAndL b E (gAtom b E n D) n A l = some R
noncomputable def GW (b : Nat → Int) (E D A : Nat) (R : zRs) : Prop := ∃ n, gAll b E (gAtom b E n D) n A = some R
noncomputable def GO (b : Nat → Int) (E D A : Nat) (l : zSs) (R : zRs) : Prop := ∃ n, gOrL b E (gAtom b E n D) n A l = some R
theorem gAndL_mono {f g : Nat → Option zRs} (hf : ∀ A R, f A = some R → g A = some R) {R : zRs} : ∀ {n m A : Nat} {l : zSs}, gAndL b E f n A l = some R → n ≤ m → gAndL b E g m A l = some R
  | 0, _, _, _, h, _ => by cases h
  | n + 1, 0, _, _, _, hm => by omega
  | n + 1, m + 1, A, l, h, hm => by
    unfold gAndL at h ⊢
    cases h1 : tw b E wAnd A with
    | none => rw [h1] at h; exact h
    | some A1 =>
      rw [h1] at h
      dsimp only at h ⊢
      cases h2 : f A1 with
      | none => rw [h2] at h; cases h
      | some q =>
        rw [h2] at h
        rw [hf _ _ h2]
        cases q with
        | inr F => exact h
        | inl q => exact gAndL_mono hf h (by omega)
theorem gAll_mono {f g : Nat → Option zRs} (hf : ∀ A R, f A = some R → g A = some R) {R : zRs} {n m A : Nat} (h : gAll b E f n A = some R) (hm : n ≤ m) : gAll b E g m A = some R := by
  unfold gAll at h ⊢
  cases h2 : f A with
  | none => rw [h2] at h; cases h
  | some q =>
    rw [h2] at h
    rw [hf _ _ h2]
    cases q with
    | inr F => exact h
    | inl q => exact gAndL_mono hf h hm
theorem gOrL_mono {f g : Nat → Option zRs} (hf : ∀ A R, f A = some R → g A = some R) {R : zRs} : ∀ {n m A : Nat} {l : zSs}, gOrL b E f n A l = some R → n ≤ m → gOrL b E g m A l = some R
  | 0, _, _, _, h, _ => by cases h
  | n + 1, 0, _, _, _, hm => by omega
  | n + 1, m + 1, A, l, h, hm => by
    unfold gOrL at h ⊢
    cases h1 : tw b E wOr A with
    | none => rw [h1] at h; exact h
    | some A1 =>
      rw [h1] at h
      dsimp only at h ⊢
      cases h2 : gAll b E f n A1 with
      | none => rw [h2] at h; cases h
      | some q =>
        rw [h2] at h
        rw [gAll_mono hf h2 (by omega)]
        cases q with
        | inr F => exact h
        | inl q => exact gOrL_mono hf h (by omega)
theorem gAm {n m D : Nat} (h : n ≤ m) : ∀ A R, gAtom b E n D A = some R → gAtom b E m D A = some R := fun _ _ q => gAtom_mono q h
theorem GSL.stop {A : Nat} {l : zSs} (h : ts b E 43 A = none) : GSL b E A l (.inl (A, l)) := ⟨1, by unfold gSumL; rw [h]⟩
theorem GSL.wrong {A A1 F : Nat} {l : zSs} (h : ts b E 43 A = some A1) (h1 : gPart b E A1 = .inr F) : GSL b E A l (.inr F) := ⟨1, by unfold gSumL; rw [h]; dsimp only; rw [h1]⟩
theorem GSL.step {A A1 A2 : Nat} {l m : zSs} {R : zRs} (h : ts b E 43 A = some A1) (h1 : gPart b E A1 = .inl (A2, m)) (h2 : GSL b E A2 (l ++ m ++ [(9, 0)]) R) : GSL b E A l R := by
  obtain ⟨n, h2⟩ := h2
  exact ⟨n + 1, by unfold gSumL; rw [h]; dsimp only; rw [h1]; exact h2⟩
theorem GS.wrong {A F : Nat} (h : gPart b E A = .inr F) : GS b E A (.inr F) := ⟨0, by unfold gSum; rw [h]⟩
theorem GS.go {A A1 : Nat} {l : zSs} {R : zRs} (h : gPart b E A = .inl (A1, l)) (h1 : GSL b E A1 l R) : GS b E A R := by
  obtain ⟨n, h1⟩ := h1
  exact ⟨n, by unfold gSum; rw [h]; exact h1⟩
theorem GB.night {A A1 : Nat} (h : tw b E wNight A = some A1) : GB b E A (.inl (A1, [(6, 0)])) := ⟨0, by unfold gBase; rw [h]⟩
theorem GB.wished {A A1 : Nat} (h : tw b E wNight A = none) (h1 : tw b E wWished A = some A1) : GB b E A (.inl (A1, [(7, 0)])) := ⟨0, by unfold gBase; rw [h]; dsimp only; rw [h1]⟩
theorem GB.wrong1 {A F : Nat} (h : tw b E wNight A = none) (h1 : tw b E wWished A = none) (h2 : GS b E A (.inr F)) : GB b E A (.inr F) := by
  obtain ⟨n, h2⟩ := h2
  exact ⟨n, by unfold gBase; rw [h]; dsimp only; rw [h1]; dsimp only; rw [h2]⟩
theorem GB.wrong2 {A A1 : Nat} {l : zSs} (h : tw b E wNight A = none) (h1 : tw b E wWished A = none) (h2 : GS b E A (.inl (A1, l))) (h3 : ts b E 60 A1 = none) (h4 : ts b E 62 A1 = none) : GB b E A (.inr A1) := by
  obtain ⟨n, h2⟩ := h2
  exact ⟨n, by unfold gBase; rw [h]; dsimp only; rw [h1]; dsimp only; rw [h2]; dsimp only; rw [h3]; dsimp only; rw [h4]⟩
theorem GB.less {A A1 A2 : Nat} {l : zSs} {R : zRs} (h : tw b E wNight A = none) (h1 : tw b E wWished A = none) (h2 : GS b E A (.inl (A1, l))) (h3 : ts b E 60 A1 = some A2) (h4 : GS b E A2 R) : GB b E A (match R with | .inr F => .inr F | .inl (A3, m) => .inl (A3, l ++ m ++ [(10, 0)])) := by
  obtain ⟨n, h2⟩ := h2
  obtain ⟨k, h4⟩ := h4
  refine ⟨max n k, ?_⟩
  unfold gBase
  rw [h]
  dsimp only
  rw [h1]
  dsimp only
  rw [gSum_mono h2 (Nat.le_max_left n k)]
  dsimp only
  rw [h3]
  dsimp only
  rw [gSum_mono h4 (Nat.le_max_right n k)]
  cases R <;> rfl
theorem GB.more {A A1 A2 : Nat} {l : zSs} {R : zRs} (h : tw b E wNight A = none) (h1 : tw b E wWished A = none) (h2 : GS b E A (.inl (A1, l))) (h3 : ts b E 60 A1 = none) (h5 : ts b E 62 A1 = some A2) (h4 : GS b E A2 R) : GB b E A (match R with | .inr F => .inr F | .inl (A3, m) => .inl (A3, l ++ m ++ [(11, 0)])) := by
  obtain ⟨n, h2⟩ := h2
  obtain ⟨k, h4⟩ := h4
  refine ⟨max n k, ?_⟩
  unfold gBase
  rw [h]
  dsimp only
  rw [h1]
  dsimp only
  rw [gSum_mono h2 (Nat.le_max_left n k)]
  dsimp only
  rw [h3]
  dsimp only
  rw [h5]
  dsimp only
  rw [gSum_mono h4 (Nat.le_max_right n k)]
  cases R <;> rfl
theorem GA.base {D A : Nat} {R : zRs} (h : ts b E 40 A = none) (h1 : tw b E wNot A = none) (h2 : GB b E A R) : GA b E D A R := by
  obtain ⟨n, h2⟩ := h2
  exact ⟨n + 1, by unfold gAtom; rw [h]; dsimp only; rw [h1]; exact h2⟩
theorem GA.deep1 {A A1 : Nat} (h : ts b E 40 A = some A1) : GA b E 6 A (.inr A) := ⟨1, by unfold gAtom; rw [h]; rfl⟩
theorem GA.deep2 {A A1 : Nat} (h : ts b E 40 A = none) (h1 : tw b E wNot A = some A1) : GA b E 6 A (.inr A) := ⟨1, by unfold gAtom; rw [h]; dsimp only; rw [h1]; rfl⟩
theorem GA.not {D A A1 : Nat} {R : zRs} (hD : D ≠ 6) (h : ts b E 40 A = none) (h1 : tw b E wNot A = some A1) (h2 : GA b E (D + 1) A1 R) : GA b E D A (match R with | .inr F => .inr F | .inl (A2, l) => .inl (A2, l ++ [(12, 0)])) := by
  obtain ⟨n, h2⟩ := h2
  refine ⟨n + 1, ?_⟩
  unfold gAtom
  rw [h]
  dsimp only
  rw [h1]
  dsimp only
  rw [if_neg hD, h2]
  cases R <;> rfl
theorem GA.par {D A A1 : Nat} {R : zRs} (hD : D ≠ 6) (h : ts b E 40 A = some A1) (h2 : GC b E (D + 1) A1 R) : GA b E D A (match R with | .inr F => .inr F | .inl (A2, l) => (match ts b E 41 A2 with | some A3 => .inl (A3, l) | none => .inr A2)) := by
  obtain ⟨n, h2⟩ := h2
  refine ⟨n + 1, ?_⟩
  unfold gAtom
  rw [h]
  dsimp only
  rw [if_neg hD, h2]
  cases R with
  | inr F => rfl
  | inl q =>
    obtain ⟨A2, l⟩ := q
    dsimp only
    cases ts b E 41 A2 <;> rfl
theorem GL.stop {D A : Nat} {w : Bool} {l : zSs} (h : tw b E wAnd A = none) (h1 : tw b E wOr A = none) : GL b E D A w l (.inl (A, bif w then l ++ [(14, 0)] else l)) := ⟨1, by unfold gLoop; rw [h]; dsimp only; rw [h1]⟩
theorem GL.and0 {D A A1 F : Nat} {w : Bool} {l : zSs} (h : tw b E wAnd A = some A1) (h1 : GA b E D A1 (.inr F)) : GL b E D A w l (.inr F) := by
  obtain ⟨n, h1⟩ := h1
  exact ⟨n + 1, by unfold gLoop; rw [h]; dsimp only; rw [gAtom_mono h1 (Nat.le_succ n)]⟩
theorem GL.and1 {D A A1 A2 : Nat} {w : Bool} {l m : zSs} {R : zRs} (h : tw b E wAnd A = some A1) (h1 : GA b E D A1 (.inl (A2, m))) (h2 : GL b E D A2 w (l ++ m ++ [(13, 0)]) R) : GL b E D A w l R := by
  obtain ⟨n, h1⟩ := h1
  obtain ⟨k, h2⟩ := h2
  refine ⟨max n k + 1, ?_⟩
  unfold gLoop
  rw [h]
  dsimp only
  rw [gAtom_mono h1 (show n ≤ max n k + 1 by omega)]
  exact gLoop_mono (gAm (by omega)) h2 (by omega)
theorem GL.or0 {D A A1 F : Nat} {w : Bool} {l : zSs} (h : tw b E wAnd A = none) (h0 : tw b E wOr A = some A1) (h1 : GA b E D A1 (.inr F)) : GL b E D A w l (.inr F) := by
  obtain ⟨n, h1⟩ := h1
  exact ⟨n + 1, by unfold gLoop; rw [h]; dsimp only; rw [h0]; dsimp only; rw [gAtom_mono h1 (Nat.le_succ n)]⟩
theorem GL.or1 {D A A1 A2 : Nat} {w : Bool} {l m : zSs} {R : zRs} (h : tw b E wAnd A = none) (h0 : tw b E wOr A = some A1) (h1 : GA b E D A1 (.inl (A2, m))) (h2 : GL b E D A2 true ((bif w then l ++ [(14, 0)] else l) ++ m) R) : GL b E D A w l R := by
  obtain ⟨n, h1⟩ := h1
  obtain ⟨k, h2⟩ := h2
  refine ⟨max n k + 1, ?_⟩
  unfold gLoop
  rw [h]
  dsimp only
  rw [h0]
  dsimp only
  rw [gAtom_mono h1 (show n ≤ max n k + 1 by omega)]
  exact gLoop_mono (gAm (by omega)) h2 (by omega)
theorem GC.wrong {D A F : Nat} (h : GA b E D A (.inr F)) : GC b E D A (.inr F) := by
  obtain ⟨n, h⟩ := h
  exact ⟨n, by unfold gCond; rw [h]⟩
theorem GC.go {D A A1 : Nat} {l : zSs} {R : zRs} (h : GA b E D A (.inl (A1, l))) (h1 : GL b E D A1 false l R) : GC b E D A R := by
  obtain ⟨n, h⟩ := h
  obtain ⟨k, h1⟩ := h1
  refine ⟨max n k, ?_⟩
  unfold gCond
  rw [gAtom_mono h (Nat.le_max_left n k)]
  exact gLoop_mono (gAm (Nat.le_max_right n k)) h1 (Nat.le_max_right n k)
theorem GN.stop {D A : Nat} {l : zSs} (h : tw b E wAnd A = none) : GN b E D A l (.inl (A, l)) := ⟨1, by unfold gAndL; rw [h]⟩
theorem GN.wrong {D A A1 F : Nat} {l : zSs} (h : tw b E wAnd A = some A1) (h1 : GA b E D A1 (.inr F)) : GN b E D A l (.inr F) := by
  obtain ⟨n, h1⟩ := h1
  exact ⟨n + 1, by unfold gAndL; rw [h]; dsimp only; rw [gAtom_mono h1 (Nat.le_succ n)]⟩
theorem GN.step {D A A1 A2 : Nat} {l m : zSs} {R : zRs} (h : tw b E wAnd A = some A1) (h1 : GA b E D A1 (.inl (A2, m))) (h2 : GN b E D A2 (l ++ m ++ [(13, 0)]) R) : GN b E D A l R := by
  obtain ⟨n, h1⟩ := h1
  obtain ⟨k, h2⟩ := h2
  refine ⟨max n k + 1, ?_⟩
  unfold gAndL
  rw [h]
  dsimp only
  rw [gAtom_mono h1 (show n ≤ max n k + 1 by omega)]
  exact gAndL_mono (gAm (by omega)) h2 (by omega)
theorem GW.wrong {D A F : Nat} (h : GA b E D A (.inr F)) : GW b E D A (.inr F) := by
  obtain ⟨n, h⟩ := h
  exact ⟨n, by unfold gAll; rw [h]⟩
theorem GW.go {D A A1 : Nat} {l : zSs} {R : zRs} (h : GA b E D A (.inl (A1, l))) (h1 : GN b E D A1 l R) : GW b E D A R := by
  obtain ⟨n, h⟩ := h
  obtain ⟨k, h1⟩ := h1
  refine ⟨max n k, ?_⟩
  unfold gAll
  rw [gAtom_mono h (Nat.le_max_left n k)]
  exact gAndL_mono (gAm (Nat.le_max_right n k)) h1 (Nat.le_max_right n k)
theorem GO.stop {D A : Nat} {l : zSs} (h : tw b E wOr A = none) : GO b E D A l (.inl (A, l)) := ⟨1, by unfold gOrL; rw [h]⟩
theorem GO.wrong {D A A1 F : Nat} {l : zSs} (h : tw b E wOr A = some A1) (h1 : GW b E D A1 (.inr F)) : GO b E D A l (.inr F) := by
  obtain ⟨n, h1⟩ := h1
  exact ⟨n + 1, by unfold gOrL; rw [h]; dsimp only; rw [gAll_mono (gAm (Nat.le_succ n)) h1 (Nat.le_refl n)]⟩
theorem GO.step {D A A1 A2 : Nat} {l m : zSs} {R : zRs} (h : tw b E wOr A = some A1) (h1 : GW b E D A1 (.inl (A2, m))) (h2 : GO b E D A2 (l ++ m ++ [(14, 0)]) R) : GO b E D A l R := by
  obtain ⟨n, h1⟩ := h1
  obtain ⟨k, h2⟩ := h2
  refine ⟨max n k + 1, ?_⟩
  unfold gOrL
  rw [h]
  dsimp only
  rw [gAll_mono (gAm (show n ≤ max n k + 1 by omega)) h1 (show n ≤ max n k by omega)]
  exact gOrL_mono (gAm (by omega)) h2 (by omega)
theorem GC.nest0 {D A F : Nat} (h : GW b E D A (.inr F)) : GC b E D A (.inr F) := by
  obtain ⟨n, h⟩ := h
  obtain ⟨k, hk⟩ := gCnd_ok (f := gAtom b E n D) (n := n) (A := A) (R := .inr F) (by unfold gCnd; rw [h])
  exact ⟨max n k, gCond_mono (gAm (Nat.le_max_left n k)) hk (Nat.le_max_right n k)⟩
theorem GC.nest1 {D A A1 : Nat} {l : zSs} {R : zRs} (h : GW b E D A (.inl (A1, l))) (h1 : GO b E D A1 l R) : GC b E D A R := by
  obtain ⟨n, h⟩ := h
  obtain ⟨k, h1⟩ := h1
  obtain ⟨k', hk⟩ := gCnd_ok (f := gAtom b E (max n k) D) (n := max n k) (A := A) (R := R) (by
    unfold gCnd
    rw [gAll_mono (gAm (Nat.le_max_left n k)) h (Nat.le_max_left n k)]
    exact gOrL_mono (gAm (Nat.le_max_right n k)) h1 (Nat.le_max_right n k))
  exact ⟨max (max n k) k', gCond_mono (gAm (Nat.le_max_left _ _)) hk (Nat.le_max_right _ _)⟩
theorem GC.det {D A : Nat} {R R' : zRs} (h : GC b E D A R) (h' : GC b E D A R') : R = R' := by
  obtain ⟨n, h⟩ := h
  obtain ⟨k, h'⟩ := h'
  have h1 := gCond_mono (gAm (Nat.le_max_left n k)) h (Nat.le_max_left n k)
  have h2 := gCond_mono (gAm (Nat.le_max_right n k)) h' (Nat.le_max_right n k)
  rw [h1] at h2
  exact Option.some.inj h2
end GRE
end
section
/-! the reference's reader of a condition, exact; printed with wip/gen/gen_t3.py -/
noncomputable def rG (σ : zSg) (a W : Nat) (b : Nat → Int) (P E D : Nat) (l : zSs) : Prop := rS σ a P E ∧ rb σ a = b ∧ σ.1 a 1 = .ref W ∧ W ≠ a ∧ q_r (σ.1 a 8) ≠ W ∧ σ.2.1 W = 2086 ∧ σ.1 a 13 = .int (Int32.ofNat D) ∧ D ≤ 6 ∧ σ.1 a 16 = .int (Int32.ofNat l.length) ∧ l.length ≤ 400 ∧ ∀ i x, l[i]? = some x → σ.1 W (1286 + 2 * i) = .int (Int32.ofNat x.1) ∧ σ.1 W (1287 + 2 * i) = .int (Int32.ofNat x.2)
noncomputable def rF (σ σ' : zSg) (a W : Nat) : Prop := σ'.2 = σ.2 ∧ ∀ c k, ¬ (c = a ∧ (k = 10 ∨ k = 12 ∨ k = 13 ∨ k = 16)) → ¬ (c = W ∧ 1286 ≤ k) → σ'.1 c k = σ.1 c k
noncomputable def rO (σ' : zSg) (a W : Nat) (b : Nat → Int) (E D : Nat) (l : zSs) (r : Int32) (R : zRs) : Prop := match R with
  | .inl (A1, m) => r.toInt ≠ 0 ∧ ∃ P', P' ≤ E ∧ zBl b E P' = A1 ∧ rG σ' a W b P' E D (l ++ m)
  | .inr F => r.toInt = 0 ∧ σ'.1 a 12 = .int (Int32.ofNat F)
section RGL
variable {σ τ υ : zSg} {a W P E D : Nat} {b : Nat → Int} {l : zSs}
theorem rF.rf : rF σ σ a W := ⟨rfl, fun _ _ _ _ => rfl⟩
theorem rF.tr (h1 : rF σ τ a W) (h2 : rF τ υ a W) : rF σ υ a W := ⟨h2.1.trans h1.1, fun c k q1 q2 => (h2.2 c k q1 q2).trans (h1.2 c k q1 q2)⟩
theorem rF.w {k : Nat} {v : Value} (h : k = 10 ∨ k = 12 ∨ k = 13 ∨ k = 16) : rF σ (q_w σ a k v) a W := ⟨rfl, fun c i q1 _ => q_w_ne (fun e1 e2 => q1 ⟨e1, by omega⟩)⟩
theorem rF.rs {K Q : Nat} : rF σ (q_rs σ a K Q) a W := (rF.w (Or.inl rfl)).tr (rF.w (Or.inr (Or.inl rfl)))
theorem rF.ww {k : Nat} {v : Value} (h : 1286 ≤ k) : rF σ (q_w σ W k v) a W := ⟨rfl, fun c i _ q2 => q_w_ne (fun e1 e2 => q2 ⟨e1, by omega⟩)⟩
/-- a write of the reader's own -/
theorem rG.w {k : Nat} {v : Value} (H : rG σ a W b P E D l) (h : k = 12) : rG (q_w σ a k v) a W b P E D l := by
  obtain ⟨h1, h2, h3, h4, h5, h6, h7, h8, h9, h10, h11⟩ := H
  subst h
  refine ⟨h1.bg, (rb_w h1.1 (by omega)).trans h2, ?_, h4, ?_, h6, ?_, h8, ?_, h10, fun i x hx => ?_⟩
  · rw [q_w_ne (fun _ q => by omega)]; exact h3
  · rw [q_w_ne (fun _ q => by omega)]; exact h5
  · rw [q_w_ne (fun _ q => by omega)]; exact h7
  · rw [q_w_ne (fun _ q => by omega)]; exact h9
  · rw [q_w_ne (fun q _ => h4 q), q_w_ne (fun q _ => h4 q)]; exact h11 i x hx
theorem rG.pt {K : Nat} (H : rG σ a W b P E D l) (h : K ≤ E) : rG (q_w σ a 10 (.int (Int32.ofNat K))) a W b K E D l := by
  obtain ⟨h1, h2, h3, h4, h5, h6, h7, h8, h9, h10, h11⟩ := H
  refine ⟨h1.pt h, (rb_w h1.1 (by omega)).trans h2, ?_, h4, ?_, h6, ?_, h8, ?_, h10, fun i x hx => ?_⟩
  · rw [q_w_ne (fun _ q => by omega)]; exact h3
  · rw [q_w_ne (fun _ q => by omega)]; exact h5
  · rw [q_w_ne (fun _ q => by omega)]; exact h7
  · rw [q_w_ne (fun _ q => by omega)]; exact h9
  · rw [q_w_ne (fun q _ => h4 q), q_w_ne (fun q _ => h4 q)]; exact h11 i x hx
theorem rG.rs {K Q : Nat} (H : rG σ a W b P E D l) (h : K ≤ E) : rG (q_rs σ a K Q) a W b K E D l := (H.pt h).w rfl
theorem rG.dp {K : Nat} (H : rG σ a W b P E D l) (h : K ≤ 6) : rG (q_w σ a 13 (.int (Int32.ofNat K))) a W b P E K l := by
  obtain ⟨h1, h2, h3, h4, h5, h6, h7, h8, h9, h10, h11⟩ := H
  obtain ⟨g1, g2, g3, g4, g5⟩ := h1
  refine ⟨⟨?_, ?_, ?_, g4, g5⟩, (rb_w g1 (by omega)).trans h2, ?_, h4, ?_, h6, q_w_at _ _ _ _, h, ?_, h10, fun i x hx => ?_⟩
  · rw [q_w_ne (fun _ q => by omega)]; exact g1
  · rw [q_w_ne (fun _ q => by omega)]; exact g2
  · rw [q_w_ne (fun _ q => by omega)]; exact g3
  · rw [q_w_ne (fun _ q => by omega)]; exact h3
  · rw [q_w_ne (fun _ q => by omega)]; exact h5
  · rw [q_w_ne (fun _ q => by omega)]; exact h9
  · rw [q_w_ne (fun q _ => h4 q), q_w_ne (fun q _ => h4 q)]; exact h11 i x hx
theorem rG.le (H : rG σ a W b P E D l) : P ≤ E ∧ E ≤ 400 := H.1.2.2.2
theorem rG.bl (H : rG σ a W b P E D l) : zBl b E P ≤ E := zBl_le H.le.1
theorem rG.nodp (H : rG σ a W b P E D l) : (q_i (σ.1 a 13)).toInt = (D : Int) := by
  have := H.2.2.2.2.2.2.2.1
  rw [H.2.2.2.2.2.2.1]
  exact o32 (by omega)
/-- a sign -/
theorem rG.sg {c r : Int32} (H : rG σ a W b P E D l) (G : p_206 a c σ r τ) : rF σ τ a W ∧ τ.1 a 12 = .int (Int32.ofNat (zBl b E P)) ∧ (r.toInt ≠ 0 → ts b E c.toInt (zBl b E P) = some (zBl b E (zBl b E P + 1)) ∧ rG τ a W b (zBl b E P + 1) E D l) ∧ (r.toInt = 0 → ts b E c.toInt (zBl b E P) = none ∧ rG τ a W b (zBl b E P) E D l) := by
  have hb := H.2.1
  have hB := H.bl
  have := G P E H.1
  rw [hb] at this
  rcases this with ⟨g1, g2, rfl⟩ | ⟨g1, g2, rfl⟩
  · refine ⟨rF.rs, q_rs_12, fun _ => ⟨?_, H.rs (by omega)⟩, fun q => absurd q g1⟩
    unfold ts
    rw [if_pos g2]
  · refine ⟨rF.rs, q_rs_12, fun q => absurd g1 q, fun _ => ⟨?_, H.rs hB⟩⟩
    unfold ts
    rw [if_neg g2]
/-- a word -/
theorem rG.ps {w : Nat} {s : List Int} {r : Int32} (H : rG σ a W b P E D l) (G : p_205 a w σ r τ) (hs : q_si w = s) (hn : s.length ≤ 100) : rF σ τ a W ∧ τ.1 a 12 = .int (Int32.ofNat (zBl b E P)) ∧ (r.toInt ≠ 0 → tw b E s (zBl b E P) = some (zBl b E (zBl b E P + s.length)) ∧ rG τ a W b (zBl b E P + s.length) E D l) ∧ (r.toInt = 0 → tw b E s (zBl b E P) = none ∧ rG τ a W b (zBl b E P) E D l) := by
  have hb := H.2.1
  have hB := H.bl
  have hl : (q_s w).length = s.length := by rw [← hs, q_si_len]
  have := G P E H.1 (by omega)
  rw [hb, hs, hl] at this
  rcases this with ⟨g1, g2, rfl⟩ | ⟨g1, g2, rfl⟩
  · have g3 : zBl b E P + s.length ≤ E := by
      have h9 : zRn b E 97 122 (zBl b E P) = zBl b E P + s.length := g2.1
      rw [← h9]
      exact zRn_le hB
    refine ⟨rF.rs, q_rs_12, fun _ => ⟨?_, H.rs g3⟩, fun q => absurd q g1⟩
    exact tw_pos g2
  · refine ⟨rF.rs, q_rs_12, fun q => absurd g1 q, fun _ => ⟨?_, H.rs hB⟩⟩
    exact tw_neg g2
/-- letters, then words asked for -/
theorem rG.lt (H : rG σ a W b P E D l) (G : p_203 a σ τ) : rF σ τ a W ∧ τ.1 a 12 = .int (Int32.ofNat (zBl b E P)) ∧ τ.1 a 10 = .int (Int32.ofNat (zLt b E (zBl b E P))) ∧ rG τ a W b (zLt b E (zBl b E P)) E D l := by
  have := G P E H.1
  rw [H.2.1] at this
  subst this
  exact ⟨rF.rs, q_rs_12, q_rs_10, H.rs (zRn_le H.bl)⟩
theorem rG.wd {w A : Nat} {s : List Int} {r : Int32} (H : rG τ a W b (zLt b E A) E D l) (h12 : τ.1 a 12 = .int (Int32.ofNat A)) (G : p_204 a w τ r υ) (hs : q_si w = s) (hn : s.length ≤ 100) : υ = τ ∧ (r.toInt ≠ 0 → zWa b E s A ∧ tw b E s A = some (zBl b E (zLt b E A))) ∧ (r.toInt = 0 → tw b E s A = none) := by
  have hl : (q_s w).length = s.length := by rw [← hs, q_si_len]
  have h9 := G.2 _ A E H.1 h12 zRn_ge (by omega)
  rw [H.2.1, hs] at h9
  refine ⟨G.1, fun q => ?_, fun q => ?_⟩
  · have q1 : zWa b E s A := h9.mp q
    refine ⟨q1, ?_⟩
    rw [tw_pos q1, ← show zLt b E A = A + s.length from q1.1]
  · exact tw_neg (fun q1 => (h9.mpr q1) q)
end RGL
noncomputable def p_221 (a : Nat) (x y : Int32) (σ σ' : zSg) : Prop := ∀ W b P E D l, rG σ a W b P E D l → rF σ σ' a W ∧ σ'.1 a 12 = σ.1 a 12 ∧ ∀ m n : Nat, x = Int32.ofNat m → y = Int32.ofNat n → rG σ' a W b P E D (l ++ [(m, n)])
theorem zEmm {s : Nat} (h : s ≤ 400) : (Int32.ofInt 1286 + Int32.ofInt 2 * Int32.ofNat s).toInt = 1286 + 2 * (s : Int) := by
  have e : (Int32.ofInt 2 * Int32.ofNat s).toInt = 2 * (s : Int) := by
    rw [Int32.toInt_mul, zI_c (by omega) (by omega), o32 (by omega)]
    exact z_bm (by omega) (by omega)
  exact zI_add (zI_c (by omega) (by omega)) e (by omega) (by omega)
theorem sp_221_e (a0 : Nat) (a1 : Int32) (a2 : Int32) (σ : zSg) (h1 : 0 ≤ ((Int32.ofInt (1286)) + ((Int32.ofInt (2)) * (q_i (σ.1 a0 16)))).toInt ∧ ((Int32.ofInt (1286)) + ((Int32.ofInt (2)) * (q_i (σ.1 a0 16)))).toInt < (σ.2.1 (q_r (σ.1 a0 1)) : Int)) (h2 : 0 ≤ (((Int32.ofInt (1286)) + ((Int32.ofInt (2)) * (q_i ((q_w σ (q_r (σ.1 a0 1)) ((Int32.ofInt (1286)) + ((Int32.ofInt (2)) * (q_i (σ.1 a0 16)))).toNatClampNeg (.int a1)).1 a0 16)))) + (Int32.ofInt (1))).toInt ∧ (((Int32.ofInt (1286)) + ((Int32.ofInt (2)) * (q_i ((q_w σ (q_r (σ.1 a0 1)) ((Int32.ofInt (1286)) + ((Int32.ofInt (2)) * (q_i (σ.1 a0 16)))).toNatClampNeg (.int a1)).1 a0 16)))) + (Int32.ofInt (1))).toInt < ((q_w σ (q_r (σ.1 a0 1)) ((Int32.ofInt (1286)) + ((Int32.ofInt (2)) * (q_i (σ.1 a0 16)))).toNatClampNeg (.int a1)).2.1 (q_r ((q_w σ (q_r (σ.1 a0 1)) ((Int32.ofInt (1286)) + ((Int32.ofInt (2)) * (q_i (σ.1 a0 16)))).toNatClampNeg (.int a1)).1 a0 1)) : Int)) :
    p_221 (a0) (a1) (a2) σ (q_w (q_w (q_w σ (q_r (σ.1 a0 1)) ((Int32.ofInt (1286)) + ((Int32.ofInt (2)) * (q_i (σ.1 a0 16)))).toNatClampNeg (.int a1)) (q_r ((q_w σ (q_r (σ.1 a0 1)) ((Int32.ofInt (1286)) + ((Int32.ofInt (2)) * (q_i (σ.1 a0 16)))).toNatClampNeg (.int a1)).1 a0 1)) (((Int32.ofInt (1286)) + ((Int32.ofInt (2)) * (q_i ((q_w σ (q_r (σ.1 a0 1)) ((Int32.ofInt (1286)) + ((Int32.ofInt (2)) * (q_i (σ.1 a0 16)))).toNatClampNeg (.int a1)).1 a0 16)))) + (Int32.ofInt (1))).toNatClampNeg (.int a2)) a0 16 (.int ((q_i ((q_w (q_w σ (q_r (σ.1 a0 1)) ((Int32.ofInt (1286)) + ((Int32.ofInt (2)) * (q_i (σ.1 a0 16)))).toNatClampNeg (.int a1)) (q_r ((q_w σ (q_r (σ.1 a0 1)) ((Int32.ofInt (1286)) + ((Int32.ofInt (2)) * (q_i (σ.1 a0 16)))).toNatClampNeg (.int a1)).1 a0 1)) (((Int32.ofInt (1286)) + ((Int32.ofInt (2)) * (q_i ((q_w σ (q_r (σ.1 a0 1)) ((Int32.ofInt (1286)) + ((Int32.ofInt (2)) * (q_i (σ.1 a0 16)))).toNatClampNeg (.int a1)).1 a0 16)))) + (Int32.ofInt (1))).toNatClampNeg (.int a2)).1 a0 16)) + (Int32.ofInt (1))))) := by
  intro W b P E D l H
  obtain ⟨g1, g2, g3, g4, g5, g6, g7, g8, g9, g10, g11⟩ := id H
  have e1 := zEmm g10
  have n1 : (Int32.ofInt 1286 + Int32.ofInt 2 * Int32.ofNat l.length).toNatClampNeg = 1286 + 2 * l.length := znat (by rw [e1]; omega)
  have e2 : (Int32.ofInt 1286 + Int32.ofInt 2 * Int32.ofNat l.length + Int32.ofInt 1).toInt = 1287 + 2 * (l.length : Int) := by
    rw [zI_add e1 (zI_c (by omega) (by omega)) (by omega) (by omega)]
    omega
  have n2 : (Int32.ofInt 1286 + Int32.ofInt 2 * Int32.ofNat l.length + Int32.ofInt 1).toNatClampNeg = 1287 + 2 * l.length := znat (by rw [e2]; omega)
  have q16 : q_i (σ.1 a0 16) = Int32.ofNat l.length := by rw [g9]; rfl
  have q1 : q_r (σ.1 a0 1) = W := by rw [g3]; rfl
  have ne : a0 = W → False := fun q => g4 q.symm
  simp only [q16, q1, n1] at h2 ⊢
  have r16 : q_i ((q_w σ W (1286 + 2 * l.length) (.int a1)).1 a0 16) = Int32.ofNat l.length := by rw [q_w_ne (fun q _ => ne q)]; exact q16
  have r1 : q_r ((q_w σ W (1286 + 2 * l.length) (.int a1)).1 a0 1) = W := by rw [q_w_ne (fun q _ => ne q)]; exact q1
  simp only [r16, r1, e2] at h2
  simp only [r16, r1, n2]
  have hl : l.length < 400 := by
    have h9 := h2.2
    rw [q_w_2, g6] at h9
    omega
  have s16 : q_i ((q_w (q_w σ W (1286 + 2 * l.length) (.int a1)) W (1287 + 2 * l.length) (.int a2)).1 a0 16) = Int32.ofNat l.length := by rw [q_w_ne (fun q _ => ne q)]; exact r16
  simp only [s16, o32i (show l.length ≤ 900 by omega)]
  refine ⟨((rF.ww (by omega)).tr (rF.ww (by omega))).tr (rF.w (by omega)), ?_, fun x y hx hy => ?_⟩
  · rw [q_w_ne (fun _ q => by omega), q_w_ne (fun q _ => ne q), q_w_ne (fun q _ => ne q)]
  · subst hx
    subst hy
    have go : ∀ c k, c ≠ W → ¬ (c = a0 ∧ k = 16) → (q_w (q_w (q_w σ W (1286 + 2 * l.length) (.int (Int32.ofNat x))) W (1287 + 2 * l.length) (.int (Int32.ofNat y))) a0 16 (.int (Int32.ofNat (l.length + 1)))).1 c k = σ.1 c k := by
      intro c k q1 q2
      rw [q_w_ne (fun e1 e2 => q2 ⟨e1, e2⟩), q_w_ne (fun e1 _ => q1 e1), q_w_ne (fun e1 _ => q1 e1)]
    have gw : ∀ k, (q_w (q_w (q_w σ W (1286 + 2 * l.length) (.int (Int32.ofNat x))) W (1287 + 2 * l.length) (.int (Int32.ofNat y))) a0 16 (.int (Int32.ofNat (l.length + 1)))).1 W k = if k = 1287 + 2 * l.length then .int (Int32.ofNat y) else if k = 1286 + 2 * l.length then .int (Int32.ofNat x) else σ.1 W k := by
      intro k
      rw [q_w_ne (fun e1 _ => g4 e1)]
      by_cases hk : k = 1287 + 2 * l.length
      · rw [if_pos hk, hk, q_w_at]
      · rw [if_neg hk, q_w_ne (fun _ e2 => hk e2)]
        by_cases hk2 : k = 1286 + 2 * l.length
        · rw [if_pos hk2, hk2, q_w_at]
        · rw [if_neg hk2, q_w_ne (fun _ e2 => hk2 e2)]
    obtain ⟨f1, f2, f3, f4, f5⟩ := g1
    refine ⟨⟨?_, ?_, ?_, f4, f5⟩, ?_, ?_, g4, ?_, g6, ?_, g8, ?_, ?_, fun i z hz => ?_⟩
    · rw [go _ _ (fun q => ne q) (fun q => by omega)]; exact f1
    · rw [go _ _ (fun q => ne q) (fun q => by omega)]; exact f2
    · rw [go _ _ (fun q => ne q) (fun q => by omega)]; exact f3
    · rw [← g2]
      funext i
      unfold rb
      rw [go a0 8 (fun q => ne q) (fun q => by omega), go _ _ g5 (fun q => f1 q.1)]
    · rw [go _ _ (fun q => ne q) (fun q => by omega)]; exact g3
    · rw [go _ _ (fun q => ne q) (fun q => by omega)]; exact g5
    · rw [go _ _ (fun q => ne q) (fun q => by omega)]; exact g7
    · rw [q_w_at, List.length_append]; rfl
    · rw [List.length_append]; show l.length + 1 ≤ 400; omega
    · rw [gw, gw]
      by_cases hi : i < l.length
      · rw [List.getElem?_append_left hi] at hz
        rw [if_neg (by omega), if_neg (by omega), if_neg (by omega), if_neg (by omega)]
        exact g11 i z hz
      · rw [List.getElem?_append_right (by omega)] at hz
        have hi2 : i = l.length := by
          cases hd : i - l.length with
          | zero => omega
          | succ n => rw [hd] at hz; simp at hz
        subst hi2
        rw [Nat.sub_self] at hz
        cases hz
        rw [if_neg (by omega), if_pos rfl, if_pos rfl]
        exact ⟨rfl, rfl⟩
noncomputable def qP_221 : zPp := fun as σ o σ' => match as with
  | [a0, a1, a2] => o = .inl none ∧ p_221 (q_r a0) (q_i a1) (q_i a2) σ σ'
  | _ => True
set_option maxRecDepth 100000 in
theorem sp_221 {sx : zX}  : zEe sx 221 3 qP_221 := by
  refine zfle zJ_221 (sps := []) (fun q hq => absurd hq List.not_mem_nil) (fun as σ hl => ?_)
  match as, hl with
  | [a0, a1, a2], _ =>
  refine ⟨[], 400, ?_, ?_⟩
  · exact fun q hq => absurd hq List.not_mem_nil
  · refine fun h1 => ?_
    refine fun h2 => ?_
    exact ⟨rfl, sp_221_e (q_r a0) (q_i a1) (q_i a2) σ (q_inp h1) (q_inp h2)⟩
theorem qsi_50 : q_si (zB + 50) = wFamily := by decide +kernel
theorem qsi_57 : q_si (zB + 57) = wHour := by decide +kernel
theorem qsi_58 : q_si (zB + 58) = wHeat := by decide +kernel
theorem qsi_59 : q_si (zB + 59) = wDirt := by decide +kernel
theorem qsi_60 : q_si (zB + 60) = wQuarrel := by decide +kernel
theorem qsi_49 : q_si (zB + 49) = wLeft := by decide +kernel
theorem qsi_61 : q_si (zB + 61) = wNight := by decide +kernel
theorem qsi_62 : q_si (zB + 62) = wWished := by decide +kernel
theorem qsi_63 : q_si (zB + 63) = wNot := by decide +kernel
theorem qsi_64 : q_si (zB + 64) = wAnd := by decide +kernel
theorem qsi_65 : q_si (zB + 65) = wOr := by decide +kernel
noncomputable def p_222 (a : Nat) (σ : zSg) (r : Int32) (σ' : zSg) : Prop := ∀ W b P E D l, rG σ a W b P E D l → rF σ σ' a W ∧ rO σ' a W b E D l r (gPart b E (zBl b E P))
theorem zLt_ne {b : Nat → Int} {E A : Nat} (h : zLt b E A ≠ A) : ¬ (A < E ∧ 48 ≤ b A ∧ b A ≤ 57) := by
  intro q
  have h1 : A < zLt b E A := Nat.lt_of_le_of_ne zRn_ge (fun e => h e.symm)
  have := zRn_in (b := b) (E := E) (lo := 97) (hi := 122) (P := A) (Nat.le_refl A) h1
  omega
theorem zDe_0 {b : Nat → Int} {E A : Nat} {lo hi : Int} (h : ¬ (A < E ∧ 48 ≤ b A ∧ b A ≤ 57)) : zNm b E lo hi A = -1 := by
  unfold zNm
  rw [show zDe b E A = A from zRn_f h, Nat.sub_self, if_neg (by omega)]
theorem zNm_ge {b : Nat → Int} {E A : Nat} {lo hi : Int} (h : zNm b E lo hi A ≠ -1) : 0 ≤ zNm b E lo hi A ∧ zNm b E lo hi A ≤ 1110 := by
  unfold zNm at h ⊢
  split at h
  · next hc =>
    rw [if_pos hc]
    exact zDv_in _ (by have := zRn_ge (b := b) (E := E) (lo := 48) (hi := 57) (P := A); show A + (zDe b E A - A) ≤ zDe b E A; have e : zDe b E A = zRn b E 48 57 A := rfl; omega)
  · exact absurd rfl h
theorem gPart_w {b : Nat → Int} {E A A1 c : Nat} (h : ¬ (A < E ∧ 48 ≤ b A ∧ b A ≤ 57)) (h1 : tws b E A [wFamily, wHour, wHeat, wDirt, wQuarrel, wLeft] 0 = some (A1, c)) : gPart b E A = .inl (A1, [(c, 0)]) := by
  unfold gPart
  rw [if_neg h, h1]
theorem gPart_n {b : Nat → Int} {E A : Nat} (h : ¬ (A < E ∧ 48 ≤ b A ∧ b A ≤ 57)) (h1 : tws b E A [wFamily, wHour, wHeat, wDirt, wQuarrel, wLeft] 0 = none) : gPart b E A = .inr A := by
  unfold gPart
  rw [if_neg h, h1]
theorem tw_0 {b : Nat → Int} {E A : Nat} {s : List Int} (h : zLt b E A = A) (hs : 0 < s.length) : tw b E s A = none := by
  exact tw_neg (fun q => by have h9 : zLt b E A = A + s.length := q.1; omega)
theorem sp_222_ettttttt (a0 : Nat) (σ : zSg) (τ1 : zSg) (τ3 : zSg) (r3 : Int32) (τ5 : zSg) (r5 : Int32) (τ7 : zSg) (r7 : Int32) (τ9 : zSg) (r9 : Int32) (τ11 : zSg) (r11 : Int32) (τ13 : zSg) (r13 : Int32) (τ15 : zSg) (g1 : p_203 a0 σ τ1) (h2 : (q_i (τ1.1 a0 10)).toInt ≠ (q_i (τ1.1 a0 12)).toInt) (g3 : p_204 a0 (zB + 50) τ1 r3 τ3) (h4 : r3.toInt = (0 : Int)) (g5 : p_204 a0 (zB + 57) τ3 r5 τ5) (h6 : r5.toInt = (0 : Int)) (g7 : p_204 a0 (zB + 58) τ5 r7 τ7) (h8 : r7.toInt = (0 : Int)) (g9 : p_204 a0 (zB + 59) τ7 r9 τ9) (h10 : r9.toInt = (0 : Int)) (g11 : p_204 a0 (zB + 60) τ9 r11 τ11) (h12 : r11.toInt = (0 : Int)) (g13 : p_204 a0 (zB + 49) τ11 r13 τ13) (h14 : r13.toInt = (0 : Int)) (g15 : p_221 a0 (Int32.ofInt (-1)) (Int32.ofInt (0)) τ13 τ15) :
    p_222 (a0) σ (Int32.ofInt (0)) τ15 := by
  intro W b P E D l H
  obtain ⟨f0, t12, t10, H0⟩ := H.lt g1
  have hz : zLt b E (zBl b E P) ≠ zBl b E P := by
    intro q
    rw [t10, t12, q] at h2
    exact h2 rfl
  have hd := zLt_ne hz
  obtain ⟨rfl, u0, v0⟩ := H0.wd t12 g3 qsi_50 (by decide)
  obtain ⟨rfl, u1, v1⟩ := H0.wd t12 g5 qsi_57 (by decide)
  obtain ⟨rfl, u2, v2⟩ := H0.wd t12 g7 qsi_58 (by decide)
  obtain ⟨rfl, u3, v3⟩ := H0.wd t12 g9 qsi_59 (by decide)
  obtain ⟨rfl, u4, v4⟩ := H0.wd t12 g11 qsi_60 (by decide)
  obtain ⟨rfl, u5, v5⟩ := H0.wd t12 g13 qsi_49 (by decide)
  have e0 := v0 h4
  have e1 := v1 h6
  have e2 := v2 h8
  have e3 := v3 h10
  have e4 := v4 h12
  have e5 := v5 h14
  have hp : gPart b E (zBl b E P) = .inr (zBl b E P) := gPart_n hd (by simp only [tws, e0, e1, e2, e3, e4, e5])
  obtain ⟨f1, s12, -⟩ := g15 W b _ E D l H0
  refine ⟨f0.tr f1, ?_⟩
  rw [hp]
  exact ⟨rfl, s12.trans t12⟩
theorem sp_222_ettttttf (a0 : Nat) (σ : zSg) (τ1 : zSg) (τ3 : zSg) (r3 : Int32) (τ5 : zSg) (r5 : Int32) (τ7 : zSg) (r7 : Int32) (τ9 : zSg) (r9 : Int32) (τ11 : zSg) (r11 : Int32) (τ13 : zSg) (r13 : Int32) (τ17 : zSg) (g1 : p_203 a0 σ τ1) (h2 : (q_i (τ1.1 a0 10)).toInt ≠ (q_i (τ1.1 a0 12)).toInt) (g3 : p_204 a0 (zB + 50) τ1 r3 τ3) (h4 : r3.toInt = (0 : Int)) (g5 : p_204 a0 (zB + 57) τ3 r5 τ5) (h6 : r5.toInt = (0 : Int)) (g7 : p_204 a0 (zB + 58) τ5 r7 τ7) (h8 : r7.toInt = (0 : Int)) (g9 : p_204 a0 (zB + 59) τ7 r9 τ9) (h10 : r9.toInt = (0 : Int)) (g11 : p_204 a0 (zB + 60) τ9 r11 τ11) (h12 : r11.toInt = (0 : Int)) (g13 : p_204 a0 (zB + 49) τ11 r13 τ13) (h14 : r13.toInt ≠ (0 : Int)) (g17 : p_221 a0 (Int32.ofInt (5)) (Int32.ofInt (0)) τ13 τ17) :
    p_222 (a0) σ (Int32.ofInt (1)) τ17 := by
  intro W b P E D l H
  obtain ⟨f0, t12, t10, H0⟩ := H.lt g1
  have hz : zLt b E (zBl b E P) ≠ zBl b E P := by
    intro q
    rw [t10, t12, q] at h2
    exact h2 rfl
  have hd := zLt_ne hz
  obtain ⟨rfl, u0, v0⟩ := H0.wd t12 g3 qsi_50 (by decide)
  obtain ⟨rfl, u1, v1⟩ := H0.wd t12 g5 qsi_57 (by decide)
  obtain ⟨rfl, u2, v2⟩ := H0.wd t12 g7 qsi_58 (by decide)
  obtain ⟨rfl, u3, v3⟩ := H0.wd t12 g9 qsi_59 (by decide)
  obtain ⟨rfl, u4, v4⟩ := H0.wd t12 g11 qsi_60 (by decide)
  obtain ⟨rfl, u5, v5⟩ := H0.wd t12 g13 qsi_49 (by decide)
  have e0 := v0 h4
  have e1 := v1 h6
  have e2 := v2 h8
  have e3 := v3 h10
  have e4 := v4 h12
  have e5 := (u5 h14).2
  have hp : gPart b E (zBl b E P) = .inl (zBl b E (zLt b E (zBl b E P)), [(5, 0)]) := gPart_w hd (by simp only [tws, e0, e1, e2, e3, e4, e5])
  obtain ⟨f1, -, H1⟩ := g17 W b _ E D l H0
  refine ⟨f0.tr f1, ?_⟩
  rw [hp]
  exact ⟨by decide, _, H0.le.1, rfl, H1 5 0 rfl rfl⟩
theorem sp_222_etttttf (a0 : Nat) (σ : zSg) (τ1 : zSg) (τ3 : zSg) (r3 : Int32) (τ5 : zSg) (r5 : Int32) (τ7 : zSg) (r7 : Int32) (τ9 : zSg) (r9 : Int32) (τ11 : zSg) (r11 : Int32) (τ19 : zSg) (g1 : p_203 a0 σ τ1) (h2 : (q_i (τ1.1 a0 10)).toInt ≠ (q_i (τ1.1 a0 12)).toInt) (g3 : p_204 a0 (zB + 50) τ1 r3 τ3) (h4 : r3.toInt = (0 : Int)) (g5 : p_204 a0 (zB + 57) τ3 r5 τ5) (h6 : r5.toInt = (0 : Int)) (g7 : p_204 a0 (zB + 58) τ5 r7 τ7) (h8 : r7.toInt = (0 : Int)) (g9 : p_204 a0 (zB + 59) τ7 r9 τ9) (h10 : r9.toInt = (0 : Int)) (g11 : p_204 a0 (zB + 60) τ9 r11 τ11) (h12 : r11.toInt ≠ (0 : Int)) (g19 : p_221 a0 (Int32.ofInt (4)) (Int32.ofInt (0)) τ11 τ19) :
    p_222 (a0) σ (Int32.ofInt (1)) τ19 := by
  intro W b P E D l H
  obtain ⟨f0, t12, t10, H0⟩ := H.lt g1
  have hz : zLt b E (zBl b E P) ≠ zBl b E P := by
    intro q
    rw [t10, t12, q] at h2
    exact h2 rfl
  have hd := zLt_ne hz
  obtain ⟨rfl, u0, v0⟩ := H0.wd t12 g3 qsi_50 (by decide)
  obtain ⟨rfl, u1, v1⟩ := H0.wd t12 g5 qsi_57 (by decide)
  obtain ⟨rfl, u2, v2⟩ := H0.wd t12 g7 qsi_58 (by decide)
  obtain ⟨rfl, u3, v3⟩ := H0.wd t12 g9 qsi_59 (by decide)
  obtain ⟨rfl, u4, v4⟩ := H0.wd t12 g11 qsi_60 (by decide)
  have e0 := v0 h4
  have e1 := v1 h6
  have e2 := v2 h8
  have e3 := v3 h10
  have e4 := (u4 h12).2
  have hp : gPart b E (zBl b E P) = .inl (zBl b E (zLt b E (zBl b E P)), [(4, 0)]) := gPart_w hd (by simp only [tws, e0, e1, e2, e3, e4])
  obtain ⟨f1, -, H1⟩ := g19 W b _ E D l H0
  refine ⟨f0.tr f1, ?_⟩
  rw [hp]
  exact ⟨by decide, _, H0.le.1, rfl, H1 4 0 rfl rfl⟩
theorem sp_222_ettttf (a0 : Nat) (σ : zSg) (τ1 : zSg) (τ3 : zSg) (r3 : Int32) (τ5 : zSg) (r5 : Int32) (τ7 : zSg) (r7 : Int32) (τ9 : zSg) (r9 : Int32) (τ21 : zSg) (g1 : p_203 a0 σ τ1) (h2 : (q_i (τ1.1 a0 10)).toInt ≠ (q_i (τ1.1 a0 12)).toInt) (g3 : p_204 a0 (zB + 50) τ1 r3 τ3) (h4 : r3.toInt = (0 : Int)) (g5 : p_204 a0 (zB + 57) τ3 r5 τ5) (h6 : r5.toInt = (0 : Int)) (g7 : p_204 a0 (zB + 58) τ5 r7 τ7) (h8 : r7.toInt = (0 : Int)) (g9 : p_204 a0 (zB + 59) τ7 r9 τ9) (h10 : r9.toInt ≠ (0 : Int)) (g21 : p_221 a0 (Int32.ofInt (3)) (Int32.ofInt (0)) τ9 τ21) :
    p_222 (a0) σ (Int32.ofInt (1)) τ21 := by
  intro W b P E D l H
  obtain ⟨f0, t12, t10, H0⟩ := H.lt g1
  have hz : zLt b E (zBl b E P) ≠ zBl b E P := by
    intro q
    rw [t10, t12, q] at h2
    exact h2 rfl
  have hd := zLt_ne hz
  obtain ⟨rfl, u0, v0⟩ := H0.wd t12 g3 qsi_50 (by decide)
  obtain ⟨rfl, u1, v1⟩ := H0.wd t12 g5 qsi_57 (by decide)
  obtain ⟨rfl, u2, v2⟩ := H0.wd t12 g7 qsi_58 (by decide)
  obtain ⟨rfl, u3, v3⟩ := H0.wd t12 g9 qsi_59 (by decide)
  have e0 := v0 h4
  have e1 := v1 h6
  have e2 := v2 h8
  have e3 := (u3 h10).2
  have hp : gPart b E (zBl b E P) = .inl (zBl b E (zLt b E (zBl b E P)), [(3, 0)]) := gPart_w hd (by simp only [tws, e0, e1, e2, e3])
  obtain ⟨f1, -, H1⟩ := g21 W b _ E D l H0
  refine ⟨f0.tr f1, ?_⟩
  rw [hp]
  exact ⟨by decide, _, H0.le.1, rfl, H1 3 0 rfl rfl⟩
theorem sp_222_etttf (a0 : Nat) (σ : zSg) (τ1 : zSg) (τ3 : zSg) (r3 : Int32) (τ5 : zSg) (r5 : Int32) (τ7 : zSg) (r7 : Int32) (τ23 : zSg) (g1 : p_203 a0 σ τ1) (h2 : (q_i (τ1.1 a0 10)).toInt ≠ (q_i (τ1.1 a0 12)).toInt) (g3 : p_204 a0 (zB + 50) τ1 r3 τ3) (h4 : r3.toInt = (0 : Int)) (g5 : p_204 a0 (zB + 57) τ3 r5 τ5) (h6 : r5.toInt = (0 : Int)) (g7 : p_204 a0 (zB + 58) τ5 r7 τ7) (h8 : r7.toInt ≠ (0 : Int)) (g23 : p_221 a0 (Int32.ofInt (2)) (Int32.ofInt (0)) τ7 τ23) :
    p_222 (a0) σ (Int32.ofInt (1)) τ23 := by
  intro W b P E D l H
  obtain ⟨f0, t12, t10, H0⟩ := H.lt g1
  have hz : zLt b E (zBl b E P) ≠ zBl b E P := by
    intro q
    rw [t10, t12, q] at h2
    exact h2 rfl
  have hd := zLt_ne hz
  obtain ⟨rfl, u0, v0⟩ := H0.wd t12 g3 qsi_50 (by decide)
  obtain ⟨rfl, u1, v1⟩ := H0.wd t12 g5 qsi_57 (by decide)
  obtain ⟨rfl, u2, v2⟩ := H0.wd t12 g7 qsi_58 (by decide)
  have e0 := v0 h4
  have e1 := v1 h6
  have e2 := (u2 h8).2
  have hp : gPart b E (zBl b E P) = .inl (zBl b E (zLt b E (zBl b E P)), [(2, 0)]) := gPart_w hd (by simp only [tws, e0, e1, e2])
  obtain ⟨f1, -, H1⟩ := g23 W b _ E D l H0
  refine ⟨f0.tr f1, ?_⟩
  rw [hp]
  exact ⟨by decide, _, H0.le.1, rfl, H1 2 0 rfl rfl⟩
theorem sp_222_ettf (a0 : Nat) (σ : zSg) (τ1 : zSg) (τ3 : zSg) (r3 : Int32) (τ5 : zSg) (r5 : Int32) (τ25 : zSg) (g1 : p_203 a0 σ τ1) (h2 : (q_i (τ1.1 a0 10)).toInt ≠ (q_i (τ1.1 a0 12)).toInt) (g3 : p_204 a0 (zB + 50) τ1 r3 τ3) (h4 : r3.toInt = (0 : Int)) (g5 : p_204 a0 (zB + 57) τ3 r5 τ5) (h6 : r5.toInt ≠ (0 : Int)) (g25 : p_221 a0 (Int32.ofInt (1)) (Int32.ofInt (0)) τ5 τ25) :
    p_222 (a0) σ (Int32.ofInt (1)) τ25 := by
  intro W b P E D l H
  obtain ⟨f0, t12, t10, H0⟩ := H.lt g1
  have hz : zLt b E (zBl b E P) ≠ zBl b E P := by
    intro q
    rw [t10, t12, q] at h2
    exact h2 rfl
  have hd := zLt_ne hz
  obtain ⟨rfl, u0, v0⟩ := H0.wd t12 g3 qsi_50 (by decide)
  obtain ⟨rfl, u1, v1⟩ := H0.wd t12 g5 qsi_57 (by decide)
  have e0 := v0 h4
  have e1 := (u1 h6).2
  have hp : gPart b E (zBl b E P) = .inl (zBl b E (zLt b E (zBl b E P)), [(1, 0)]) := gPart_w hd (by simp only [tws, e0, e1])
  obtain ⟨f1, -, H1⟩ := g25 W b _ E D l H0
  refine ⟨f0.tr f1, ?_⟩
  rw [hp]
  exact ⟨by decide, _, H0.le.1, rfl, H1 1 0 rfl rfl⟩
theorem sp_222_etf (a0 : Nat) (σ : zSg) (τ1 : zSg) (τ3 : zSg) (r3 : Int32) (τ27 : zSg) (g1 : p_203 a0 σ τ1) (h2 : (q_i (τ1.1 a0 10)).toInt ≠ (q_i (τ1.1 a0 12)).toInt) (g3 : p_204 a0 (zB + 50) τ1 r3 τ3) (h4 : r3.toInt ≠ (0 : Int)) (g27 : p_221 a0 (Int32.ofInt (0)) (Int32.ofInt (0)) τ3 τ27) :
    p_222 (a0) σ (Int32.ofInt (1)) τ27 := by
  intro W b P E D l H
  obtain ⟨f0, t12, t10, H0⟩ := H.lt g1
  have hz : zLt b E (zBl b E P) ≠ zBl b E P := by
    intro q
    rw [t10, t12, q] at h2
    exact h2 rfl
  have hd := zLt_ne hz
  obtain ⟨rfl, u0, v0⟩ := H0.wd t12 g3 qsi_50 (by decide)
  have e0 := (u0 h4).2
  have hp : gPart b E (zBl b E P) = .inl (zBl b E (zLt b E (zBl b E P)), [(0, 0)]) := gPart_w hd (by simp only [tws, e0])
  obtain ⟨f1, -, H1⟩ := g27 W b _ E D l H0
  refine ⟨f0.tr f1, ?_⟩
  rw [hp]
  exact ⟨by decide, _, H0.le.1, rfl, H1 0 0 rfl rfl⟩
theorem sp_222_eft (a0 : Nat) (σ : zSg) (τ1 : zSg) (τ29 : zSg) (r29 : Int32) (τ30 : zSg) (g1 : p_203 a0 σ τ1) (h2 : (q_i (τ1.1 a0 10)).toInt = (q_i (τ1.1 a0 12)).toInt) (g29 : p_207 a0 (Int32.ofInt (0)) (Int32.ofInt (999)) τ1 r29 τ29) (g30 : p_221 a0 (Int32.ofInt (8)) r29 τ29 τ30) (h31 : r29.toInt < (0 : Int)) :
    p_222 (a0) σ (Int32.ofInt (0)) τ30 := by
  intro W b P E D l H
  obtain ⟨f0, t12, t10, H0⟩ := H.lt g1
  have hB := H.bl
  have hE := H.le.2
  have hz : zLt b E (zBl b E P) = zBl b E P := by
    rw [t10, t12] at h2
    have h9 : (Int32.ofNat (zLt b E (zBl b E P))).toInt = (Int32.ofNat (zBl b E P)).toInt := h2
    have := zRn_le (b := b) (lo := 97) (hi := 122) hB
    have e9 : zLt b E (zBl b E P) = zRn b E 97 122 (zBl b E P) := rfl
    rw [o32 (by omega), o32 (by omega)] at h9
    omega
  have g9 := g29 _ E H0.1
  rw [H0.2.1, hz, zBl_bl] at g9
  obtain ⟨g8, rfl⟩ := g9
  have c9 : (Int32.ofInt 999).toInt = 999 := rfl
  have c0 : (Int32.ofInt 0).toInt = 0 := rfl
  rw [c0, c9] at g8
  have H1 := H0.rs (K := zDe b E (zBl b E P)) (Q := zBl b E P) (zRn_le hB)
  obtain ⟨f1, s12, K1⟩ := g30 W b _ E D l H1
  refine ⟨(f0.tr rF.rs).tr f1, ?_⟩
  by_cases hd : zBl b E P < E ∧ 48 ≤ b (zBl b E P) ∧ b (zBl b E P) ≤ 57
  · have hn : tn b E 0 999 (zBl b E P) = none := by
      unfold tn
      rw [if_neg (by omega)]
    have hp : gPart b E (zBl b E P) = .inr (zBl b E P) := by
      unfold gPart
      rw [if_pos hd, hn]
    rw [hp]
    exact ⟨rfl, s12.trans q_rs_12⟩
  · have hp : gPart b E (zBl b E P) = .inr (zBl b E P) := gPart_n hd (by simp only [tws, tw_0 hz (show 0 < wFamily.length by decide), tw_0 hz (show 0 < wHour.length by decide), tw_0 hz (show 0 < wHeat.length by decide), tw_0 hz (show 0 < wDirt.length by decide), tw_0 hz (show 0 < wQuarrel.length by decide), tw_0 hz (show 0 < wLeft.length by decide)])
    rw [hp]
    exact ⟨rfl, s12.trans q_rs_12⟩
theorem sp_222_eff (a0 : Nat) (σ : zSg) (τ1 : zSg) (τ29 : zSg) (r29 : Int32) (τ30 : zSg) (g1 : p_203 a0 σ τ1) (h2 : (q_i (τ1.1 a0 10)).toInt = (q_i (τ1.1 a0 12)).toInt) (g29 : p_207 a0 (Int32.ofInt (0)) (Int32.ofInt (999)) τ1 r29 τ29) (g30 : p_221 a0 (Int32.ofInt (8)) r29 τ29 τ30) (h31 : r29.toInt ≥ (0 : Int)) :
    p_222 (a0) σ (Int32.ofInt (1)) τ30 := by
  intro W b P E D l H
  obtain ⟨f0, t12, t10, H0⟩ := H.lt g1
  have hB := H.bl
  have hE := H.le.2
  have hz : zLt b E (zBl b E P) = zBl b E P := by
    rw [t10, t12] at h2
    have h9 : (Int32.ofNat (zLt b E (zBl b E P))).toInt = (Int32.ofNat (zBl b E P)).toInt := h2
    have := zRn_le (b := b) (lo := 97) (hi := 122) hB
    have e9 : zLt b E (zBl b E P) = zRn b E 97 122 (zBl b E P) := rfl
    rw [o32 (by omega), o32 (by omega)] at h9
    omega
  have g9 := g29 _ E H0.1
  rw [H0.2.1, hz, zBl_bl] at g9
  obtain ⟨g8, rfl⟩ := g9
  have c9 : (Int32.ofInt 999).toInt = 999 := rfl
  have c0 : (Int32.ofInt 0).toInt = 0 := rfl
  rw [c0, c9] at g8
  have H1 := H0.rs (K := zDe b E (zBl b E P)) (Q := zBl b E P) (zRn_le hB)
  obtain ⟨f1, s12, K1⟩ := g30 W b _ E D l H1
  refine ⟨(f0.tr rF.rs).tr f1, ?_⟩
  by_cases hd : zBl b E P < E ∧ 48 ≤ b (zBl b E P) ∧ b (zBl b E P) ≤ 57
  · have hv := zNm_ge (b := b) (E := E) (lo := 0) (hi := 999) (A := zBl b E P) (by omega)
    have h999 : zNm b E 0 999 (zBl b E P) ≤ 999 := by
      unfold zNm
      split <;> omega
    have hn : tn b E 0 999 (zBl b E P) = some (zBl b E (zDe b E (zBl b E P)), (zNm b E 0 999 (zBl b E P)).toNat) := by
      unfold tn
      rw [if_pos (by omega)]
    have hp : gPart b E (zBl b E P) = .inl (zBl b E (zDe b E (zBl b E P)), [(8, (zNm b E 0 999 (zBl b E P)).toNat)]) := by
      unfold gPart
      rw [if_pos hd, hn]
    rw [hp]
    refine ⟨by decide, _, zRn_le hB, rfl, K1 8 _ rfl ?_⟩
    refine Int32.toInt_inj.mp ?_
    rw [o32 (by omega)]
    omega
  · rw [zDe_0 hd] at g8
    omega
noncomputable def qP_222 : zPp := fun as σ o σ' => match as with
  | [a0] => ∃ r, o = .inl (some (.int r)) ∧ p_222 (q_r a0) σ r σ'
  | _ => True
set_option maxRecDepth 100000 in
theorem sp_222 {sx : zX} (S203 : zEe sx 203 1 qP_203) (S204 : zEe sx 204 2 qP_204) (S221 : zEe sx 221 3 qP_221) (S207 : zEe sx 207 3 qP_207) : zEe sx 222 1 qP_222 := by
  refine zfle zJ_222 (sps := [(203, 1, qP_203), (204, 2, qP_204), (221, 3, qP_221), (207, 3, qP_207)]) (fun q hq => by
    simp only [List.mem_cons, List.not_mem_nil, or_false] at hq
    rcases hq with rfl | rfl | rfl | rfl
    · exact S203
    · exact S204
    · exact S221
    · exact S207) (fun as σ hl => ?_)
  match as, hl with
  | [a0], _ =>
  refine ⟨[], 400, ?_, ?_⟩
  · exact fun q hq => absurd hq List.not_mem_nil
  · refine fun o1 τ1 g1 => ?_
    obtain ⟨rfl, g1⟩ := g1
    refine And.intro (fun h2 => ?_) (fun h2 => ?_)
    · refine fun o3 τ3 g3 => ?_
      obtain ⟨r3, rfl, g3⟩ := g3
      refine And.intro (fun h4 => ?_) (fun h4 => ?_)
      · refine fun o5 τ5 g5 => ?_
        obtain ⟨r5, rfl, g5⟩ := g5
        refine And.intro (fun h6 => ?_) (fun h6 => ?_)
        · refine fun o7 τ7 g7 => ?_
          obtain ⟨r7, rfl, g7⟩ := g7
          refine And.intro (fun h8 => ?_) (fun h8 => ?_)
          · refine fun o9 τ9 g9 => ?_
            obtain ⟨r9, rfl, g9⟩ := g9
            refine And.intro (fun h10 => ?_) (fun h10 => ?_)
            · refine fun o11 τ11 g11 => ?_
              obtain ⟨r11, rfl, g11⟩ := g11
              refine And.intro (fun h12 => ?_) (fun h12 => ?_)
              · refine fun o13 τ13 g13 => ?_
                obtain ⟨r13, rfl, g13⟩ := g13
                refine And.intro (fun h14 => ?_) (fun h14 => ?_)
                · refine fun o15 τ15 g15 => ?_
                  obtain ⟨rfl, g15⟩ := g15
                  refine And.intro (fun _ => ?_) (fun h16 => absurd (show z_cmp 2 (Int32.ofInt (-1)) 0 = false from h16) (by decide))
                  exact ⟨_, rfl, sp_222_ettttttt (q_r a0) σ τ1 τ3 r3 τ5 r5 τ7 r7 τ9 r9 τ11 r11 τ13 r13 τ15 g1 (cm1t h2) g3 (cm0t h4) g5 (cm0t h6) g7 (cm0t h8) g9 (cm0t h10) g11 (cm0t h12) g13 (cm0t h14) g15⟩
                · refine fun o17 τ17 g17 => ?_
                  obtain ⟨rfl, g17⟩ := g17
                  refine And.intro (fun h18 => absurd (show z_cmp 2 (Int32.ofInt (5)) 0 = true from h18) (by decide)) (fun _ => ?_)
                  exact ⟨_, rfl, sp_222_ettttttf (q_r a0) σ τ1 τ3 r3 τ5 r5 τ7 r7 τ9 r9 τ11 r11 τ13 r13 τ17 g1 (cm1t h2) g3 (cm0t h4) g5 (cm0t h6) g7 (cm0t h8) g9 (cm0t h10) g11 (cm0t h12) g13 (cm0f h14) g17⟩
              · refine fun o19 τ19 g19 => ?_
                obtain ⟨rfl, g19⟩ := g19
                refine And.intro (fun h20 => absurd (show z_cmp 2 (Int32.ofInt (4)) 0 = true from h20) (by decide)) (fun _ => ?_)
                exact ⟨_, rfl, sp_222_etttttf (q_r a0) σ τ1 τ3 r3 τ5 r5 τ7 r7 τ9 r9 τ11 r11 τ19 g1 (cm1t h2) g3 (cm0t h4) g5 (cm0t h6) g7 (cm0t h8) g9 (cm0t h10) g11 (cm0f h12) g19⟩
            · refine fun o21 τ21 g21 => ?_
              obtain ⟨rfl, g21⟩ := g21
              refine And.intro (fun h22 => absurd (show z_cmp 2 (Int32.ofInt (3)) 0 = true from h22) (by decide)) (fun _ => ?_)
              exact ⟨_, rfl, sp_222_ettttf (q_r a0) σ τ1 τ3 r3 τ5 r5 τ7 r7 τ9 r9 τ21 g1 (cm1t h2) g3 (cm0t h4) g5 (cm0t h6) g7 (cm0t h8) g9 (cm0f h10) g21⟩
          · refine fun o23 τ23 g23 => ?_
            obtain ⟨rfl, g23⟩ := g23
            refine And.intro (fun h24 => absurd (show z_cmp 2 (Int32.ofInt (2)) 0 = true from h24) (by decide)) (fun _ => ?_)
            exact ⟨_, rfl, sp_222_etttf (q_r a0) σ τ1 τ3 r3 τ5 r5 τ7 r7 τ23 g1 (cm1t h2) g3 (cm0t h4) g5 (cm0t h6) g7 (cm0f h8) g23⟩
        · refine fun o25 τ25 g25 => ?_
          obtain ⟨rfl, g25⟩ := g25
          refine And.intro (fun h26 => absurd (show z_cmp 2 (Int32.ofInt (1)) 0 = true from h26) (by decide)) (fun _ => ?_)
          exact ⟨_, rfl, sp_222_ettf (q_r a0) σ τ1 τ3 r3 τ5 r5 τ25 g1 (cm1t h2) g3 (cm0t h4) g5 (cm0f h6) g25⟩
      · refine fun o27 τ27 g27 => ?_
        obtain ⟨rfl, g27⟩ := g27
        refine And.intro (fun h28 => absurd (show z_cmp 2 (Int32.ofInt (0)) 0 = true from h28) (by decide)) (fun _ => ?_)
        exact ⟨_, rfl, sp_222_etf (q_r a0) σ τ1 τ3 r3 τ27 g1 (cm1t h2) g3 (cm0f h4) g27⟩
    · refine fun o29 τ29 g29 => ?_
      obtain ⟨r29, rfl, g29⟩ := g29
      refine fun o30 τ30 g30 => ?_
      obtain ⟨rfl, g30⟩ := g30
      refine And.intro (fun h31 => ?_) (fun h31 => ?_)
      · exact ⟨_, rfl, sp_222_eft (q_r a0) σ τ1 τ29 r29 τ30 g1 (cm1f h2) g29 g30 (cm2t h31)⟩
      · exact ⟨_, rfl, sp_222_eff (q_r a0) σ τ1 τ29 r29 τ30 g1 (cm1f h2) g29 g30 (cm2f h31)⟩
noncomputable def p_223 (a : Nat) (σ : zSg) (r : Int32) (σ' : zSg) : Prop := ∀ W b P E D l, rG σ a W b P E D l → rF σ σ' a W ∧ ∃ R, GS b E (zBl b E P) R ∧ rO σ' a W b E D l r R
noncomputable def i_223 (a : Nat) (σ : zSg) (l0 : Nat) (τ : zSg) : Prop := l0 = a ∧ ∀ W b P E D l, rG σ a W b P E D l → rF σ τ a W ∧ ∃ P1 m, rG τ a W b P1 E D (l ++ m) ∧ ∀ R, GSL b E (zBl b E P1) m R → GS b E (zBl b E P) R
theorem sp_223_et (a0 : Nat) (σ : zSg) (τ1 : zSg) (r1 : Int32) (g1 : p_222 a0 σ r1 τ1) (h2 : r1.toInt ≠ (0 : Int)) :
    i_223 a0 σ a0 τ1 := by
  refine ⟨rfl, fun W b P E D l H => ?_⟩
  obtain ⟨f1, g2⟩ := g1 W b P E D l H
  refine ⟨f1, ?_⟩
  cases hp : gPart b E (zBl b E P) with
  | inr F => rw [hp] at g2; exact absurd g2.1 h2
  | inl q =>
    obtain ⟨A1, m⟩ := q
    rw [hp] at g2
    obtain ⟨-, P1, p1, rfl, H1⟩ := g2
    exact ⟨P1, m, H1, fun R hR => GS.go hp hR⟩
theorem sp_223_ef (a0 : Nat) (σ : zSg) (τ1 : zSg) (r1 : Int32) (g1 : p_222 a0 σ r1 τ1) (h2 : r1.toInt = (0 : Int)) :
    p_223 (a0) σ (Int32.ofInt (0)) τ1 := by
  intro W b P E D l H
  obtain ⟨f1, g2⟩ := g1 W b P E D l H
  refine ⟨f1, ?_⟩
  cases hp : gPart b E (zBl b E P) with
  | inr F => rw [hp] at g2; exact ⟨_, GS.wrong hp, rfl, g2.2⟩
  | inl q =>
    rw [hp] at g2
    exact absurd h2 g2.1
theorem sp_223_c5_t (a0 : Nat) (σ : zSg) (l0 : Nat) (τ : zSg) (τ3 : zSg) (r3 : Int32) (hI : i_223 a0 σ l0 τ) (g3 : p_206 l0 (Int32.ofInt (43)) τ r3 τ3) (h4 : r3.toInt = (0 : Int)) :
    p_223 (a0) σ (Int32.ofInt (1)) τ3 := by
  obtain ⟨rfl, G⟩ := hI
  intro W b P E D l H
  obtain ⟨f1, P1, m, H1, hR⟩ := G W b P E D l H
  obtain ⟨f2, -, -, q2⟩ := H1.sg g3
  obtain ⟨e1, H2⟩ := q2 h4
  exact ⟨f1.tr f2, _, hR _ (GSL.stop e1), by decide, _, H1.bl, zBl_bl, H2⟩
theorem sp_223_c5_ft (a0 : Nat) (σ : zSg) (l0 : Nat) (τ : zSg) (τ3 : zSg) (r3 : Int32) (τ5 : zSg) (r5 : Int32) (τ7 : zSg) (hI : i_223 a0 σ l0 τ) (g3 : p_206 l0 (Int32.ofInt (43)) τ r3 τ3) (h4 : r3.toInt ≠ (0 : Int)) (g5 : p_222 l0 τ3 r5 τ5) (h6 : r5.toInt ≠ (0 : Int)) (g7 : p_221 l0 (Int32.ofInt (9)) (Int32.ofInt (0)) τ5 τ7) :
    i_223 a0 σ l0 τ7 := by
  obtain ⟨rfl, G⟩ := hI
  refine ⟨rfl, fun W b P E D l H => ?_⟩
  obtain ⟨f1, P1, m, H1, hR⟩ := G W b P E D l H
  obtain ⟨f2, -, q1, -⟩ := H1.sg g3
  obtain ⟨e1, H5⟩ := q1 h4
  obtain ⟨f3, g2⟩ := g5 W b _ E D _ H5
  cases hp : gPart b E (zBl b E (zBl b E P1 + 1)) with
  | inr F => rw [hp] at g2; exact absurd g2.1 h6
  | inl q =>
    obtain ⟨A1, m2⟩ := q
    rw [hp] at g2
    obtain ⟨-, P2, p2, rfl, H6⟩ := g2
    obtain ⟨f4, -, H7⟩ := g7 W b _ E D _ H6
    have H8 := H7 9 0 rfl rfl
    refine ⟨((f1.tr f2).tr f3).tr f4, P2, m ++ m2 ++ [(9, 0)], ?_, fun R h9 => hR R (GSL.step e1 hp h9)⟩
    rw [show l ++ (m ++ m2 ++ [(9, 0)]) = l ++ m ++ m2 ++ [(9, 0)] by simp only [List.append_assoc]]
    exact H8
theorem sp_223_c5_ff (a0 : Nat) (σ : zSg) (l0 : Nat) (τ : zSg) (τ3 : zSg) (r3 : Int32) (τ5 : zSg) (r5 : Int32) (hI : i_223 a0 σ l0 τ) (g3 : p_206 l0 (Int32.ofInt (43)) τ r3 τ3) (h4 : r3.toInt ≠ (0 : Int)) (g5 : p_222 l0 τ3 r5 τ5) (h6 : r5.toInt = (0 : Int)) :
    p_223 (a0) σ (Int32.ofInt (0)) τ5 := by
  obtain ⟨rfl, G⟩ := hI
  intro W b P E D l H
  obtain ⟨f1, P1, m, H1, hR⟩ := G W b P E D l H
  obtain ⟨f2, -, q1, -⟩ := H1.sg g3
  obtain ⟨e1, H5⟩ := q1 h4
  obtain ⟨f3, g2⟩ := g5 W b _ E D _ H5
  refine ⟨(f1.tr f2).tr f3, ?_⟩
  cases hp : gPart b E (zBl b E (zBl b E P1 + 1)) with
  | inl q => rw [hp] at g2; exact absurd h6 g2.1
  | inr F =>
    rw [hp] at g2
    exact ⟨_, hR _ (GSL.wrong e1 hp), rfl, g2.2⟩
noncomputable def qP_223 : zPp := fun as σ o σ' => match as with
  | [a0] => ∃ r, o = .inl (some (.int r)) ∧ p_223 (q_r a0) σ r σ'
  | _ => True
set_option maxRecDepth 100000 in
theorem sp_223 {sx : zX} (S222 : zEe sx 222 1 qP_222) (S206 : zEe sx 206 2 qP_206) (S221 : zEe sx 221 3 qP_221) : zEe sx 223 1 qP_223 := by
  refine zfle zJ_223 (sps := [(222, 1, qP_222), (206, 2, qP_206), (221, 3, qP_221)]) (fun q hq => by
    simp only [List.mem_cons, List.not_mem_nil, or_false] at hq
    rcases hq with rfl | rfl | rfl
    · exact S222
    · exact S206
    · exact S221) (fun as σ hl => ?_)
  match as, hl with
  | [a0], _ =>
  refine ⟨[(5, fun lo st τ => st = [] ∧ i_223 (q_r a0) σ (q_r (lo 0)) τ)], 400, ?_, ?_⟩
  · intro q hq
    simp only [List.mem_cons, List.not_mem_nil, or_false] at hq
    rcases hq with rfl
    · rintro lo st τ ⟨rfl, hI⟩
      refine ⟨400, ?_⟩
      refine fun o3 τ3 g3 => ?_
      obtain ⟨r3, rfl, g3⟩ := g3
      refine And.intro (fun h4 => ?_) (fun h4 => ?_)
      · exact ⟨_, rfl, sp_223_c5_t (q_r a0) σ (q_r (lo 0)) τ τ3 r3 hI g3 (cm0t h4)⟩
      · refine fun o5 τ5 g5 => ?_
        obtain ⟨r5, rfl, g5⟩ := g5
        refine And.intro (fun h6 => ?_) (fun h6 => ?_)
        · refine fun o7 τ7 g7 => ?_
          obtain ⟨rfl, g7⟩ := g7
          exact ⟨rfl, sp_223_c5_ft (q_r a0) σ (q_r (lo 0)) τ τ3 r3 τ5 r5 τ7 hI g3 (cm0f h4) g5 (cm1t h6) g7⟩
        · exact ⟨_, rfl, sp_223_c5_ff (q_r a0) σ (q_r (lo 0)) τ τ3 r3 τ5 r5 hI g3 (cm0f h4) g5 (cm1f h6)⟩
  · refine fun o1 τ1 g1 => ?_
    obtain ⟨r1, rfl, g1⟩ := g1
    refine And.intro (fun h2 => ?_) (fun h2 => ?_)
    · exact ⟨rfl, sp_223_et (q_r a0) σ τ1 r1 g1 (cm1t h2)⟩
    · exact ⟨_, rfl, sp_223_ef (q_r a0) σ τ1 r1 g1 (cm1f h2)⟩
noncomputable def p_224 (a : Nat) (σ : zSg) (r : Int32) (σ' : zSg) : Prop := ∀ W b P E D l, rG σ a W b P E D l → rF σ σ' a W ∧ ((r.toInt ≠ 0 ∧ ∃ R, GB b E (zBl b E P) R ∧ rO σ' a W b E D l r R) ∨ (r.toInt = 0 ∧ tw b E wNight (zBl b E P) = none ∧ tw b E wWished (zBl b E P) = none ∧ rG σ' a W b (zBl b E P) E D l))
theorem sp_224_ett (a0 : Nat) (σ : zSg) (τ1 : zSg) (τ2 : zSg) (r2 : Int32) (τ4 : zSg) (r4 : Int32) (g1 : p_203 a0 σ τ1) (g2 : p_204 a0 (zB + 61) τ1 r2 τ2) (h3 : r2.toInt = (0 : Int)) (g4 : p_204 a0 (zB + 62) τ2 r4 τ4) (h5 : r4.toInt = (0 : Int)) :
    p_224 (a0) σ (Int32.ofInt (0)) (q_w τ4 a0 10 (.int (q_i (τ4.1 a0 12)))) := by
  intro W b P E D l H
  obtain ⟨f0, t12, t10, H0⟩ := H.lt g1
  obtain ⟨rfl, -, v0⟩ := H0.wd t12 g2 qsi_61 (by decide)
  obtain ⟨rfl, -, v1⟩ := H0.wd t12 g4 qsi_62 (by decide)
  refine ⟨f0.tr (rF.w (by omega)), Or.inr ⟨rfl, v0 h3, v1 h5, ?_⟩⟩
  rw [t12]
  exact H0.pt H.bl
theorem sp_224_etf (a0 : Nat) (σ : zSg) (τ1 : zSg) (τ2 : zSg) (r2 : Int32) (τ4 : zSg) (r4 : Int32) (τ9 : zSg) (g1 : p_203 a0 σ τ1) (g2 : p_204 a0 (zB + 61) τ1 r2 τ2) (h3 : r2.toInt = (0 : Int)) (g4 : p_204 a0 (zB + 62) τ2 r4 τ4) (h5 : r4.toInt ≠ (0 : Int)) (g9 : p_221 a0 (Int32.ofInt (7)) (Int32.ofInt (0)) τ4 τ9) :
    p_224 (a0) σ (Int32.ofInt (1)) τ9 := by
  intro W b P E D l H
  obtain ⟨f0, t12, t10, H0⟩ := H.lt g1
  obtain ⟨rfl, -, v0⟩ := H0.wd t12 g2 qsi_61 (by decide)
  obtain ⟨rfl, u1, -⟩ := H0.wd t12 g4 qsi_62 (by decide)
  obtain ⟨f1, -, H1⟩ := g9 W b _ E D l H0
  exact ⟨f0.tr f1, Or.inl ⟨by decide, _, GB.wished (v0 h3) (u1 h5).2, by decide, _, H0.le.1, rfl, H1 7 0 rfl rfl⟩⟩
theorem sp_224_ef (a0 : Nat) (σ : zSg) (τ1 : zSg) (τ2 : zSg) (r2 : Int32) (τ12 : zSg) (g1 : p_203 a0 σ τ1) (g2 : p_204 a0 (zB + 61) τ1 r2 τ2) (h3 : r2.toInt ≠ (0 : Int)) (g12 : p_221 a0 (Int32.ofInt (6)) (Int32.ofInt (0)) τ2 τ12) :
    p_224 (a0) σ (Int32.ofInt (1)) τ12 := by
  intro W b P E D l H
  obtain ⟨f0, t12, t10, H0⟩ := H.lt g1
  obtain ⟨rfl, u0, -⟩ := H0.wd t12 g2 qsi_61 (by decide)
  obtain ⟨f1, -, H1⟩ := g12 W b _ E D l H0
  exact ⟨f0.tr f1, Or.inl ⟨by decide, _, GB.night (u0 h3).2, by decide, _, H0.le.1, rfl, H1 6 0 rfl rfl⟩⟩
noncomputable def qP_224 : zPp := fun as σ o σ' => match as with
  | [a0] => ∃ r, o = .inl (some (.int r)) ∧ p_224 (q_r a0) σ r σ'
  | _ => True
set_option maxRecDepth 100000 in
theorem sp_224 {sx : zX} (S203 : zEe sx 203 1 qP_203) (S204 : zEe sx 204 2 qP_204) (S221 : zEe sx 221 3 qP_221) : zEe sx 224 1 qP_224 := by
  refine zfle zJ_224 (sps := [(203, 1, qP_203), (204, 2, qP_204), (221, 3, qP_221)]) (fun q hq => by
    simp only [List.mem_cons, List.not_mem_nil, or_false] at hq
    rcases hq with rfl | rfl | rfl
    · exact S203
    · exact S204
    · exact S221) (fun as σ hl => ?_)
  match as, hl with
  | [a0], _ =>
  refine ⟨[], 400, ?_, ?_⟩
  · exact fun q hq => absurd hq List.not_mem_nil
  · refine fun o1 τ1 g1 => ?_
    obtain ⟨rfl, g1⟩ := g1
    refine fun o2 τ2 g2 => ?_
    obtain ⟨r2, rfl, g2⟩ := g2
    refine And.intro (fun h3 => ?_) (fun h3 => ?_)
    · refine fun o4 τ4 g4 => ?_
      obtain ⟨r4, rfl, g4⟩ := g4
      refine And.intro (fun h5 => ?_) (fun h5 => ?_)
      · refine And.intro (fun _ => ?_) (fun h6 => absurd (show z_cmp 2 (Int32.ofInt (-1)) 0 = false from h6) (by decide))
        refine And.intro (fun _ => ?_) (fun h7 => absurd (show z_cmp 2 (Int32.ofInt (-1)) 0 = false from h7) (by decide))
        exact ⟨_, rfl, sp_224_ett (q_r a0) σ τ1 τ2 r2 τ4 r4 g1 g2 (cm0t h3) g4 (cm0t h5)⟩
      · refine And.intro (fun h8 => absurd (show z_cmp 2 (Int32.ofInt (7)) 0 = true from h8) (by decide)) (fun _ => ?_)
        refine fun o9 τ9 g9 => ?_
        obtain ⟨rfl, g9⟩ := g9
        refine And.intro (fun h10 => absurd (show z_cmp 2 (Int32.ofInt (7)) 0 = true from h10) (by decide)) (fun _ => ?_)
        exact ⟨_, rfl, sp_224_etf (q_r a0) σ τ1 τ2 r2 τ4 r4 τ9 g1 g2 (cm0t h3) g4 (cm0f h5) g9⟩
    · refine And.intro (fun h11 => absurd (show z_cmp 2 (Int32.ofInt (6)) 0 = true from h11) (by decide)) (fun _ => ?_)
      refine fun o12 τ12 g12 => ?_
      obtain ⟨rfl, g12⟩ := g12
      refine And.intro (fun h13 => absurd (show z_cmp 2 (Int32.ofInt (6)) 0 = true from h13) (by decide)) (fun _ => ?_)
      exact ⟨_, rfl, sp_224_ef (q_r a0) σ τ1 τ2 r2 τ12 g1 g2 (cm0f h3) g12⟩
noncomputable def p_225 (a : Nat) (σ : zSg) (r : Int32) (σ' : zSg) : Prop := ∀ W b P E D l, rG σ a W b P E D l → rF σ σ' a W ∧ ∃ R, GA b E D (zBl b E P) R ∧ rO σ' a W b E D l r R
noncomputable def p_226 (a : Nat) (σ : zSg) (r : Int32) (σ' : zSg) : Prop := ∀ W b P E D l, rG σ a W b P E D l → rF σ σ' a W ∧ ∃ R, GW b E D (zBl b E P) R ∧ rO σ' a W b E D l r R
noncomputable def p_227 (a : Nat) (σ : zSg) (r : Int32) (σ' : zSg) : Prop := ∀ W b P E D l, rG σ a W b P E D l → rF σ σ' a W ∧ ∃ R, GC b E D (zBl b E P) R ∧ rO σ' a W b E D l r R
noncomputable def i_226 (a : Nat) (σ : zSg) (l0 : Nat) (τ : zSg) : Prop := l0 = a ∧ ∀ W b P E D l, rG σ a W b P E D l → rF σ τ a W ∧ ∃ P1 m, rG τ a W b P1 E D (l ++ m) ∧ ∀ R, GN b E D (zBl b E P1) m R → GW b E D (zBl b E P) R
noncomputable def i_227 (a : Nat) (σ : zSg) (l0 : Nat) (τ : zSg) : Prop := l0 = a ∧ ∀ W b P E D l, rG σ a W b P E D l → rF σ τ a W ∧ ∃ P1 m, rG τ a W b P1 E D (l ++ m) ∧ ∀ R, GO b E D (zBl b E P1) m R → GC b E D (zBl b E P) R
noncomputable def qP_225 : zPp := fun as σ o σ' => match as with
  | [a0] => ∃ r, o = .inl (some (.int r)) ∧ p_225 (q_r a0) σ r σ'
  | _ => True
noncomputable def qP_226 : zPp := fun as σ o σ' => match as with
  | [a0] => ∃ r, o = .inl (some (.int r)) ∧ p_226 (q_r a0) σ r σ'
  | _ => True
noncomputable def qP_227 : zPp := fun as σ o σ' => match as with
  | [a0] => ∃ r, o = .inl (some (.int r)) ∧ p_227 (q_r a0) σ r σ'
  | _ => True
theorem sp_226_et (a0 : Nat) (σ : zSg) (τ1 : zSg) (r1 : Int32) (g1 : p_225 a0 σ r1 τ1) (h2 : r1.toInt ≠ (0 : Int)) :
    i_226 a0 σ a0 τ1 := by
  refine ⟨rfl, fun W b P E D l H => ?_⟩
  obtain ⟨f1, R, g1, g2⟩ := g1 W b P E D l H
  refine ⟨f1, ?_⟩
  cases R with
  | inr F => exact absurd g2.1 h2
  | inl q =>
    obtain ⟨A1, m⟩ := q
    obtain ⟨-, P1, p1, rfl, H1⟩ := g2
    exact ⟨P1, m, H1, fun R hR => GW.go g1 hR⟩
theorem sp_226_ef (a0 : Nat) (σ : zSg) (τ1 : zSg) (r1 : Int32) (g1 : p_225 a0 σ r1 τ1) (h2 : r1.toInt = (0 : Int)) :
    p_226 (a0) σ (Int32.ofInt (0)) τ1 := by
  intro W b P E D l H
  obtain ⟨f1, R, g1, g2⟩ := g1 W b P E D l H
  refine ⟨f1, ?_⟩
  cases R with
  | inr F => exact ⟨_, GW.wrong g1, rfl, g2.2⟩
  | inl q => exact absurd h2 g2.1
theorem sp_226_c5_t (a0 : Nat) (σ : zSg) (l0 : Nat) (τ : zSg) (τ3 : zSg) (r3 : Int32) (hI : i_226 a0 σ l0 τ) (g3 : p_205 l0 (zB + 64) τ r3 τ3) (h4 : r3.toInt = (0 : Int)) :
    p_226 (a0) σ (Int32.ofInt (1)) τ3 := by
  obtain ⟨rfl, G⟩ := hI
  intro W b P E D l H
  obtain ⟨f1, P1, m, H1, hR⟩ := G W b P E D l H
  obtain ⟨f2, -, -, q2⟩ := H1.ps g3 qsi_64 (by decide)
  obtain ⟨e1, H2⟩ := q2 h4
  exact ⟨f1.tr f2, _, hR _ (GN.stop e1), by decide, _, H1.bl, zBl_bl, H2⟩
theorem sp_226_c5_ft (a0 : Nat) (σ : zSg) (l0 : Nat) (τ : zSg) (τ3 : zSg) (r3 : Int32) (τ5 : zSg) (r5 : Int32) (τ7 : zSg) (hI : i_226 a0 σ l0 τ) (g3 : p_205 l0 (zB + 64) τ r3 τ3) (h4 : r3.toInt ≠ (0 : Int)) (g5 : p_225 l0 τ3 r5 τ5) (h6 : r5.toInt ≠ (0 : Int)) (g7 : p_221 l0 (Int32.ofInt (13)) (Int32.ofInt (0)) τ5 τ7) :
    i_226 a0 σ l0 τ7 := by
  obtain ⟨rfl, G⟩ := hI
  refine ⟨rfl, fun W b P E D l H => ?_⟩
  obtain ⟨f1, P1, m, H1, hR⟩ := G W b P E D l H
  obtain ⟨f2, -, q1, -⟩ := H1.ps g3 qsi_64 (by decide)
  obtain ⟨e1, H5⟩ := q1 h4
  obtain ⟨f3, R, g1, g2⟩ := g5 W b _ E D _ H5
  cases R with
  | inr F => exact absurd g2.1 h6
  | inl q =>
    obtain ⟨A1, m2⟩ := q
    obtain ⟨-, P2, p2, rfl, H6⟩ := g2
    obtain ⟨f4, -, H7⟩ := g7 W b _ E D _ H6
    have H8 := H7 13 0 rfl rfl
    refine ⟨((f1.tr f2).tr f3).tr f4, P2, m ++ m2 ++ [(13, 0)], ?_, fun R h9 => hR R (GN.step e1 g1 h9)⟩
    rw [show l ++ (m ++ m2 ++ [(13, 0)]) = l ++ m ++ m2 ++ [(13, 0)] by simp only [List.append_assoc]]
    exact H8
theorem sp_226_c5_ff (a0 : Nat) (σ : zSg) (l0 : Nat) (τ : zSg) (τ3 : zSg) (r3 : Int32) (τ5 : zSg) (r5 : Int32) (hI : i_226 a0 σ l0 τ) (g3 : p_205 l0 (zB + 64) τ r3 τ3) (h4 : r3.toInt ≠ (0 : Int)) (g5 : p_225 l0 τ3 r5 τ5) (h6 : r5.toInt = (0 : Int)) :
    p_226 (a0) σ (Int32.ofInt (0)) τ5 := by
  obtain ⟨rfl, G⟩ := hI
  intro W b P E D l H
  obtain ⟨f1, P1, m, H1, hR⟩ := G W b P E D l H
  obtain ⟨f2, -, q1, -⟩ := H1.ps g3 qsi_64 (by decide)
  obtain ⟨e1, H5⟩ := q1 h4
  obtain ⟨f3, R, g1, g2⟩ := g5 W b _ E D _ H5
  refine ⟨(f1.tr f2).tr f3, ?_⟩
  cases R with
  | inl q => exact absurd h6 g2.1
  | inr F => exact ⟨_, hR _ (GN.wrong e1 g1), rfl, g2.2⟩
set_option maxRecDepth 100000 in
theorem sp_226 {sx : zX} {m : Nat} (S205 : zEe sx 205 2 qP_205) (S221 : zEe sx 221 3 qP_221) (S225 : zMt sx m 225 1 qP_225) : zMt sx (m + 1) 226 1 qP_226 := by
  refine zfl zJ_226 (sps := [(225, 1, qP_225), (205, 2, qP_205), (221, 3, qP_221)]) (fun q hq => by
    simp only [List.mem_cons, List.not_mem_nil, or_false] at hq
    rcases hq with rfl | rfl | rfl
    · exact S225
    · exact S205 m
    · exact S221 m) (fun as σ hl => ?_)
  match as, hl with
  | [a0], _ =>
  refine ⟨[(5, fun lo st τ => st = [] ∧ i_226 (q_r a0) σ (q_r (lo 0)) τ)], 400, ?_, ?_⟩
  · intro q hq
    simp only [List.mem_cons, List.not_mem_nil, or_false] at hq
    rcases hq with rfl
    · rintro lo st τ ⟨rfl, hI⟩
      refine ⟨400, ?_⟩
      refine fun o3 τ3 g3 => ?_
      obtain ⟨r3, rfl, g3⟩ := g3
      refine And.intro (fun h4 => ?_) (fun h4 => ?_)
      · exact ⟨_, rfl, sp_226_c5_t (q_r a0) σ (q_r (lo 0)) τ τ3 r3 hI g3 (cm0t h4)⟩
      · refine fun o5 τ5 g5 => ?_
        obtain ⟨r5, rfl, g5⟩ := g5
        refine And.intro (fun h6 => ?_) (fun h6 => ?_)
        · refine fun o7 τ7 g7 => ?_
          obtain ⟨rfl, g7⟩ := g7
          exact ⟨rfl, sp_226_c5_ft (q_r a0) σ (q_r (lo 0)) τ τ3 r3 τ5 r5 τ7 hI g3 (cm0f h4) g5 (cm1t h6) g7⟩
        · exact ⟨_, rfl, sp_226_c5_ff (q_r a0) σ (q_r (lo 0)) τ τ3 r3 τ5 r5 hI g3 (cm0f h4) g5 (cm1f h6)⟩
  · refine fun o1 τ1 g1 => ?_
    obtain ⟨r1, rfl, g1⟩ := g1
    refine And.intro (fun h2 => ?_) (fun h2 => ?_)
    · exact ⟨rfl, sp_226_et (q_r a0) σ τ1 r1 g1 (cm1t h2)⟩
    · exact ⟨_, rfl, sp_226_ef (q_r a0) σ τ1 r1 g1 (cm1f h2)⟩
theorem sp_227_et (a0 : Nat) (σ : zSg) (τ1 : zSg) (r1 : Int32) (g1 : p_226 a0 σ r1 τ1) (h2 : r1.toInt ≠ (0 : Int)) :
    i_227 a0 σ a0 τ1 := by
  refine ⟨rfl, fun W b P E D l H => ?_⟩
  obtain ⟨f1, R, g1, g2⟩ := g1 W b P E D l H
  refine ⟨f1, ?_⟩
  cases R with
  | inr F => exact absurd g2.1 h2
  | inl q =>
    obtain ⟨A1, m⟩ := q
    obtain ⟨-, P1, p1, rfl, H1⟩ := g2
    exact ⟨P1, m, H1, fun R hR => GC.nest1 g1 hR⟩
theorem sp_227_ef (a0 : Nat) (σ : zSg) (τ1 : zSg) (r1 : Int32) (g1 : p_226 a0 σ r1 τ1) (h2 : r1.toInt = (0 : Int)) :
    p_227 (a0) σ (Int32.ofInt (0)) τ1 := by
  intro W b P E D l H
  obtain ⟨f1, R, g1, g2⟩ := g1 W b P E D l H
  refine ⟨f1, ?_⟩
  cases R with
  | inr F => exact ⟨_, GC.nest0 g1, rfl, g2.2⟩
  | inl q => exact absurd h2 g2.1
theorem sp_227_c5_t (a0 : Nat) (σ : zSg) (l0 : Nat) (τ : zSg) (τ3 : zSg) (r3 : Int32) (hI : i_227 a0 σ l0 τ) (g3 : p_205 l0 (zB + 65) τ r3 τ3) (h4 : r3.toInt = (0 : Int)) :
    p_227 (a0) σ (Int32.ofInt (1)) τ3 := by
  obtain ⟨rfl, G⟩ := hI
  intro W b P E D l H
  obtain ⟨f1, P1, m, H1, hR⟩ := G W b P E D l H
  obtain ⟨f2, -, -, q2⟩ := H1.ps g3 qsi_65 (by decide)
  obtain ⟨e1, H2⟩ := q2 h4
  exact ⟨f1.tr f2, _, hR _ (GO.stop e1), by decide, _, H1.bl, zBl_bl, H2⟩
theorem sp_227_c5_ft (a0 : Nat) (σ : zSg) (l0 : Nat) (τ : zSg) (τ3 : zSg) (r3 : Int32) (τ5 : zSg) (r5 : Int32) (τ7 : zSg) (hI : i_227 a0 σ l0 τ) (g3 : p_205 l0 (zB + 65) τ r3 τ3) (h4 : r3.toInt ≠ (0 : Int)) (g5 : p_226 l0 τ3 r5 τ5) (h6 : r5.toInt ≠ (0 : Int)) (g7 : p_221 l0 (Int32.ofInt (14)) (Int32.ofInt (0)) τ5 τ7) :
    i_227 a0 σ l0 τ7 := by
  obtain ⟨rfl, G⟩ := hI
  refine ⟨rfl, fun W b P E D l H => ?_⟩
  obtain ⟨f1, P1, m, H1, hR⟩ := G W b P E D l H
  obtain ⟨f2, -, q1, -⟩ := H1.ps g3 qsi_65 (by decide)
  obtain ⟨e1, H5⟩ := q1 h4
  obtain ⟨f3, R, g1, g2⟩ := g5 W b _ E D _ H5
  cases R with
  | inr F => exact absurd g2.1 h6
  | inl q =>
    obtain ⟨A1, m2⟩ := q
    obtain ⟨-, P2, p2, rfl, H6⟩ := g2
    obtain ⟨f4, -, H7⟩ := g7 W b _ E D _ H6
    have H8 := H7 14 0 rfl rfl
    refine ⟨((f1.tr f2).tr f3).tr f4, P2, m ++ m2 ++ [(14, 0)], ?_, fun R h9 => hR R (GO.step e1 g1 h9)⟩
    rw [show l ++ (m ++ m2 ++ [(14, 0)]) = l ++ m ++ m2 ++ [(14, 0)] by simp only [List.append_assoc]]
    exact H8
theorem sp_227_c5_ff (a0 : Nat) (σ : zSg) (l0 : Nat) (τ : zSg) (τ3 : zSg) (r3 : Int32) (τ5 : zSg) (r5 : Int32) (hI : i_227 a0 σ l0 τ) (g3 : p_205 l0 (zB + 65) τ r3 τ3) (h4 : r3.toInt ≠ (0 : Int)) (g5 : p_226 l0 τ3 r5 τ5) (h6 : r5.toInt = (0 : Int)) :
    p_227 (a0) σ (Int32.ofInt (0)) τ5 := by
  obtain ⟨rfl, G⟩ := hI
  intro W b P E D l H
  obtain ⟨f1, P1, m, H1, hR⟩ := G W b P E D l H
  obtain ⟨f2, -, q1, -⟩ := H1.ps g3 qsi_65 (by decide)
  obtain ⟨e1, H5⟩ := q1 h4
  obtain ⟨f3, R, g1, g2⟩ := g5 W b _ E D _ H5
  refine ⟨(f1.tr f2).tr f3, ?_⟩
  cases R with
  | inl q => exact absurd h6 g2.1
  | inr F => exact ⟨_, hR _ (GO.wrong e1 g1), rfl, g2.2⟩
set_option maxRecDepth 100000 in
theorem sp_227 {sx : zX} {m : Nat} (S205 : zEe sx 205 2 qP_205) (S221 : zEe sx 221 3 qP_221) (S226 : zMt sx m 226 1 qP_226) : zMt sx (m + 1) 227 1 qP_227 := by
  refine zfl zJ_227 (sps := [(226, 1, qP_226), (205, 2, qP_205), (221, 3, qP_221)]) (fun q hq => by
    simp only [List.mem_cons, List.not_mem_nil, or_false] at hq
    rcases hq with rfl | rfl | rfl
    · exact S226
    · exact S205 m
    · exact S221 m) (fun as σ hl => ?_)
  match as, hl with
  | [a0], _ =>
  refine ⟨[(5, fun lo st τ => st = [] ∧ i_227 (q_r a0) σ (q_r (lo 0)) τ)], 400, ?_, ?_⟩
  · intro q hq
    simp only [List.mem_cons, List.not_mem_nil, or_false] at hq
    rcases hq with rfl
    · rintro lo st τ ⟨rfl, hI⟩
      refine ⟨400, ?_⟩
      refine fun o3 τ3 g3 => ?_
      obtain ⟨r3, rfl, g3⟩ := g3
      refine And.intro (fun h4 => ?_) (fun h4 => ?_)
      · exact ⟨_, rfl, sp_227_c5_t (q_r a0) σ (q_r (lo 0)) τ τ3 r3 hI g3 (cm0t h4)⟩
      · refine fun o5 τ5 g5 => ?_
        obtain ⟨r5, rfl, g5⟩ := g5
        refine And.intro (fun h6 => ?_) (fun h6 => ?_)
        · refine fun o7 τ7 g7 => ?_
          obtain ⟨rfl, g7⟩ := g7
          exact ⟨rfl, sp_227_c5_ft (q_r a0) σ (q_r (lo 0)) τ τ3 r3 τ5 r5 τ7 hI g3 (cm0f h4) g5 (cm1t h6) g7⟩
        · exact ⟨_, rfl, sp_227_c5_ff (q_r a0) σ (q_r (lo 0)) τ τ3 r3 τ5 r5 hI g3 (cm0f h4) g5 (cm1f h6)⟩
  · refine fun o1 τ1 g1 => ?_
    obtain ⟨r1, rfl, g1⟩ := g1
    refine And.intro (fun h2 => ?_) (fun h2 => ?_)
    · exact ⟨rfl, sp_227_et (q_r a0) σ τ1 r1 g1 (cm1t h2)⟩
    · exact ⟨_, rfl, sp_227_ef (q_r a0) σ τ1 r1 g1 (cm1f h2)⟩
theorem sp_225_ettttttt (a0 : Nat) (σ : zSg) (τ1 : zSg) (r1 : Int32) (τ3 : zSg) (r3 : Int32) (τ5 : zSg) (r5 : Int32) (τ7 : zSg) (r7 : Int32) (τ9 : zSg) (r9 : Int32) (τ11 : zSg) (r11 : Int32) (τ14 : zSg) (g1 : p_206 a0 (Int32.ofInt (40)) σ r1 τ1) (h2 : r1.toInt = (0 : Int)) (g3 : p_205 a0 (zB + 63) τ1 r3 τ3) (h4 : r3.toInt = (0 : Int)) (g5 : p_224 a0 τ3 r5 τ5) (h6 : r5.toInt = (0 : Int)) (g7 : p_223 a0 τ5 r7 τ7) (h8 : r7.toInt ≠ (0 : Int)) (g9 : p_206 a0 (Int32.ofInt (60)) τ7 r9 τ9) (h10 : r9.toInt ≠ (0 : Int)) (g11 : p_223 a0 τ9 r11 τ11) (h12 : r11.toInt ≠ (0 : Int)) (h13 : r9.toInt = (0 : Int)) (g14 : p_221 a0 (Int32.ofInt (11)) (Int32.ofInt (0)) τ11 τ14) :
    p_225 (a0) σ (Int32.ofInt (1)) τ14 := by
  exact absurd h13 h10
theorem sp_225_ettttttf (a0 : Nat) (σ : zSg) (τ1 : zSg) (r1 : Int32) (τ3 : zSg) (r3 : Int32) (τ5 : zSg) (r5 : Int32) (τ7 : zSg) (r7 : Int32) (τ9 : zSg) (r9 : Int32) (τ11 : zSg) (r11 : Int32) (τ15 : zSg) (g1 : p_206 a0 (Int32.ofInt (40)) σ r1 τ1) (h2 : r1.toInt = (0 : Int)) (g3 : p_205 a0 (zB + 63) τ1 r3 τ3) (h4 : r3.toInt = (0 : Int)) (g5 : p_224 a0 τ3 r5 τ5) (h6 : r5.toInt = (0 : Int)) (g7 : p_223 a0 τ5 r7 τ7) (h8 : r7.toInt ≠ (0 : Int)) (g9 : p_206 a0 (Int32.ofInt (60)) τ7 r9 τ9) (h10 : r9.toInt ≠ (0 : Int)) (g11 : p_223 a0 τ9 r11 τ11) (h12 : r11.toInt ≠ (0 : Int)) (h13 : r9.toInt ≠ (0 : Int)) (g15 : p_221 a0 (Int32.ofInt (10)) (Int32.ofInt (0)) τ11 τ15) :
    p_225 (a0) σ (Int32.ofInt (1)) τ15 := by
  intro W b P E D l H
  obtain ⟨f1, -, -, q1⟩ := H.sg g1
  obtain ⟨e1, H1⟩ := q1 h2
  obtain ⟨f2, -, q3, q2⟩ := H1.ps g3 qsi_63 (by decide)
  rw [zBl_bl] at q2 q3
  obtain ⟨e2, H2x⟩ := q2 h4
  obtain ⟨f3, q4⟩ := g5 W b _ E D l H2x
  rw [zBl_bl] at q4
  rcases q4 with ⟨q5, -⟩ | ⟨-, e3, e4, H3x⟩
  · exact absurd h6 q5
  obtain ⟨f4, R, g1, g2⟩ := g7 W b _ E D l H3x
  rw [zBl_bl] at g1
  cases R with
  | inr F => exact absurd g2.1 h8
  | inl q =>
  obtain ⟨A1, m1⟩ := q
  obtain ⟨-, P4, p4, rfl, H4x⟩ := g2
  obtain ⟨f5, s5, q6, q7⟩ := H4x.sg g9
  obtain ⟨e5, H5x⟩ := q6 h10
  obtain ⟨f6, r9, g3, g4⟩ := g11 W b _ E D _ H5x
  cases r9 with
  | inr F => exact absurd g4.1 h12
  | inl q =>
  obtain ⟨A2, m2⟩ := q
  obtain ⟨-, P6, p6, rfl, H6x⟩ := g4
  obtain ⟨f7, -, h2⟩ := g15 W b _ E D _ H6x
  have H8 := h2 10 0 rfl rfl
  refine ⟨((((f1.tr f2).tr f3).tr f4).tr f5).tr (f6.tr f7), _, GA.base e1 e2 (GB.less e3 e4 g1 e5 g3), by decide, P6, p6, rfl, ?_⟩
  rw [show l ++ (m1 ++ m2 ++ [(10, 0)]) = l ++ m1 ++ m2 ++ [(10, 0)] by simp only [List.append_assoc]]
  exact H8
theorem sp_225_etttttf (a0 : Nat) (σ : zSg) (τ1 : zSg) (r1 : Int32) (τ3 : zSg) (r3 : Int32) (τ5 : zSg) (r5 : Int32) (τ7 : zSg) (r7 : Int32) (τ9 : zSg) (r9 : Int32) (τ11 : zSg) (r11 : Int32) (g1 : p_206 a0 (Int32.ofInt (40)) σ r1 τ1) (h2 : r1.toInt = (0 : Int)) (g3 : p_205 a0 (zB + 63) τ1 r3 τ3) (h4 : r3.toInt = (0 : Int)) (g5 : p_224 a0 τ3 r5 τ5) (h6 : r5.toInt = (0 : Int)) (g7 : p_223 a0 τ5 r7 τ7) (h8 : r7.toInt ≠ (0 : Int)) (g9 : p_206 a0 (Int32.ofInt (60)) τ7 r9 τ9) (h10 : r9.toInt ≠ (0 : Int)) (g11 : p_223 a0 τ9 r11 τ11) (h12 : r11.toInt = (0 : Int)) :
    p_225 (a0) σ (Int32.ofInt (0)) τ11 := by
  intro W b P E D l H
  obtain ⟨f1, -, -, q1⟩ := H.sg g1
  obtain ⟨e1, H1⟩ := q1 h2
  obtain ⟨f2, -, q3, q2⟩ := H1.ps g3 qsi_63 (by decide)
  rw [zBl_bl] at q2 q3
  obtain ⟨e2, H2x⟩ := q2 h4
  obtain ⟨f3, q4⟩ := g5 W b _ E D l H2x
  rw [zBl_bl] at q4
  rcases q4 with ⟨q5, -⟩ | ⟨-, e3, e4, H3x⟩
  · exact absurd h6 q5
  obtain ⟨f4, R, g1, g2⟩ := g7 W b _ E D l H3x
  rw [zBl_bl] at g1
  cases R with
  | inr F => exact absurd g2.1 h8
  | inl q =>
  obtain ⟨A1, m1⟩ := q
  obtain ⟨-, P4, p4, rfl, H4x⟩ := g2
  obtain ⟨f5, s5, q6, q7⟩ := H4x.sg g9
  obtain ⟨e5, H5x⟩ := q6 h10
  obtain ⟨f6, r9, g3, g4⟩ := g11 W b _ E D _ H5x
  cases r9 with
  | inl q => exact absurd h12 g4.1
  | inr F => exact ⟨((((f1.tr f2).tr f3).tr f4).tr f5).tr f6, _, GA.base e1 e2 (GB.less e3 e4 g1 e5 g3), rfl, g4.2⟩
theorem sp_225_ettttft (a0 : Nat) (σ : zSg) (τ1 : zSg) (r1 : Int32) (τ3 : zSg) (r3 : Int32) (τ5 : zSg) (r5 : Int32) (τ7 : zSg) (r7 : Int32) (τ9 : zSg) (r9 : Int32) (τ16 : zSg) (r16 : Int32) (g1 : p_206 a0 (Int32.ofInt (40)) σ r1 τ1) (h2 : r1.toInt = (0 : Int)) (g3 : p_205 a0 (zB + 63) τ1 r3 τ3) (h4 : r3.toInt = (0 : Int)) (g5 : p_224 a0 τ3 r5 τ5) (h6 : r5.toInt = (0 : Int)) (g7 : p_223 a0 τ5 r7 τ7) (h8 : r7.toInt ≠ (0 : Int)) (g9 : p_206 a0 (Int32.ofInt (60)) τ7 r9 τ9) (h10 : r9.toInt = (0 : Int)) (g16 : p_206 a0 (Int32.ofInt (62)) τ9 r16 τ16) (h17 : r16.toInt = (0 : Int)) :
    p_225 (a0) σ (Int32.ofInt (0)) τ16 := by
  intro W b P E D l H
  obtain ⟨f1, -, -, q1⟩ := H.sg g1
  obtain ⟨e1, H1⟩ := q1 h2
  obtain ⟨f2, -, q3, q2⟩ := H1.ps g3 qsi_63 (by decide)
  rw [zBl_bl] at q2 q3
  obtain ⟨e2, H2x⟩ := q2 h4
  obtain ⟨f3, q4⟩ := g5 W b _ E D l H2x
  rw [zBl_bl] at q4
  rcases q4 with ⟨q5, -⟩ | ⟨-, e3, e4, H3x⟩
  · exact absurd h6 q5
  obtain ⟨f4, R, g1, g2⟩ := g7 W b _ E D l H3x
  rw [zBl_bl] at g1
  cases R with
  | inr F => exact absurd g2.1 h8
  | inl q =>
  obtain ⟨A1, m1⟩ := q
  obtain ⟨-, P4, p4, rfl, H4x⟩ := g2
  obtain ⟨f5, s5, q6, q7⟩ := H4x.sg g9
  obtain ⟨e5, H5x⟩ := q7 h10
  obtain ⟨f6, s6, -, q8⟩ := H5x.sg g16
  rw [zBl_bl] at q8 s6
  obtain ⟨e6, H6x⟩ := q8 h17
  exact ⟨((((f1.tr f2).tr f3).tr f4).tr f5).tr f6, _, GA.base e1 e2 (GB.wrong2 e3 e4 g1 e5 e6), rfl, s6⟩
theorem sp_225_ettttfftt (a0 : Nat) (σ : zSg) (τ1 : zSg) (r1 : Int32) (τ3 : zSg) (r3 : Int32) (τ5 : zSg) (r5 : Int32) (τ7 : zSg) (r7 : Int32) (τ9 : zSg) (r9 : Int32) (τ16 : zSg) (r16 : Int32) (τ18 : zSg) (r18 : Int32) (τ21 : zSg) (g1 : p_206 a0 (Int32.ofInt (40)) σ r1 τ1) (h2 : r1.toInt = (0 : Int)) (g3 : p_205 a0 (zB + 63) τ1 r3 τ3) (h4 : r3.toInt = (0 : Int)) (g5 : p_224 a0 τ3 r5 τ5) (h6 : r5.toInt = (0 : Int)) (g7 : p_223 a0 τ5 r7 τ7) (h8 : r7.toInt ≠ (0 : Int)) (g9 : p_206 a0 (Int32.ofInt (60)) τ7 r9 τ9) (h10 : r9.toInt = (0 : Int)) (g16 : p_206 a0 (Int32.ofInt (62)) τ9 r16 τ16) (h17 : r16.toInt ≠ (0 : Int)) (g18 : p_223 a0 τ16 r18 τ18) (h19 : r18.toInt ≠ (0 : Int)) (h20 : r9.toInt = (0 : Int)) (g21 : p_221 a0 (Int32.ofInt (11)) (Int32.ofInt (0)) τ18 τ21) :
    p_225 (a0) σ (Int32.ofInt (1)) τ21 := by
  intro W b P E D l H
  obtain ⟨f1, -, -, q1⟩ := H.sg g1
  obtain ⟨e1, H1⟩ := q1 h2
  obtain ⟨f2, -, q3, q2⟩ := H1.ps g3 qsi_63 (by decide)
  rw [zBl_bl] at q2 q3
  obtain ⟨e2, H2x⟩ := q2 h4
  obtain ⟨f3, q4⟩ := g5 W b _ E D l H2x
  rw [zBl_bl] at q4
  rcases q4 with ⟨q5, -⟩ | ⟨-, e3, e4, H3x⟩
  · exact absurd h6 q5
  obtain ⟨f4, R, g1, g2⟩ := g7 W b _ E D l H3x
  rw [zBl_bl] at g1
  cases R with
  | inr F => exact absurd g2.1 h8
  | inl q =>
  obtain ⟨A1, m1⟩ := q
  obtain ⟨-, P4, p4, rfl, H4x⟩ := g2
  obtain ⟨f5, s5, q6, q7⟩ := H4x.sg g9
  obtain ⟨e5, H5x⟩ := q7 h10
  obtain ⟨f6, s6, q8, -⟩ := H5x.sg g16
  rw [zBl_bl] at q8
  obtain ⟨e6, H6x⟩ := q8 h17
  obtain ⟨f7, r16, g3, g4⟩ := g18 W b _ E D _ H6x
  cases r16 with
  | inr F => exact absurd g4.1 h19
  | inl q =>
  obtain ⟨A2, m2⟩ := q
  obtain ⟨-, P6, p6, rfl, H7x⟩ := g4
  obtain ⟨f8, -, h4⟩ := g21 W b _ E D _ H7x
  have h2 := h4 11 0 rfl rfl
  refine ⟨((((f1.tr f2).tr f3).tr f4).tr f5).tr ((f6.tr f7).tr f8), _, GA.base e1 e2 (GB.more e3 e4 g1 e5 e6 g3), by decide, P6, p6, rfl, ?_⟩
  rw [show l ++ (m1 ++ m2 ++ [(11, 0)]) = l ++ m1 ++ m2 ++ [(11, 0)] by simp only [List.append_assoc]]
  exact h2
theorem sp_225_ettttfftf (a0 : Nat) (σ : zSg) (τ1 : zSg) (r1 : Int32) (τ3 : zSg) (r3 : Int32) (τ5 : zSg) (r5 : Int32) (τ7 : zSg) (r7 : Int32) (τ9 : zSg) (r9 : Int32) (τ16 : zSg) (r16 : Int32) (τ18 : zSg) (r18 : Int32) (τ22 : zSg) (g1 : p_206 a0 (Int32.ofInt (40)) σ r1 τ1) (h2 : r1.toInt = (0 : Int)) (g3 : p_205 a0 (zB + 63) τ1 r3 τ3) (h4 : r3.toInt = (0 : Int)) (g5 : p_224 a0 τ3 r5 τ5) (h6 : r5.toInt = (0 : Int)) (g7 : p_223 a0 τ5 r7 τ7) (h8 : r7.toInt ≠ (0 : Int)) (g9 : p_206 a0 (Int32.ofInt (60)) τ7 r9 τ9) (h10 : r9.toInt = (0 : Int)) (g16 : p_206 a0 (Int32.ofInt (62)) τ9 r16 τ16) (h17 : r16.toInt ≠ (0 : Int)) (g18 : p_223 a0 τ16 r18 τ18) (h19 : r18.toInt ≠ (0 : Int)) (h20 : r9.toInt ≠ (0 : Int)) (g22 : p_221 a0 (Int32.ofInt (10)) (Int32.ofInt (0)) τ18 τ22) :
    p_225 (a0) σ (Int32.ofInt (1)) τ22 := by
  exact absurd h10 h20
theorem sp_225_ettttfff (a0 : Nat) (σ : zSg) (τ1 : zSg) (r1 : Int32) (τ3 : zSg) (r3 : Int32) (τ5 : zSg) (r5 : Int32) (τ7 : zSg) (r7 : Int32) (τ9 : zSg) (r9 : Int32) (τ16 : zSg) (r16 : Int32) (τ18 : zSg) (r18 : Int32) (g1 : p_206 a0 (Int32.ofInt (40)) σ r1 τ1) (h2 : r1.toInt = (0 : Int)) (g3 : p_205 a0 (zB + 63) τ1 r3 τ3) (h4 : r3.toInt = (0 : Int)) (g5 : p_224 a0 τ3 r5 τ5) (h6 : r5.toInt = (0 : Int)) (g7 : p_223 a0 τ5 r7 τ7) (h8 : r7.toInt ≠ (0 : Int)) (g9 : p_206 a0 (Int32.ofInt (60)) τ7 r9 τ9) (h10 : r9.toInt = (0 : Int)) (g16 : p_206 a0 (Int32.ofInt (62)) τ9 r16 τ16) (h17 : r16.toInt ≠ (0 : Int)) (g18 : p_223 a0 τ16 r18 τ18) (h19 : r18.toInt = (0 : Int)) :
    p_225 (a0) σ (Int32.ofInt (0)) τ18 := by
  intro W b P E D l H
  obtain ⟨f1, -, -, q1⟩ := H.sg g1
  obtain ⟨e1, H1⟩ := q1 h2
  obtain ⟨f2, -, q3, q2⟩ := H1.ps g3 qsi_63 (by decide)
  rw [zBl_bl] at q2 q3
  obtain ⟨e2, H2x⟩ := q2 h4
  obtain ⟨f3, q4⟩ := g5 W b _ E D l H2x
  rw [zBl_bl] at q4
  rcases q4 with ⟨q5, -⟩ | ⟨-, e3, e4, H3x⟩
  · exact absurd h6 q5
  obtain ⟨f4, R, g1, g2⟩ := g7 W b _ E D l H3x
  rw [zBl_bl] at g1
  cases R with
  | inr F => exact absurd g2.1 h8
  | inl q =>
  obtain ⟨A1, m1⟩ := q
  obtain ⟨-, P4, p4, rfl, H4x⟩ := g2
  obtain ⟨f5, s5, q6, q7⟩ := H4x.sg g9
  obtain ⟨e5, H5x⟩ := q7 h10
  obtain ⟨f6, s6, q8, -⟩ := H5x.sg g16
  rw [zBl_bl] at q8
  obtain ⟨e6, H6x⟩ := q8 h17
  obtain ⟨f7, r16, g3, g4⟩ := g18 W b _ E D _ H6x
  cases r16 with
  | inl q => exact absurd h19 g4.1
  | inr F => exact ⟨((((f1.tr f2).tr f3).tr f4).tr f5).tr (f6.tr f7), _, GA.base e1 e2 (GB.more e3 e4 g1 e5 e6 g3), rfl, g4.2⟩
theorem sp_225_etttf (a0 : Nat) (σ : zSg) (τ1 : zSg) (r1 : Int32) (τ3 : zSg) (r3 : Int32) (τ5 : zSg) (r5 : Int32) (τ7 : zSg) (r7 : Int32) (g1 : p_206 a0 (Int32.ofInt (40)) σ r1 τ1) (h2 : r1.toInt = (0 : Int)) (g3 : p_205 a0 (zB + 63) τ1 r3 τ3) (h4 : r3.toInt = (0 : Int)) (g5 : p_224 a0 τ3 r5 τ5) (h6 : r5.toInt = (0 : Int)) (g7 : p_223 a0 τ5 r7 τ7) (h8 : r7.toInt = (0 : Int)) :
    p_225 (a0) σ (Int32.ofInt (0)) τ7 := by
  intro W b P E D l H
  obtain ⟨f1, -, -, q1⟩ := H.sg g1
  obtain ⟨e1, H1⟩ := q1 h2
  obtain ⟨f2, -, q3, q2⟩ := H1.ps g3 qsi_63 (by decide)
  rw [zBl_bl] at q2 q3
  obtain ⟨e2, H2x⟩ := q2 h4
  obtain ⟨f3, q4⟩ := g5 W b _ E D l H2x
  rw [zBl_bl] at q4
  rcases q4 with ⟨q5, -⟩ | ⟨-, e3, e4, H3x⟩
  · exact absurd h6 q5
  obtain ⟨f4, R, g1, g2⟩ := g7 W b _ E D l H3x
  rw [zBl_bl] at g1
  refine ⟨((f1.tr f2).tr f3).tr f4, ?_⟩
  cases R with
  | inl q => exact absurd h8 g2.1
  | inr F => exact ⟨_, GA.base e1 e2 (GB.wrong1 e3 e4 g1), rfl, g2.2⟩
theorem sp_225_ettf (a0 : Nat) (σ : zSg) (τ1 : zSg) (r1 : Int32) (τ3 : zSg) (r3 : Int32) (τ5 : zSg) (r5 : Int32) (g1 : p_206 a0 (Int32.ofInt (40)) σ r1 τ1) (h2 : r1.toInt = (0 : Int)) (g3 : p_205 a0 (zB + 63) τ1 r3 τ3) (h4 : r3.toInt = (0 : Int)) (g5 : p_224 a0 τ3 r5 τ5) (h6 : r5.toInt ≠ (0 : Int)) :
    p_225 (a0) σ (Int32.ofInt (1)) τ5 := by
  intro W b P E D l H
  obtain ⟨f1, -, -, q1⟩ := H.sg g1
  obtain ⟨e1, H1⟩ := q1 h2
  obtain ⟨f2, -, q3, q2⟩ := H1.ps g3 qsi_63 (by decide)
  rw [zBl_bl] at q2 q3
  obtain ⟨e2, H2x⟩ := q2 h4
  obtain ⟨f3, q4⟩ := g5 W b _ E D l H2x
  rw [zBl_bl] at q4
  refine ⟨(f1.tr f2).tr f3, ?_⟩
  rcases q4 with ⟨-, R, g1, g2⟩ | ⟨q5, -⟩
  · cases R with
    | inr F => exact absurd g2.1 h6
    | inl q =>
      obtain ⟨A1, m⟩ := q
      exact ⟨_, GA.base e1 e2 g1, by decide, g2.2⟩
  · exact absurd q5 h6
theorem sp_225_etftt (a0 : Nat) (σ : zSg) (τ1 : zSg) (r1 : Int32) (τ3 : zSg) (r3 : Int32) (τ24 : zSg) (r24 : Int32) (τ26 : zSg) (g1 : p_206 a0 (Int32.ofInt (40)) σ r1 τ1) (h2 : r1.toInt = (0 : Int)) (g3 : p_205 a0 (zB + 63) τ1 r3 τ3) (h4 : r3.toInt ≠ (0 : Int)) (h23 : (q_i (τ3.1 a0 13)).toInt ≠ (6 : Int)) (g24 : p_225 a0 (q_w τ3 a0 13 (.int ((q_i (τ3.1 a0 13)) + (Int32.ofInt (1))))) r24 τ24) (h25 : r24.toInt ≠ (0 : Int)) (g26 : p_221 a0 (Int32.ofInt (12)) (Int32.ofInt (0)) (q_w τ24 a0 13 (.int ((q_i (τ24.1 a0 13)) - (Int32.ofInt (1))))) τ26) :
    p_225 (a0) σ (Int32.ofInt (1)) τ26 := by
  intro W b P E D l H
  obtain ⟨f1, -, -, q1⟩ := H.sg g1
  obtain ⟨e1, H1⟩ := q1 h2
  obtain ⟨f2, -, q3, q2⟩ := H1.ps g3 qsi_63 (by decide)
  rw [zBl_bl] at q2 q3
  obtain ⟨e2, H2x⟩ := q3 h4
  have hD := H2x.2.2.2.2.2.2.2.1
  rw [H2x.nodp] at h23
  have hd : q_i (τ3.1 a0 13) + Int32.ofInt 1 = Int32.ofNat (D + 1) := by
    rw [H2x.2.2.2.2.2.2.1]
    exact o32i (by omega)
  rw [hd] at g24
  obtain ⟨f3, R, g1, g2⟩ := g24 W b _ E _ l (H2x.dp (by omega))
  cases R with
  | inr F => exact absurd g2.1 h25
  | inl q =>
  obtain ⟨A1, m⟩ := q
  obtain ⟨-, P3, p3, rfl, H3x⟩ := g2
  have hd2 : q_i (τ24.1 a0 13) - Int32.ofInt 1 = Int32.ofNat D := by
    rw [H3x.2.2.2.2.2.2.1]
    refine Int32.toInt_inj.mp ?_
    have h9 : (Int32.ofNat (D + 1) - Int32.ofInt 1).toInt = ((D + 1 : Nat) : Int) - 1 := zI_sub (o32 (by omega)) (zI_c (by omega) (by omega)) (by omega) (by omega)
    rw [o32 (by omega)]
    exact h9.trans (by omega)
  rw [hd2] at g26
  obtain ⟨f4, -, H4x⟩ := g26 W b _ E _ _ (H3x.dp (K := D) (by omega))
  have H5 := H4x 12 0 rfl rfl
  refine ⟨(((f1.tr f2).tr (rF.w (by omega))).tr f3).tr ((rF.w (by omega)).tr f4), _, GA.not (by omega) e1 e2 g1, by decide, P3, p3, rfl, ?_⟩
  rw [show l ++ (m ++ [(12, 0)]) = l ++ m ++ [(12, 0)] by simp only [List.append_assoc]]
  exact H5
theorem sp_225_etftf (a0 : Nat) (σ : zSg) (τ1 : zSg) (r1 : Int32) (τ3 : zSg) (r3 : Int32) (τ24 : zSg) (r24 : Int32) (g1 : p_206 a0 (Int32.ofInt (40)) σ r1 τ1) (h2 : r1.toInt = (0 : Int)) (g3 : p_205 a0 (zB + 63) τ1 r3 τ3) (h4 : r3.toInt ≠ (0 : Int)) (h23 : (q_i (τ3.1 a0 13)).toInt ≠ (6 : Int)) (g24 : p_225 a0 (q_w τ3 a0 13 (.int ((q_i (τ3.1 a0 13)) + (Int32.ofInt (1))))) r24 τ24) (h25 : r24.toInt = (0 : Int)) :
    p_225 (a0) σ (Int32.ofInt (0)) τ24 := by
  intro W b P E D l H
  obtain ⟨f1, -, -, q1⟩ := H.sg g1
  obtain ⟨e1, H1⟩ := q1 h2
  obtain ⟨f2, -, q3, q2⟩ := H1.ps g3 qsi_63 (by decide)
  rw [zBl_bl] at q2 q3
  obtain ⟨e2, H2x⟩ := q3 h4
  have hD := H2x.2.2.2.2.2.2.2.1
  rw [H2x.nodp] at h23
  have hd : q_i (τ3.1 a0 13) + Int32.ofInt 1 = Int32.ofNat (D + 1) := by
    rw [H2x.2.2.2.2.2.2.1]
    exact o32i (by omega)
  rw [hd] at g24
  obtain ⟨f3, R, g1, g2⟩ := g24 W b _ E _ l (H2x.dp (by omega))
  cases R with
  | inl q => exact absurd h25 g2.1
  | inr F => exact ⟨((f1.tr f2).tr (rF.w (by omega))).tr f3, _, GA.not (by omega) e1 e2 g1, rfl, g2.2⟩
theorem sp_225_etff (a0 : Nat) (σ : zSg) (τ1 : zSg) (r1 : Int32) (τ3 : zSg) (r3 : Int32) (g1 : p_206 a0 (Int32.ofInt (40)) σ r1 τ1) (h2 : r1.toInt = (0 : Int)) (g3 : p_205 a0 (zB + 63) τ1 r3 τ3) (h4 : r3.toInt ≠ (0 : Int)) (h23 : (q_i (τ3.1 a0 13)).toInt = (6 : Int)) :
    p_225 (a0) σ (Int32.ofInt (0)) τ3 := by
  intro W b P E D l H
  obtain ⟨f1, -, -, q1⟩ := H.sg g1
  obtain ⟨e1, H1⟩ := q1 h2
  obtain ⟨f2, s2, q3, q2⟩ := H1.ps g3 qsi_63 (by decide)
  rw [zBl_bl] at q2 q3 s2
  obtain ⟨e2, H2x⟩ := q3 h4
  rw [H2x.nodp] at h23
  have hD : D = 6 := by omega
  subst hD
  exact ⟨f1.tr f2, _, GA.deep2 e1 e2, rfl, s2⟩
theorem sp_225_eftt (a0 : Nat) (σ : zSg) (τ1 : zSg) (r1 : Int32) (τ28 : zSg) (r28 : Int32) (τ30 : zSg) (r30 : Int32) (g1 : p_206 a0 (Int32.ofInt (40)) σ r1 τ1) (h2 : r1.toInt ≠ (0 : Int)) (h27 : (q_i (τ1.1 a0 13)).toInt ≠ (6 : Int)) (g28 : p_227 a0 (q_w τ1 a0 13 (.int ((q_i (τ1.1 a0 13)) + (Int32.ofInt (1))))) r28 τ28) (h29 : r28.toInt ≠ (0 : Int)) (g30 : p_206 a0 (Int32.ofInt (41)) (q_w τ28 a0 13 (.int ((q_i (τ28.1 a0 13)) - (Int32.ofInt (1))))) r30 τ30) :
    p_225 (a0) σ r30 τ30 := by
  intro W b P E D l H
  obtain ⟨f1, -, q1, -⟩ := H.sg g1
  obtain ⟨e1, H1x⟩ := q1 h2
  have hD := H1x.2.2.2.2.2.2.2.1
  rw [H1x.nodp] at h27
  have hd : q_i (τ1.1 a0 13) + Int32.ofInt 1 = Int32.ofNat (D + 1) := by
    rw [H1x.2.2.2.2.2.2.1]
    exact o32i (by omega)
  rw [hd] at g28
  obtain ⟨f3, R, g1, g2⟩ := g28 W b _ E _ l (H1x.dp (by omega))
  cases R with
  | inr F => exact absurd g2.1 h29
  | inl q =>
  obtain ⟨A1, m⟩ := q
  obtain ⟨-, P3, p3, rfl, H3x⟩ := g2
  have hd2 : q_i (τ28.1 a0 13) - Int32.ofInt 1 = Int32.ofNat D := by
    rw [H3x.2.2.2.2.2.2.1]
    refine Int32.toInt_inj.mp ?_
    have h9 : (Int32.ofNat (D + 1) - Int32.ofInt 1).toInt = ((D + 1 : Nat) : Int) - 1 := zI_sub (o32 (by omega)) (zI_c (by omega) (by omega)) (by omega) (by omega)
    rw [o32 (by omega)]
    exact h9.trans (by omega)
  rw [hd2] at g30
  have H4x := H3x.dp (K := D) (by omega)
  obtain ⟨f4, s4, q5, q6⟩ := H4x.sg g30
  refine ⟨((f1.tr (rF.w (by omega))).tr f3).tr ((rF.w (by omega)).tr f4), _, GA.par (by omega) e1 g1, ?_⟩
  by_cases hr : r30.toInt = 0
  · obtain ⟨e5, H5x⟩ := q6 hr
    have e5x : ts b E 41 (zBl b E P3) = none := e5
    dsimp only
    rw [e5x]
    exact ⟨hr, s4⟩
  · obtain ⟨e5, H5x⟩ := q5 hr
    have e5x : ts b E 41 (zBl b E P3) = some (zBl b E (zBl b E P3 + 1)) := e5
    dsimp only
    rw [e5x]
    exact ⟨hr, _, H5x.le.1, rfl, H5x⟩
theorem sp_225_eftf (a0 : Nat) (σ : zSg) (τ1 : zSg) (r1 : Int32) (τ28 : zSg) (r28 : Int32) (g1 : p_206 a0 (Int32.ofInt (40)) σ r1 τ1) (h2 : r1.toInt ≠ (0 : Int)) (h27 : (q_i (τ1.1 a0 13)).toInt ≠ (6 : Int)) (g28 : p_227 a0 (q_w τ1 a0 13 (.int ((q_i (τ1.1 a0 13)) + (Int32.ofInt (1))))) r28 τ28) (h29 : r28.toInt = (0 : Int)) :
    p_225 (a0) σ (Int32.ofInt (0)) τ28 := by
  intro W b P E D l H
  obtain ⟨f1, -, q1, -⟩ := H.sg g1
  obtain ⟨e1, H1x⟩ := q1 h2
  have hD := H1x.2.2.2.2.2.2.2.1
  rw [H1x.nodp] at h27
  have hd : q_i (τ1.1 a0 13) + Int32.ofInt 1 = Int32.ofNat (D + 1) := by
    rw [H1x.2.2.2.2.2.2.1]
    exact o32i (by omega)
  rw [hd] at g28
  obtain ⟨f3, R, g1, g2⟩ := g28 W b _ E _ l (H1x.dp (by omega))
  cases R with
  | inl q => exact absurd h29 g2.1
  | inr F => exact ⟨(f1.tr (rF.w (by omega))).tr f3, _, GA.par (by omega) e1 g1, rfl, g2.2⟩
theorem sp_225_eff (a0 : Nat) (σ : zSg) (τ1 : zSg) (r1 : Int32) (g1 : p_206 a0 (Int32.ofInt (40)) σ r1 τ1) (h2 : r1.toInt ≠ (0 : Int)) (h27 : (q_i (τ1.1 a0 13)).toInt = (6 : Int)) :
    p_225 (a0) σ (Int32.ofInt (0)) τ1 := by
  intro W b P E D l H
  obtain ⟨f1, s1, q1, -⟩ := H.sg g1
  obtain ⟨e1, H1x⟩ := q1 h2
  rw [H1x.nodp] at h27
  have hD : D = 6 := by omega
  subst hD
  exact ⟨f1, _, GA.deep1 e1, rfl, s1⟩
set_option maxRecDepth 100000 in
theorem sp_225 {sx : zX} {m : Nat} (S206 : zEe sx 206 2 qP_206) (S205 : zEe sx 205 2 qP_205) (S224 : zEe sx 224 1 qP_224) (S223 : zEe sx 223 1 qP_223) (S221 : zEe sx 221 3 qP_221) (S225 : zMt sx m 225 1 qP_225) (S227 : zMt sx m 227 1 qP_227) : zMt sx (m + 1) 225 1 qP_225 := by
  refine zfl zJ_225 (sps := [(206, 2, qP_206), (205, 2, qP_205), (224, 1, qP_224), (223, 1, qP_223), (221, 3, qP_221), (225, 1, qP_225), (227, 1, qP_227)]) (fun q hq => by
    simp only [List.mem_cons, List.not_mem_nil, or_false] at hq
    rcases hq with rfl | rfl | rfl | rfl | rfl | rfl | rfl
    · exact S206 m
    · exact S205 m
    · exact S224 m
    · exact S223 m
    · exact S221 m
    · exact S225
    · exact S227) (fun as σ hl => ?_)
  match as, hl with
  | [a0], _ =>
  refine ⟨[], 400, ?_, ?_⟩
  · exact fun q hq => absurd hq List.not_mem_nil
  · refine fun o1 τ1 g1 => ?_
    obtain ⟨r1, rfl, g1⟩ := g1
    refine And.intro (fun h2 => ?_) (fun h2 => ?_)
    · refine fun o3 τ3 g3 => ?_
      obtain ⟨r3, rfl, g3⟩ := g3
      refine And.intro (fun h4 => ?_) (fun h4 => ?_)
      · refine fun o5 τ5 g5 => ?_
        obtain ⟨r5, rfl, g5⟩ := g5
        refine And.intro (fun h6 => ?_) (fun h6 => ?_)
        · refine fun o7 τ7 g7 => ?_
          obtain ⟨r7, rfl, g7⟩ := g7
          refine And.intro (fun h8 => ?_) (fun h8 => ?_)
          · refine fun o9 τ9 g9 => ?_
            obtain ⟨r9, rfl, g9⟩ := g9
            refine And.intro (fun h10 => ?_) (fun h10 => ?_)
            · refine fun o11 τ11 g11 => ?_
              obtain ⟨r11, rfl, g11⟩ := g11
              refine And.intro (fun h12 => ?_) (fun h12 => ?_)
              · refine And.intro (fun h13 => ?_) (fun h13 => ?_)
                · refine fun o14 τ14 g14 => ?_
                  obtain ⟨rfl, g14⟩ := g14
                  exact ⟨_, rfl, sp_225_ettttttt (q_r a0) σ τ1 r1 τ3 r3 τ5 r5 τ7 r7 τ9 r9 τ11 r11 τ14 g1 (cm0t h2) g3 (cm0t h4) g5 (cm0t h6) g7 (cm1t h8) g9 (cm1t h10) g11 (cm1t h12) (cm0t h13) g14⟩
                · refine fun o15 τ15 g15 => ?_
                  obtain ⟨rfl, g15⟩ := g15
                  exact ⟨_, rfl, sp_225_ettttttf (q_r a0) σ τ1 r1 τ3 r3 τ5 r5 τ7 r7 τ9 r9 τ11 r11 τ15 g1 (cm0t h2) g3 (cm0t h4) g5 (cm0t h6) g7 (cm1t h8) g9 (cm1t h10) g11 (cm1t h12) (cm0f h13) g15⟩
              · exact ⟨_, rfl, sp_225_etttttf (q_r a0) σ τ1 r1 τ3 r3 τ5 r5 τ7 r7 τ9 r9 τ11 r11 g1 (cm0t h2) g3 (cm0t h4) g5 (cm0t h6) g7 (cm1t h8) g9 (cm1t h10) g11 (cm1f h12)⟩
            · refine fun o16 τ16 g16 => ?_
              obtain ⟨r16, rfl, g16⟩ := g16
              refine And.intro (fun h17 => ?_) (fun h17 => ?_)
              · exact ⟨_, rfl, sp_225_ettttft (q_r a0) σ τ1 r1 τ3 r3 τ5 r5 τ7 r7 τ9 r9 τ16 r16 g1 (cm0t h2) g3 (cm0t h4) g5 (cm0t h6) g7 (cm1t h8) g9 (cm1f h10) g16 (cm0t h17)⟩
              · refine fun o18 τ18 g18 => ?_
                obtain ⟨r18, rfl, g18⟩ := g18
                refine And.intro (fun h19 => ?_) (fun h19 => ?_)
                · refine And.intro (fun h20 => ?_) (fun h20 => ?_)
                  · refine fun o21 τ21 g21 => ?_
                    obtain ⟨rfl, g21⟩ := g21
                    exact ⟨_, rfl, sp_225_ettttfftt (q_r a0) σ τ1 r1 τ3 r3 τ5 r5 τ7 r7 τ9 r9 τ16 r16 τ18 r18 τ21 g1 (cm0t h2) g3 (cm0t h4) g5 (cm0t h6) g7 (cm1t h8) g9 (cm1f h10) g16 (cm0f h17) g18 (cm1t h19) (cm0t h20) g21⟩
                  · refine fun o22 τ22 g22 => ?_
                    obtain ⟨rfl, g22⟩ := g22
                    exact ⟨_, rfl, sp_225_ettttfftf (q_r a0) σ τ1 r1 τ3 r3 τ5 r5 τ7 r7 τ9 r9 τ16 r16 τ18 r18 τ22 g1 (cm0t h2) g3 (cm0t h4) g5 (cm0t h6) g7 (cm1t h8) g9 (cm1f h10) g16 (cm0f h17) g18 (cm1t h19) (cm0f h20) g22⟩
                · exact ⟨_, rfl, sp_225_ettttfff (q_r a0) σ τ1 r1 τ3 r3 τ5 r5 τ7 r7 τ9 r9 τ16 r16 τ18 r18 g1 (cm0t h2) g3 (cm0t h4) g5 (cm0t h6) g7 (cm1t h8) g9 (cm1f h10) g16 (cm0f h17) g18 (cm1f h19)⟩
          · exact ⟨_, rfl, sp_225_etttf (q_r a0) σ τ1 r1 τ3 r3 τ5 r5 τ7 r7 g1 (cm0t h2) g3 (cm0t h4) g5 (cm0t h6) g7 (cm1f h8)⟩
        · exact ⟨_, rfl, sp_225_ettf (q_r a0) σ τ1 r1 τ3 r3 τ5 r5 g1 (cm0t h2) g3 (cm0t h4) g5 (cm0f h6)⟩
      · refine And.intro (fun h23 => ?_) (fun h23 => ?_)
        · refine fun o24 τ24 g24 => ?_
          obtain ⟨r24, rfl, g24⟩ := g24
          refine And.intro (fun h25 => ?_) (fun h25 => ?_)
          · refine fun o26 τ26 g26 => ?_
            obtain ⟨rfl, g26⟩ := g26
            exact ⟨_, rfl, sp_225_etftt (q_r a0) σ τ1 r1 τ3 r3 τ24 r24 τ26 g1 (cm0t h2) g3 (cm0f h4) (cm1t h23) g24 (cm1t h25) g26⟩
          · exact ⟨_, rfl, sp_225_etftf (q_r a0) σ τ1 r1 τ3 r3 τ24 r24 g1 (cm0t h2) g3 (cm0f h4) (cm1t h23) g24 (cm1f h25)⟩
        · exact ⟨_, rfl, sp_225_etff (q_r a0) σ τ1 r1 τ3 r3 g1 (cm0t h2) g3 (cm0f h4) (cm1f h23)⟩
    · refine And.intro (fun h27 => ?_) (fun h27 => ?_)
      · refine fun o28 τ28 g28 => ?_
        obtain ⟨r28, rfl, g28⟩ := g28
        refine And.intro (fun h29 => ?_) (fun h29 => ?_)
        · refine fun o30 τ30 g30 => ?_
          obtain ⟨r30, rfl, g30⟩ := g30
          exact ⟨_, rfl, sp_225_eftt (q_r a0) σ τ1 r1 τ28 r28 τ30 r30 g1 (cm0f h2) (cm1t h27) g28 (cm1t h29) g30⟩
        · exact ⟨_, rfl, sp_225_eftf (q_r a0) σ τ1 r1 τ28 r28 g1 (cm0f h2) (cm1t h27) g28 (cm1f h29)⟩
      · exact ⟨_, rfl, sp_225_eff (q_r a0) σ τ1 r1 g1 (cm0f h2) (cm1f h27)⟩
theorem sp_atom {sx : zX} (S206 : zEe sx 206 2 qP_206) (S205 : zEe sx 205 2 qP_205) (S224 : zEe sx 224 1 qP_224) (S223 : zEe sx 223 1 qP_223) (S221 : zEe sx 221 3 qP_221) : ∀ m, zMt sx m 225 1 qP_225 ∧ zMt sx m 226 1 qP_226 ∧ zMt sx m 227 1 qP_227
  | 0 => ⟨zMt0, zMt0, zMt0⟩
  | m + 1 => by
    obtain ⟨h1, h2, h3⟩ := sp_atom S206 S205 S224 S223 S221 m
    exact ⟨sp_225 (m := m) S206 S205 S224 S223 S221 h1 h3, sp_226 (m := m) S205 S221 h1, sp_227 (m := m) S205 S221 h2⟩
end
