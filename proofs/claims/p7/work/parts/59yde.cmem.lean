/-! the class's memory, deed, image, back, exact; printed with wip/gen/gen_da.py -/
/-- the remembered houses, in a ring -/
noncomputable def mM (σ : zSg) (nx n : Nat) (Ms : Nat → Nat → Int32) : Prop := σ.1 47 0 = .ref 48 ∧ (∀ i, i < 12 → σ.1 48 i = .ref (49 + 13 * i)) ∧ σ.1 47 1 = .int (Int32.ofNat nx) ∧ nx < 12 ∧ σ.1 47 2 = .int (Int32.ofNat n) ∧ n ≤ 12 ∧ ∀ i, i < 12 → hH σ (49 + 13 * i) (Ms i)
theorem cpI.fr {σ τ : zSg} {b o : Nat} (I : cpI σ τ b o DH) {c k : Nat} (h : ¬ (b ≤ c ∧ c ≤ b + 12)) : τ.1 c k = σ.1 c k := I.2.1 c k (fun d e1 e2 _ => h (by omega))
theorem hH.ho {σ τ : zSg} {b o e : Nat} {A : Nat → Int32} (K : hH σ e A) (I : cpI σ τ b o DH) (h : dsj b e) : hH τ e A := K.fr I.1 (fun c j h1 h2 => I.fr (by unfold dsj at h; omega))
theorem n12_all : (List.range 12).all (fun n => decide (Int32.ofNat n + Int32.ofInt 1 - (Int32.ofNat n + Int32.ofInt 1) / Int32.ofInt 12 * Int32.ofInt 12 = Int32.ofNat ((n + 1) % 12)) && (decide (Int32.ofNat n + Int32.ofInt 12 - Int32.ofInt 1 - (Int32.ofNat n + Int32.ofInt 12 - Int32.ofInt 1) / Int32.ofInt 12 * Int32.ofInt 12 = Int32.ofNat ((n + 11) % 12)))) = true := by decide +kernel
theorem n12 {n : Nat} (h : n < 12) : Int32.ofNat n + Int32.ofInt 1 - (Int32.ofNat n + Int32.ofInt 1) / Int32.ofInt 12 * Int32.ofInt 12 = Int32.ofNat ((n + 1) % 12) := by
  have := List.all_eq_true.mp n12_all n (List.mem_range.mpr h)
  rw [Bool.and_eq_true] at this
  exact of_decide_eq_true this.1
theorem b12 {n : Nat} (h : n < 12) : Int32.ofNat n + Int32.ofInt 12 - Int32.ofInt 1 - (Int32.ofNat n + Int32.ofInt 12 - Int32.ofInt 1) / Int32.ofInt 12 * Int32.ofInt 12 = Int32.ofNat ((n + 11) % 12) := by
  have := List.all_eq_true.mp n12_all n (List.mem_range.mpr h)
  rw [Bool.and_eq_true] at this
  exact of_decide_eq_true this.2
theorem min12_all : (List.range 13).all (fun n => decide ((if Int32.ofInt 12 < Int32.ofNat n + Int32.ofInt 1 then Int32.ofInt 12 else Int32.ofNat n + Int32.ofInt 1) = Int32.ofNat (min (n + 1) 12))) = true := by decide +kernel
theorem min12 {n : Nat} (h : n ≤ 12) : (if Int32.ofInt 12 < Int32.ofNat n + Int32.ofInt 1 then Int32.ofInt 12 else Int32.ofNat n + Int32.ofInt 1) = Int32.ofNat (min (n + 1) 12) := of_decide_eq_true (List.all_eq_true.mp min12_all n (List.mem_range.mpr (by omega)))
/-- writes at the memory's own numbers -/
theorem hH.el {σ : zSg} {b c k : Nat} {A : Nat → Int32} {v : Value} (K : hH σ b A) (h : ¬ (b ≤ c ∧ c ≤ b + 12)) : hH (q_w σ c k v) b A := K.fr rfl (fun c' j h1 h2 => q_w_ne (fun e _ => by omega))
theorem zJ_62 : zJ3 62 z_m62 z_c62 z_h62 := ⟨rfl, rfl, rfl⟩
noncomputable def p_62 (a h : Nat) (σ σ' : zSg) : Prop := a = 47 → h = 8 → ∀ nx n Ms A, mM σ nx n Ms → hH σ 8 A → (σ'.2 = σ.2 ∧ ∀ c k, ¬ (c = 47 ∧ (k = 1 ∨ k = 2)) → ¬ (49 + 13 * nx ≤ c ∧ c ≤ 61 + 13 * nx) → σ'.1 c k = σ.1 c k) ∧ mM σ' ((nx + 1) % 12) (min (n + 1) 12) (fun i => if i = nx then A else Ms i) ∧ σ'.1 (49 + 13 * nx) 5 = σ.1 8 5
theorem sp_62_e (a0 : Nat) (a1 : Nat) (σ : zSg) (τ2 : zSg) (h1 : 0 ≤ (q_i (σ.1 a0 1)).toInt ∧ (q_i (σ.1 a0 1)).toInt < (σ.2.1 (q_r (σ.1 a0 0)) : Int)) (g2 : p_23 (q_r (σ.1 (q_r (σ.1 a0 0)) (q_i (σ.1 a0 1)).toNatClampNeg)) a1 σ τ2) :
    p_62 (a0) (a1) σ (q_w (q_w τ2 a0 1 (.int (((q_i (τ2.1 a0 1)) + (Int32.ofInt (1))) - ((q_i (τ2.1 a0 1)) + (Int32.ofInt (1))) / (Int32.ofInt (12)) * (Int32.ofInt (12))))) a0 2 (.int (if (Int32.ofInt (12)) < ((q_i ((q_w τ2 a0 1 (.int (((q_i (τ2.1 a0 1)) + (Int32.ofInt (1))) - ((q_i (τ2.1 a0 1)) + (Int32.ofInt (1))) / (Int32.ofInt (12)) * (Int32.ofInt (12))))).1 a0 2)) + (Int32.ofInt (1))) then (Int32.ofInt (12)) else ((q_i ((q_w τ2 a0 1 (.int (((q_i (τ2.1 a0 1)) + (Int32.ofInt (1))) - ((q_i (τ2.1 a0 1)) + (Int32.ofInt (1))) / (Int32.ofInt (12)) * (Int32.ofInt (12))))).1 a0 2)) + (Int32.ofInt (1)))))) := by
  rintro rfl rfl nx n Ms A ⟨m1, m2, m3, m4, m5, m6, m7⟩ K
  have e1 : q_r (σ.1 47 0) = 48 := by rw [m1]; rfl
  have e2 : q_i (σ.1 47 1) = Int32.ofNat nx := by rw [m3]; rfl
  have e3 : (Int32.ofNat nx).toNatClampNeg = nx := o32n (by omega)
  have e4 : q_r (σ.1 48 nx) = 49 + 13 * nx := by rw [m2 nx m4]; rfl
  rw [e1, e2, e3, e4] at g2
  have hd : dsj (49 + 13 * nx) 8 := by unfold dsj; omega
  have I := g2 hd (m7 nx m4).ks K.ks K.ii
  obtain ⟨g1, g2⟩ := I.hH K (m7 nx m4)
  have f : ∀ c k, ¬ (49 + 13 * nx ≤ c ∧ c ≤ 61 + 13 * nx) → τ2.1 c k = σ.1 c k := fun c k q => I.fr (by omega)
  have e5 : q_i (τ2.1 47 1) = Int32.ofNat nx := by rw [f 47 1 (by omega)]; exact e2
  have e6 : q_i ((q_w τ2 47 1 (.int (Int32.ofNat ((nx + 1) % 12)))).1 47 2) = Int32.ofNat n := by rw [q_w_ne (fun _ q => by omega), f 47 2 (by omega), m5]; rfl
  simp only [e5, n12 m4, e6, min12 m6]
  refine ⟨⟨I.1, fun c k q1 q2 => ?_⟩, ⟨?_, fun i hi => ?_, ?_, Nat.mod_lt _ (by omega), q_w_at _ _ _ _, by omega, fun i hi => ?_⟩, ?_⟩
  · rw [q_w_ne (fun e9 e8 => q1 ⟨e9, by omega⟩), q_w_ne (fun e9 e8 => q1 ⟨e9, by omega⟩)]; exact f c k q2
  · rw [q_w_ne (fun _ q => by omega), q_w_ne (fun _ q => by omega), f 47 0 (by omega)]; exact m1
  · rw [q_w_ne (fun q _ => by omega), q_w_ne (fun q _ => by omega), f 48 i (by omega)]; exact m2 i hi
  · rw [q_w_ne (fun _ q => by omega), q_w_at]
  · show hH _ _ (if i = nx then A else Ms i)
    by_cases he : i = nx
    · rw [if_pos he, he]; exact (g1.el (by omega)).el (by omega)
    · rw [if_neg he]; exact (((m7 i hi).ho I (by unfold dsj; omega)).el (by omega)).el (by omega)
  · rw [q_w_ne (fun q _ => by omega), q_w_ne (fun q _ => by omega)]; exact g2
noncomputable def qP_62 : zPp := fun as σ o σ' => match as with
  | [a0, a1] => o = .inl none ∧ p_62 (q_r a0) (q_r a1) σ σ'
  | _ => True
set_option maxRecDepth 100000 in
theorem sp_62 {sx : zX} (S23 : zEe sx 23 2 qP_23) : zEe sx 62 2 qP_62 := by
  refine zfle zJ_62 (sps := [(23, 2, qP_23)]) (fun q hq => by
    simp only [List.mem_cons, List.not_mem_nil, or_false] at hq
    rcases hq with rfl
    · exact S23) (fun as σ hl => ?_)
  match as, hl with
  | [a0, a1], _ =>
  refine ⟨[], 400, ?_, ?_⟩
  · exact fun q hq => absurd hq List.not_mem_nil
  · refine fun h1 => ?_
    refine fun o2 τ2 g2 => ?_
    obtain ⟨rfl, g2⟩ := g2
    exact ⟨rfl, sp_62_e (q_r a0) (q_r a1) σ τ2 (q_inp h1) g2⟩
theorem zJ_63 : zJ3 63 z_m63 z_c63 z_h63 := ⟨rfl, rfl, rfl⟩
noncomputable def p_63 (a h : Nat) (σ : zSg) (r : Int32) (σ' : zSg) : Prop := a = 47 → h = 8 → ∀ nx n Ms A, mM σ nx n Ms → hH σ 8 A → (n = 0 → r = Int32.ofInt 0 ∧ σ' = σ) ∧ (n ≠ 0 → r = Int32.ofInt 1 ∧ (σ'.2 = σ.2 ∧ ∀ c k, ¬ (c = 47 ∧ (k = 1 ∨ k = 2)) → ¬ (8 ≤ c ∧ c ≤ 20) → σ'.1 c k = σ.1 c k) ∧ mM σ' ((nx + 11) % 12) (n - 1) Ms ∧ hH σ' 8 (Ms ((nx + 11) % 12)) ∧ σ'.1 8 5 = σ.1 (49 + 13 * ((nx + 11) % 12)) 5)
theorem sp_63_et (a0 : Nat) (a1 : Nat) (σ : zSg) (τ3 : zSg) (h1 : (q_i (σ.1 a0 2)).toInt ≠ (0 : Int)) (h2 : 0 ≤ (q_i ((q_w (q_w σ a0 1 (.int ((((q_i (σ.1 a0 1)) + (Int32.ofInt (12))) - (Int32.ofInt (1))) - (((q_i (σ.1 a0 1)) + (Int32.ofInt (12))) - (Int32.ofInt (1))) / (Int32.ofInt (12)) * (Int32.ofInt (12))))) a0 2 (.int ((q_i ((q_w σ a0 1 (.int ((((q_i (σ.1 a0 1)) + (Int32.ofInt (12))) - (Int32.ofInt (1))) - (((q_i (σ.1 a0 1)) + (Int32.ofInt (12))) - (Int32.ofInt (1))) / (Int32.ofInt (12)) * (Int32.ofInt (12))))).1 a0 2)) - (Int32.ofInt (1))))).1 a0 1)).toInt ∧ (q_i ((q_w (q_w σ a0 1 (.int ((((q_i (σ.1 a0 1)) + (Int32.ofInt (12))) - (Int32.ofInt (1))) - (((q_i (σ.1 a0 1)) + (Int32.ofInt (12))) - (Int32.ofInt (1))) / (Int32.ofInt (12)) * (Int32.ofInt (12))))) a0 2 (.int ((q_i ((q_w σ a0 1 (.int ((((q_i (σ.1 a0 1)) + (Int32.ofInt (12))) - (Int32.ofInt (1))) - (((q_i (σ.1 a0 1)) + (Int32.ofInt (12))) - (Int32.ofInt (1))) / (Int32.ofInt (12)) * (Int32.ofInt (12))))).1 a0 2)) - (Int32.ofInt (1))))).1 a0 1)).toInt < ((q_w (q_w σ a0 1 (.int ((((q_i (σ.1 a0 1)) + (Int32.ofInt (12))) - (Int32.ofInt (1))) - (((q_i (σ.1 a0 1)) + (Int32.ofInt (12))) - (Int32.ofInt (1))) / (Int32.ofInt (12)) * (Int32.ofInt (12))))) a0 2 (.int ((q_i ((q_w σ a0 1 (.int ((((q_i (σ.1 a0 1)) + (Int32.ofInt (12))) - (Int32.ofInt (1))) - (((q_i (σ.1 a0 1)) + (Int32.ofInt (12))) - (Int32.ofInt (1))) / (Int32.ofInt (12)) * (Int32.ofInt (12))))).1 a0 2)) - (Int32.ofInt (1))))).2.1 (q_r ((q_w (q_w σ a0 1 (.int ((((q_i (σ.1 a0 1)) + (Int32.ofInt (12))) - (Int32.ofInt (1))) - (((q_i (σ.1 a0 1)) + (Int32.ofInt (12))) - (Int32.ofInt (1))) / (Int32.ofInt (12)) * (Int32.ofInt (12))))) a0 2 (.int ((q_i ((q_w σ a0 1 (.int ((((q_i (σ.1 a0 1)) + (Int32.ofInt (12))) - (Int32.ofInt (1))) - (((q_i (σ.1 a0 1)) + (Int32.ofInt (12))) - (Int32.ofInt (1))) / (Int32.ofInt (12)) * (Int32.ofInt (12))))).1 a0 2)) - (Int32.ofInt (1))))).1 a0 0)) : Int)) (g3 : p_23 a1 (q_r ((q_w (q_w σ a0 1 (.int ((((q_i (σ.1 a0 1)) + (Int32.ofInt (12))) - (Int32.ofInt (1))) - (((q_i (σ.1 a0 1)) + (Int32.ofInt (12))) - (Int32.ofInt (1))) / (Int32.ofInt (12)) * (Int32.ofInt (12))))) a0 2 (.int ((q_i ((q_w σ a0 1 (.int ((((q_i (σ.1 a0 1)) + (Int32.ofInt (12))) - (Int32.ofInt (1))) - (((q_i (σ.1 a0 1)) + (Int32.ofInt (12))) - (Int32.ofInt (1))) / (Int32.ofInt (12)) * (Int32.ofInt (12))))).1 a0 2)) - (Int32.ofInt (1))))).1 (q_r ((q_w (q_w σ a0 1 (.int ((((q_i (σ.1 a0 1)) + (Int32.ofInt (12))) - (Int32.ofInt (1))) - (((q_i (σ.1 a0 1)) + (Int32.ofInt (12))) - (Int32.ofInt (1))) / (Int32.ofInt (12)) * (Int32.ofInt (12))))) a0 2 (.int ((q_i ((q_w σ a0 1 (.int ((((q_i (σ.1 a0 1)) + (Int32.ofInt (12))) - (Int32.ofInt (1))) - (((q_i (σ.1 a0 1)) + (Int32.ofInt (12))) - (Int32.ofInt (1))) / (Int32.ofInt (12)) * (Int32.ofInt (12))))).1 a0 2)) - (Int32.ofInt (1))))).1 a0 0)) (q_i ((q_w (q_w σ a0 1 (.int ((((q_i (σ.1 a0 1)) + (Int32.ofInt (12))) - (Int32.ofInt (1))) - (((q_i (σ.1 a0 1)) + (Int32.ofInt (12))) - (Int32.ofInt (1))) / (Int32.ofInt (12)) * (Int32.ofInt (12))))) a0 2 (.int ((q_i ((q_w σ a0 1 (.int ((((q_i (σ.1 a0 1)) + (Int32.ofInt (12))) - (Int32.ofInt (1))) - (((q_i (σ.1 a0 1)) + (Int32.ofInt (12))) - (Int32.ofInt (1))) / (Int32.ofInt (12)) * (Int32.ofInt (12))))).1 a0 2)) - (Int32.ofInt (1))))).1 a0 1)).toNatClampNeg)) (q_w (q_w σ a0 1 (.int ((((q_i (σ.1 a0 1)) + (Int32.ofInt (12))) - (Int32.ofInt (1))) - (((q_i (σ.1 a0 1)) + (Int32.ofInt (12))) - (Int32.ofInt (1))) / (Int32.ofInt (12)) * (Int32.ofInt (12))))) a0 2 (.int ((q_i ((q_w σ a0 1 (.int ((((q_i (σ.1 a0 1)) + (Int32.ofInt (12))) - (Int32.ofInt (1))) - (((q_i (σ.1 a0 1)) + (Int32.ofInt (12))) - (Int32.ofInt (1))) / (Int32.ofInt (12)) * (Int32.ofInt (12))))).1 a0 2)) - (Int32.ofInt (1))))) τ3) :
    p_63 (a0) (a1) σ (Int32.ofInt (1)) τ3 := by
  rintro rfl rfl nx n Ms A ⟨m1, m2, m3, m4, m5, m6, m7⟩ K
  rw [m5] at h1
  simp only [q_ii] at h1
  rw [o32 (by omega)] at h1
  refine ⟨fun h => by omega, fun _ => ?_⟩
  have hm : (nx + 11) % 12 < 12 := Nat.mod_lt _ (by omega)
  have e2 : q_i (σ.1 47 1) = Int32.ofNat nx := by rw [m3]; rfl
  have e6 : q_i ((q_w σ 47 1 (.int (Int32.ofNat ((nx + 11) % 12)))).1 47 2) - Int32.ofInt 1 = Int32.ofNat (n - 1) := by
    rw [q_w_ne (fun _ q => by omega), m5]
    refine Int32.toInt_inj.mp ?_
    show (Int32.ofNat n - Int32.ofInt 1).toInt = _
    rw [zI_sub (o32 (by omega)) (zI_c (by omega) (by omega)) (by omega) (by omega), o32 (by omega)]
    omega
  simp only [e2, b12 m4, e6] at g3
  have t1 : (q_w (q_w σ 47 1 (.int (Int32.ofNat ((nx + 11) % 12)))) 47 2 (.int (Int32.ofNat (n - 1)))).1 47 1 = .int (Int32.ofNat ((nx + 11) % 12)) := by rw [q_w_ne (fun _ q => by omega), q_w_at]
  have t0 : (q_w (q_w σ 47 1 (.int (Int32.ofNat ((nx + 11) % 12)))) 47 2 (.int (Int32.ofNat (n - 1)))).1 47 0 = .ref 48 := by rw [q_w_ne (fun _ q => by omega), q_w_ne (fun _ q => by omega)]; exact m1
  have t8 : ∀ i, i < 12 → (q_w (q_w σ 47 1 (.int (Int32.ofNat ((nx + 11) % 12)))) 47 2 (.int (Int32.ofNat (n - 1)))).1 48 i = .ref (49 + 13 * i) := fun i hi => by rw [q_w_ne (fun q _ => by omega), q_w_ne (fun q _ => by omega)]; exact m2 i hi
  have e3 : (Int32.ofNat ((nx + 11) % 12)).toNatClampNeg = (nx + 11) % 12 := o32n (by omega)
  rw [t0, t1] at g3
  simp only [q_ii, e3, show q_r (Value.ref 48) = 48 from rfl] at g3
  rw [t8 _ hm] at g3
  simp only [show ∀ i, q_r (Value.ref i) = i from fun _ => rfl] at g3
  have K8 := (K.el (c := 47) (k := 1) (v := .int (Int32.ofNat ((nx + 11) % 12))) (by omega)).el (c := 47) (k := 2) (v := .int (Int32.ofNat (n - 1))) (by omega)
  have KM : ∀ i, i < 12 → hH (q_w (q_w σ 47 1 (.int (Int32.ofNat ((nx + 11) % 12)))) 47 2 (.int (Int32.ofNat (n - 1)))) (49 + 13 * i) (Ms i) := fun i hi => ((m7 i hi).el (by omega)).el (by omega)
  have hd : dsj 8 (49 + 13 * ((nx + 11) % 12)) := by unfold dsj; omega
  have I := g3 hd K8.ks (KM _ hm).ks (KM _ hm).ii
  obtain ⟨g1, g2⟩ := I.hH (KM _ hm) K8
  have f : ∀ c k, ¬ (8 ≤ c ∧ c ≤ 20) → τ3.1 c k = (q_w (q_w σ 47 1 (.int (Int32.ofNat ((nx + 11) % 12)))) 47 2 (.int (Int32.ofNat (n - 1)))).1 c k := fun c k q => I.fr (by omega)
  refine ⟨rfl, ⟨I.1, fun c k q1 q2 => ?_⟩, ⟨?_, fun i hi => ?_, ?_, hm, ?_, by omega, fun i hi => (KM i hi).ho I (by unfold dsj; omega)⟩, g1, ?_⟩
  · rw [f c k q2, q_w_ne (fun e9 e8 => q1 ⟨e9, by omega⟩), q_w_ne (fun e9 e8 => q1 ⟨e9, by omega⟩)]
  · rw [f _ _ (by omega)]; exact t0
  · rw [f _ _ (by omega)]; exact t8 i hi
  · rw [f _ _ (by omega)]; exact t1
  · rw [f _ _ (by omega), q_w_at]
  · rw [g2, q_w_ne (fun q _ => by omega), q_w_ne (fun q _ => by omega)]
theorem sp_63_ef (a0 : Nat) (a1 : Nat) (σ : zSg) (h1 : (q_i (σ.1 a0 2)).toInt = (0 : Int)) :
    p_63 (a0) (a1) σ (Int32.ofInt (0)) σ := by
  rintro rfl rfl nx n Ms A ⟨m1, m2, m3, m4, m5, m6, m7⟩ K
  rw [m5] at h1
  simp only [q_ii] at h1
  rw [o32 (by omega)] at h1
  exact ⟨fun _ => ⟨rfl, rfl⟩, fun h => by omega⟩
noncomputable def qP_63 : zPp := fun as σ o σ' => match as with
  | [a0, a1] => ∃ r, o = .inl (some (.int r)) ∧ p_63 (q_r a0) (q_r a1) σ r σ'
  | _ => True
set_option maxRecDepth 100000 in
theorem sp_63 {sx : zX} (S23 : zEe sx 23 2 qP_23) : zEe sx 63 2 qP_63 := by
  refine zfle zJ_63 (sps := [(23, 2, qP_23)]) (fun q hq => by
    simp only [List.mem_cons, List.not_mem_nil, or_false] at hq
    rcases hq with rfl
    · exact S23) (fun as σ hl => ?_)
  match as, hl with
  | [a0, a1], _ =>
  refine ⟨[], 400, ?_, ?_⟩
  · exact fun q hq => absurd hq List.not_mem_nil
  · refine And.intro (fun h1 => ?_) (fun h1 => ?_)
    · refine fun h2 => ?_
      refine fun o3 τ3 g3 => ?_
      obtain ⟨rfl, g3⟩ := g3
      exact ⟨_, rfl, sp_63_et (q_r a0) (q_r a1) σ τ3 (cm1t h1) (q_inp h2) g3⟩
    · exact ⟨_, rfl, sp_63_ef (q_r a0) (q_r a1) σ (cm1f h1)⟩
