section
/-! the reference's copies, exact; printed with wip/gen/gen_d8.py -/
noncomputable def rCy (σ : zSg) (s d os od n : Nat) : zSg := (fun c k => if c = d ∧ od ≤ k ∧ k < od + n then .int (q_i (σ.1 s (os + (k - od)))) else σ.1 c k, σ.2)
theorem rCy_0 {σ : zSg} {s d os od : Nat} : rCy σ s d os od 0 = σ := by
  unfold rCy
  refine Prod.ext ?_ rfl
  funext c k
  show (if c = d ∧ od ≤ k ∧ k < od + 0 then _ else σ.1 c k) = σ.1 c k
  rw [if_neg (by omega)]
theorem rCy_ne {σ : zSg} {s d os od n c k : Nat} (h : ¬ (c = d ∧ od ≤ k ∧ k < od + n)) : (rCy σ s d os od n).1 c k = σ.1 c k := if_neg h
theorem rCy_at {σ : zSg} {s d os od n k : Nat} (h : k < n) : (rCy σ s d os od n).1 d (od + k) = .int (q_i (σ.1 s (os + k))) := by
  show (if d = d ∧ od ≤ od + k ∧ od + k < od + n then Value.int (q_i (σ.1 s (os + (od + k - od)))) else _) = _
  rw [if_pos ⟨rfl, by omega, by omega⟩, show od + k - od = k by omega]
theorem rCy_s {σ : zSg} {s d os od n : Nat} (h : s ≠ d ∨ ¬ (od ≤ os + n ∧ os + n < od + n)) : q_w (rCy σ s d os od n) d (od + n) (.int (q_i ((rCy σ s d os od n).1 s (os + n)))) = rCy σ s d os od (n + 1) := by
  rw [rCy_ne (fun q => by omega)]
  refine Prod.ext ?_ rfl
  funext c k
  show (if c = d ∧ k = od + n then _ else (rCy σ s d os od n).1 c k) = (if c = d ∧ od ≤ k ∧ k < od + (n + 1) then _ else σ.1 c k)
  by_cases h1 : c = d ∧ k = od + n
  · rw [if_pos h1, if_pos ⟨h1.1, by omega, by omega⟩, show k - od = n by omega]
  · rw [if_neg h1]
    by_cases h2 : c = d ∧ od ≤ k ∧ k < od + n
    · rw [if_pos ⟨h2.1, by omega, by omega⟩]
      exact if_pos h2
    · rw [if_neg (by omega)]
      exact if_neg h2
theorem o32J {n : Nat} (h : n ≤ 90000) : Int32.ofNat n + Int32.ofInt 1 = Int32.ofNat (n + 1) := by
  refine Int32.toInt_inj.mp ?_
  rw [zofNat2 (by omega), zI_add (zofNat2 (by omega)) (zI_c (by omega) (by omega)) (by omega) (by omega)]
  omega
theorem o32N {n : Nat} (h : n ≤ 90000) : (Int32.ofNat n).toNatClampNeg = n := znat (zofNat2 (by omega))
theorem zadd {m n : Nat} (h : m + n ≤ 90000) : Int32.ofNat m + Int32.ofNat n = Int32.ofNat (m + n) := by
  refine Int32.toInt_inj.mp ?_
  rw [zofNat2 (by omega), zI_add (zofNat2 (by omega)) (zofNat2 (by omega)) (by omega) (by omega)]
  omega
theorem zadd388 {k : Nat} (h : k ≤ 80000) : (Int32.ofNat k + Int32.ofInt 388).toNatClampNeg = 388 + k := by
  refine znat ?_
  rw [zI_add (zofNat2 (by omega)) (zI_c (by omega) (by omega)) (by omega) (by omega)]
  omega
theorem zm388_all : (List.range 13).all (fun m => decide (Int32.ofInt 388 * Int32.ofNat m = Int32.ofNat (388 * m))) = true := by decide +kernel
theorem zm388 {m : Nat} (h : m ≤ 12) : Int32.ofInt 388 * Int32.ofNat m = Int32.ofNat (388 * m) := of_decide_eq_true (List.all_eq_true.mp zm388_all m (List.mem_range.mpr (by omega)))
/-- the reference's rows -/
noncomputable def rSk (σ : zSg) : Prop := σ.1 205 1 = .ref 206 ∧ σ.1 205 2 = .ref 207 ∧ σ.1 205 3 = .ref 208 ∧ σ.1 205 4 = .ref 209 ∧ σ.1 205 5 = .ref 210
theorem rSk.q {σ : zSg} (H : rSk σ) : q_r (σ.1 205 1) = 206 ∧ q_r (σ.1 205 2) = 207 ∧ q_r (σ.1 205 3) = 208 ∧ q_r (σ.1 205 4) = 209 ∧ q_r (σ.1 205 5) = 210 := by
  obtain ⟨h1, h2, h3, h4, h5⟩ := H
  rw [h1, h2, h3, h4, h5]
  exact ⟨rfl, rfl, rfl, rfl, rfl⟩
theorem rSk.w {σ : zSg} {k : Nat} {v : Value} (H : rSk σ) (h : k = 0 ∨ 6 ≤ k) : rSk (q_w σ 205 k v) := by
  obtain ⟨h1, h2, h3, h4, h5⟩ := H
  exact ⟨by rw [q_w_ne (fun _ q => by omega)]; exact h1, by rw [q_w_ne (fun _ q => by omega)]; exact h2, by rw [q_w_ne (fun _ q => by omega)]; exact h3, by rw [q_w_ne (fun _ q => by omega)]; exact h4, by rw [q_w_ne (fun _ q => by omega)]; exact h5⟩
theorem rSk.cy {σ : zSg} {s d os od n : Nat} (H : rSk σ) (h : d ≠ 205) : rSk (rCy σ s d os od n) := by
  obtain ⟨h1, h2, h3, h4, h5⟩ := H
  exact ⟨by rw [rCy_ne (fun q => h q.1.symm)]; exact h1, by rw [rCy_ne (fun q => h q.1.symm)]; exact h2, by rw [rCy_ne (fun q => h q.1.symm)]; exact h3, by rw [rCy_ne (fun q => h q.1.symm)]; exact h4, by rw [rCy_ne (fun q => h q.1.symm)]; exact h5⟩
noncomputable def p_180 (a : Nat) (σ σ' : zSg) : Prop := a = 205 → rSk σ → σ' = q_w (rCy (q_w σ 205 0 (.int (Int32.ofInt 0))) 206 207 0 0 1237) 205 6 (.int (Int32.ofInt 1))
noncomputable def i_180 (a : Nat) (σ : zSg) (l0 : Nat) (l1 : Int32) (τ : zSg) : Prop := l0 = a ∧ (a = 205 → rSk σ → ∃ n, n ≤ 1237 ∧ l1 = Int32.ofNat n ∧ τ = rCy (q_w σ 205 0 (.int (Int32.ofInt 0))) 206 207 0 0 n)
theorem sp_180_e (a0 : Nat) (σ : zSg)  :
    i_180 a0 σ a0 (Int32.ofInt (0)) (q_w σ a0 0 (.int (Int32.ofInt (0)))) := by
  exact ⟨rfl, fun h _ => ⟨0, by omega, rfl, by rw [rCy_0, h]⟩⟩
theorem sp_180_c5_t (a0 : Nat) (σ : zSg) (l0 : Nat) (l1 : Int32) (τ : zSg) (hI : i_180 a0 σ l0 l1 τ) (h1 : l1.toInt ≥ (1237 : Int)) :
    p_180 (a0) σ (q_w τ l0 6 (.int (Int32.ofInt (1)))) := by
  obtain ⟨rfl, hI⟩ := hI
  rintro rfl H
  obtain ⟨n, hn, rfl, rfl⟩ := hI rfl H
  rw [zofNat2 (by omega)] at h1
  have : n = 1237 := by omega
  subst this
  rfl
theorem sp_180_c5_f (a0 : Nat) (σ : zSg) (l0 : Nat) (l1 : Int32) (τ : zSg) (hI : i_180 a0 σ l0 l1 τ) (h1 : l1.toInt < (1237 : Int)) (h2 : 0 ≤ l1.toInt ∧ l1.toInt < (τ.2.1 (q_r (τ.1 l0 1)) : Int)) (h3 : 0 ≤ l1.toInt ∧ l1.toInt < (τ.2.1 (q_r (τ.1 l0 2)) : Int)) :
    i_180 a0 σ l0 (l1 + Int32.ofInt (1)) (q_w τ (q_r (τ.1 l0 2)) l1.toNatClampNeg (.int (q_i (τ.1 (q_r (τ.1 l0 1)) l1.toNatClampNeg)))) := by
  obtain ⟨rfl, hI⟩ := hI
  refine ⟨rfl, ?_⟩
  rintro rfl H
  obtain ⟨n, hn, rfl, rfl⟩ := hI rfl H
  rw [zofNat2 (by omega)] at h1
  have q9 := ((H.w (v := .int (Int32.ofInt 0)) (Or.inl rfl)).cy (s := 206) (d := 207) (os := 0) (od := 0) (n := n) (by decide)).q
  have hx : (Int32.ofNat n).toNatClampNeg = 0 + n := (o32N (by omega)).trans (by omega)
  simp only [q9.1, q9.2.1, hx]
  exact ⟨n + 1, by omega, o32J (by omega), rCy_s (Or.inl (by decide))⟩
noncomputable def qP_180 : zPp := fun as σ o σ' => match as with
  | [a0] => o = .inl none ∧ p_180 (q_r a0) σ σ'
  | _ => True
set_option maxRecDepth 100000 in
theorem sp_180 {sx : zX}  : zEe sx 180 1 qP_180 := by
  refine zfle zJ_180 (sps := []) (fun q hq => absurd hq List.not_mem_nil) (fun as σ hl => ?_)
  match as, hl with
  | [a0], _ =>
  refine ⟨[(5, fun lo st τ => st = [] ∧ i_180 (q_r a0) σ (q_r (lo 0)) (q_i (lo 1)) τ)], 400, ?_, ?_⟩
  · intro q hq
    simp only [List.mem_cons, List.not_mem_nil, or_false] at hq
    rcases hq with rfl
    · rintro lo st τ ⟨rfl, hI⟩
      refine ⟨400, ?_⟩
      refine And.intro (fun h1 => ?_) (fun h1 => ?_)
      · exact ⟨rfl, sp_180_c5_t (q_r a0) σ (q_r (lo 0)) (q_i (lo 1)) τ hI (cm3t h1)⟩
      · refine fun h2 => ?_
        refine fun h3 => ?_
        exact ⟨rfl, sp_180_c5_f (q_r a0) σ (q_r (lo 0)) (q_i (lo 1)) τ hI (cm3f h1) (q_inp h2) (q_inp h3)⟩
  · exact ⟨rfl, sp_180_e (q_r a0) σ ⟩
noncomputable def p_181 (a : Nat) (σ : zSg) (r : Int32) (σ' : zSg) : Prop := a = 205 → rSk σ → ((q_i (σ.1 205 6)).toInt = 0 → r = Int32.ofInt 0 ∧ σ' = q_w σ 205 0 (.int (Int32.ofInt 0))) ∧ ((q_i (σ.1 205 6)).toInt ≠ 0 → r = Int32.ofInt 1 ∧ σ' = q_w (rCy (q_w σ 205 0 (.int (Int32.ofInt 0))) 207 206 0 0 1237) 205 7 (.int (Int32.ofInt 0)))
noncomputable def i_181 (a : Nat) (σ : zSg) (l0 : Nat) (l1 : Int32) (τ : zSg) : Prop := l0 = a ∧ (a = 205 → rSk σ → ∃ n, n ≤ 1237 ∧ l1 = Int32.ofNat n ∧ (q_i (σ.1 205 6)).toInt ≠ 0 ∧ τ = rCy (q_w σ 205 0 (.int (Int32.ofInt 0))) 207 206 0 0 n)
theorem sp_181_et (a0 : Nat) (σ : zSg) (h1 : (q_i ((q_w σ a0 0 (.int (Int32.ofInt (0)))).1 a0 6)).toInt ≠ (0 : Int)) :
    i_181 a0 σ a0 (Int32.ofInt (0)) (q_w σ a0 0 (.int (Int32.ofInt (0)))) := by
  refine ⟨rfl, ?_⟩
  rintro rfl H
  rw [q_w_ne (fun _ q => by omega)] at h1
  exact ⟨0, by omega, rfl, h1, by rw [rCy_0]⟩
theorem sp_181_ef (a0 : Nat) (σ : zSg) (h1 : (q_i ((q_w σ a0 0 (.int (Int32.ofInt (0)))).1 a0 6)).toInt = (0 : Int)) :
    p_181 (a0) σ (Int32.ofInt (0)) (q_w σ a0 0 (.int (Int32.ofInt (0)))) := by
  rintro rfl H
  rw [q_w_ne (fun _ q => by omega)] at h1
  exact ⟨fun _ => ⟨rfl, rfl⟩, fun h => absurd h1 h⟩
theorem sp_181_c10_t (a0 : Nat) (σ : zSg) (l0 : Nat) (l1 : Int32) (τ : zSg) (hI : i_181 a0 σ l0 l1 τ) (h2 : l1.toInt ≥ (1237 : Int)) :
    p_181 (a0) σ (Int32.ofInt (1)) (q_w τ l0 7 (.int (Int32.ofInt (0)))) := by
  obtain ⟨rfl, hI⟩ := hI
  rintro rfl H
  obtain ⟨n, hn, rfl, hz, rfl⟩ := hI rfl H
  rw [zofNat2 (by omega)] at h2
  have : n = 1237 := by omega
  subst this
  exact ⟨fun h => absurd h hz, fun _ => ⟨rfl, rfl⟩⟩
theorem sp_181_c10_f (a0 : Nat) (σ : zSg) (l0 : Nat) (l1 : Int32) (τ : zSg) (hI : i_181 a0 σ l0 l1 τ) (h2 : l1.toInt < (1237 : Int)) (h3 : 0 ≤ l1.toInt ∧ l1.toInt < (τ.2.1 (q_r (τ.1 l0 2)) : Int)) (h4 : 0 ≤ l1.toInt ∧ l1.toInt < (τ.2.1 (q_r (τ.1 l0 1)) : Int)) :
    i_181 a0 σ l0 (l1 + Int32.ofInt (1)) (q_w τ (q_r (τ.1 l0 1)) l1.toNatClampNeg (.int (q_i (τ.1 (q_r (τ.1 l0 2)) l1.toNatClampNeg)))) := by
  obtain ⟨rfl, hI⟩ := hI
  refine ⟨rfl, ?_⟩
  rintro rfl H
  obtain ⟨n, hn, rfl, hz, rfl⟩ := hI rfl H
  rw [zofNat2 (by omega)] at h2
  have q9 := ((H.w (v := .int (Int32.ofInt 0)) (Or.inl rfl)).cy (s := 207) (d := 206) (os := 0) (od := 0) (n := n) (by decide)).q
  have hx : (Int32.ofNat n).toNatClampNeg = 0 + n := (o32N (by omega)).trans (by omega)
  simp only [q9.2.1, q9.1, hx]
  exact ⟨n + 1, by omega, o32J (by omega), hz, rCy_s (Or.inl (by decide))⟩
noncomputable def qP_181 : zPp := fun as σ o σ' => match as with
  | [a0] => ∃ r, o = .inl (some (.int r)) ∧ p_181 (q_r a0) σ r σ'
  | _ => True
set_option maxRecDepth 100000 in
theorem sp_181 {sx : zX}  : zEe sx 181 1 qP_181 := by
  refine zfle zJ_181 (sps := []) (fun q hq => absurd hq List.not_mem_nil) (fun as σ hl => ?_)
  match as, hl with
  | [a0], _ =>
  refine ⟨[(10, fun lo st τ => st = [] ∧ i_181 (q_r a0) σ (q_r (lo 0)) (q_i (lo 1)) τ)], 400, ?_, ?_⟩
  · intro q hq
    simp only [List.mem_cons, List.not_mem_nil, or_false] at hq
    rcases hq with rfl
    · rintro lo st τ ⟨rfl, hI⟩
      refine ⟨400, ?_⟩
      refine And.intro (fun h2 => ?_) (fun h2 => ?_)
      · exact ⟨_, rfl, sp_181_c10_t (q_r a0) σ (q_r (lo 0)) (q_i (lo 1)) τ hI (cm3t h2)⟩
      · refine fun h3 => ?_
        refine fun h4 => ?_
        exact ⟨rfl, sp_181_c10_f (q_r a0) σ (q_r (lo 0)) (q_i (lo 1)) τ hI (cm3f h2) (q_inp h3) (q_inp h4)⟩
  · refine And.intro (fun h1 => ?_) (fun h1 => ?_)
    · exact ⟨rfl, sp_181_et (q_r a0) σ (cm1t h1)⟩
    · exact ⟨_, rfl, sp_181_ef (q_r a0) σ (cm1f h1)⟩
noncomputable def p_266 (a : Nat) (σ σ' : zSg) : Prop := a = 205 → rSk σ → σ' = rCy σ 206 209 0 0 388
noncomputable def i_266 (a : Nat) (σ : zSg) (l0 : Nat) (l1 : Int32) (τ : zSg) : Prop := l0 = a ∧ (a = 205 → rSk σ → ∃ n, n ≤ 388 ∧ l1 = Int32.ofNat n ∧ τ = rCy (σ) 206 209 0 0 n)
theorem sp_266_e (a0 : Nat) (σ : zSg)  :
    i_266 a0 σ a0 (Int32.ofInt (0)) σ := by
  exact ⟨rfl, fun h _ => ⟨0, by omega, rfl, by rw [rCy_0]⟩⟩
theorem sp_266_c2_t (a0 : Nat) (σ : zSg) (l0 : Nat) (l1 : Int32) (τ : zSg) (hI : i_266 a0 σ l0 l1 τ) (h1 : l1.toInt ≥ (388 : Int)) :
    p_266 (a0) σ τ := by
  obtain ⟨rfl, hI⟩ := hI
  rintro rfl H
  obtain ⟨n, hn, rfl, rfl⟩ := hI rfl H
  rw [zofNat2 (by omega)] at h1
  have : n = 388 := by omega
  subst this
  rfl
theorem sp_266_c2_f (a0 : Nat) (σ : zSg) (l0 : Nat) (l1 : Int32) (τ : zSg) (hI : i_266 a0 σ l0 l1 τ) (h1 : l1.toInt < (388 : Int)) (h2 : 0 ≤ l1.toInt ∧ l1.toInt < (τ.2.1 (q_r (τ.1 l0 1)) : Int)) (h3 : 0 ≤ l1.toInt ∧ l1.toInt < (τ.2.1 (q_r (τ.1 l0 4)) : Int)) :
    i_266 a0 σ l0 (l1 + Int32.ofInt (1)) (q_w τ (q_r (τ.1 l0 4)) l1.toNatClampNeg (.int (q_i (τ.1 (q_r (τ.1 l0 1)) l1.toNatClampNeg)))) := by
  obtain ⟨rfl, hI⟩ := hI
  refine ⟨rfl, ?_⟩
  rintro rfl H
  obtain ⟨n, hn, rfl, rfl⟩ := hI rfl H
  rw [zofNat2 (by omega)] at h1
  have q9 := (H.cy (s := 206) (d := 209) (os := 0) (od := 0) (n := n) (by decide)).q
  have hx : (Int32.ofNat n).toNatClampNeg = 0 + n := (o32N (by omega)).trans (by omega)
  simp only [q9.1, q9.2.2.2.1, hx]
  exact ⟨n + 1, by omega, o32J (by omega), rCy_s (Or.inl (by decide))⟩
noncomputable def qP_266 : zPp := fun as σ o σ' => match as with
  | [a0] => o = .inl none ∧ p_266 (q_r a0) σ σ'
  | _ => True
set_option maxRecDepth 100000 in
theorem sp_266 {sx : zX}  : zEe sx 266 1 qP_266 := by
  refine zfle zJ_266 (sps := []) (fun q hq => absurd hq List.not_mem_nil) (fun as σ hl => ?_)
  match as, hl with
  | [a0], _ =>
  refine ⟨[(2, fun lo st τ => st = [] ∧ i_266 (q_r a0) σ (q_r (lo 0)) (q_i (lo 1)) τ)], 400, ?_, ?_⟩
  · intro q hq
    simp only [List.mem_cons, List.not_mem_nil, or_false] at hq
    rcases hq with rfl
    · rintro lo st τ ⟨rfl, hI⟩
      refine ⟨400, ?_⟩
      refine And.intro (fun h1 => ?_) (fun h1 => ?_)
      · exact ⟨rfl, sp_266_c2_t (q_r a0) σ (q_r (lo 0)) (q_i (lo 1)) τ hI (cm3t h1)⟩
      · refine fun h2 => ?_
        refine fun h3 => ?_
        exact ⟨rfl, sp_266_c2_f (q_r a0) σ (q_r (lo 0)) (q_i (lo 1)) τ hI (cm3f h1) (q_inp h2) (q_inp h3)⟩
  · exact ⟨rfl, sp_266_e (q_r a0) σ ⟩
noncomputable def p_267 (a : Nat) (σ σ' : zSg) : Prop := a = 205 → rSk σ → σ' = rCy σ 209 206 0 0 388
noncomputable def i_267 (a : Nat) (σ : zSg) (l0 : Nat) (l1 : Int32) (τ : zSg) : Prop := l0 = a ∧ (a = 205 → rSk σ → ∃ n, n ≤ 388 ∧ l1 = Int32.ofNat n ∧ τ = rCy (σ) 209 206 0 0 n)
theorem sp_267_e (a0 : Nat) (σ : zSg)  :
    i_267 a0 σ a0 (Int32.ofInt (0)) σ := by
  exact ⟨rfl, fun h _ => ⟨0, by omega, rfl, by rw [rCy_0]⟩⟩
theorem sp_267_c2_t (a0 : Nat) (σ : zSg) (l0 : Nat) (l1 : Int32) (τ : zSg) (hI : i_267 a0 σ l0 l1 τ) (h1 : l1.toInt ≥ (388 : Int)) :
    p_267 (a0) σ τ := by
  obtain ⟨rfl, hI⟩ := hI
  rintro rfl H
  obtain ⟨n, hn, rfl, rfl⟩ := hI rfl H
  rw [zofNat2 (by omega)] at h1
  have : n = 388 := by omega
  subst this
  rfl
theorem sp_267_c2_f (a0 : Nat) (σ : zSg) (l0 : Nat) (l1 : Int32) (τ : zSg) (hI : i_267 a0 σ l0 l1 τ) (h1 : l1.toInt < (388 : Int)) (h2 : 0 ≤ l1.toInt ∧ l1.toInt < (τ.2.1 (q_r (τ.1 l0 4)) : Int)) (h3 : 0 ≤ l1.toInt ∧ l1.toInt < (τ.2.1 (q_r (τ.1 l0 1)) : Int)) :
    i_267 a0 σ l0 (l1 + Int32.ofInt (1)) (q_w τ (q_r (τ.1 l0 1)) l1.toNatClampNeg (.int (q_i (τ.1 (q_r (τ.1 l0 4)) l1.toNatClampNeg)))) := by
  obtain ⟨rfl, hI⟩ := hI
  refine ⟨rfl, ?_⟩
  rintro rfl H
  obtain ⟨n, hn, rfl, rfl⟩ := hI rfl H
  rw [zofNat2 (by omega)] at h1
  have q9 := (H.cy (s := 209) (d := 206) (os := 0) (od := 0) (n := n) (by decide)).q
  have hx : (Int32.ofNat n).toNatClampNeg = 0 + n := (o32N (by omega)).trans (by omega)
  simp only [q9.2.2.2.1, q9.1, hx]
  exact ⟨n + 1, by omega, o32J (by omega), rCy_s (Or.inl (by decide))⟩
noncomputable def qP_267 : zPp := fun as σ o σ' => match as with
  | [a0] => o = .inl none ∧ p_267 (q_r a0) σ σ'
  | _ => True
set_option maxRecDepth 100000 in
theorem sp_267 {sx : zX}  : zEe sx 267 1 qP_267 := by
  refine zfle zJ_267 (sps := []) (fun q hq => absurd hq List.not_mem_nil) (fun as σ hl => ?_)
  match as, hl with
  | [a0], _ =>
  refine ⟨[(2, fun lo st τ => st = [] ∧ i_267 (q_r a0) σ (q_r (lo 0)) (q_i (lo 1)) τ)], 400, ?_, ?_⟩
  · intro q hq
    simp only [List.mem_cons, List.not_mem_nil, or_false] at hq
    rcases hq with rfl
    · rintro lo st τ ⟨rfl, hI⟩
      refine ⟨400, ?_⟩
      refine And.intro (fun h1 => ?_) (fun h1 => ?_)
      · exact ⟨rfl, sp_267_c2_t (q_r a0) σ (q_r (lo 0)) (q_i (lo 1)) τ hI (cm3t h1)⟩
      · refine fun h2 => ?_
        refine fun h3 => ?_
        exact ⟨rfl, sp_267_c2_f (q_r a0) σ (q_r (lo 0)) (q_i (lo 1)) τ hI (cm3f h1) (q_inp h2) (q_inp h3)⟩
  · exact ⟨rfl, sp_267_e (q_r a0) σ ⟩
noncomputable def p_183 (a : Nat) (σ : zSg) (r : Int32) (σ' : zSg) : Prop := a = 205 → rSk σ → ∀ N, σ.1 205 7 = .int (Int32.ofNat N) → N ≤ 12 → (N = 0 → r = Int32.ofInt 0 ∧ σ' = q_w σ 205 0 (.int (Int32.ofInt 0))) ∧ (N ≠ 0 → r = Int32.ofInt 1 ∧ σ' = rCy (q_w (q_w σ 205 0 (.int (Int32.ofInt 0))) 205 7 (.int (Int32.ofNat (N - 1)))) 210 206 (388 * (N - 1)) 0 388)
noncomputable def i_183 (a : Nat) (σ : zSg) (l0 : Nat) (l1 : Int32) (τ : zSg) : Prop := l0 = a ∧ (a = 205 → rSk σ → ∀ N, σ.1 205 7 = .int (Int32.ofNat N) → N ≤ 12 → N ≠ 0 ∧ ∃ n, n ≤ 388 ∧ l1 = Int32.ofNat n ∧ τ = rCy (q_w (q_w σ 205 0 (.int (Int32.ofInt 0))) 205 7 (.int (Int32.ofNat (N - 1)))) 210 206 (388 * (N - 1)) 0 n)
theorem sp_183_et (a0 : Nat) (σ : zSg) (h1 : (q_i ((q_w σ a0 0 (.int (Int32.ofInt (0)))).1 a0 7)).toInt ≠ (0 : Int)) :
    i_183 a0 σ a0 (Int32.ofInt (0)) (q_w (q_w σ a0 0 (.int (Int32.ofInt (0)))) a0 7 (.int ((q_i ((q_w σ a0 0 (.int (Int32.ofInt (0)))).1 a0 7)) - (Int32.ofInt (1))))) := by
  refine ⟨rfl, ?_⟩
  rintro rfl H N hN h12
  rw [q_w_ne (fun _ q => by omega), hN] at h1
  simp only [q_ii] at h1
  rw [o32 (by omega)] at h1
  refine ⟨by omega, 0, by omega, rfl, ?_⟩
  rw [rCy_0, q_w_ne (fun _ q => by omega), hN]
  have e : Int32.ofNat N - Int32.ofInt 1 = Int32.ofNat (N - 1) := by
    refine Int32.toInt_inj.mp ?_
    rw [zI_sub (o32 (by omega)) (zI_c (by omega) (by omega)) (by omega) (by omega), o32 (by omega)]
    omega
  simp only [q_ii, e]
theorem sp_183_ef (a0 : Nat) (σ : zSg) (h1 : (q_i ((q_w σ a0 0 (.int (Int32.ofInt (0)))).1 a0 7)).toInt = (0 : Int)) :
    p_183 (a0) σ (Int32.ofInt (0)) (q_w σ a0 0 (.int (Int32.ofInt (0)))) := by
  rintro rfl H N hN h12
  rw [q_w_ne (fun _ q => by omega), hN] at h1
  simp only [q_ii] at h1
  rw [o32 (by omega)] at h1
  exact ⟨fun _ => ⟨rfl, rfl⟩, fun h => by omega⟩
theorem sp_183_c16_t (a0 : Nat) (σ : zSg) (l0 : Nat) (l1 : Int32) (τ : zSg) (hI : i_183 a0 σ l0 l1 τ) (h2 : l1.toInt ≥ (388 : Int)) :
    p_183 (a0) σ (Int32.ofInt (1)) τ := by
  obtain ⟨rfl, hI⟩ := hI
  rintro rfl H N hN h12
  obtain ⟨h0, n, hn, rfl, rfl⟩ := hI rfl H N hN h12
  rw [zofNat2 (by omega)] at h2
  have : n = 388 := by omega
  subst this
  exact ⟨fun h => absurd h h0, fun _ => ⟨rfl, rfl⟩⟩
theorem sp_183_c16_f (a0 : Nat) (σ : zSg) (l0 : Nat) (l1 : Int32) (τ : zSg) (hI : i_183 a0 σ l0 l1 τ) (h2 : l1.toInt < (388 : Int)) (h3 : 0 ≤ (((Int32.ofInt (388)) * (q_i (τ.1 l0 7))) + l1).toInt ∧ (((Int32.ofInt (388)) * (q_i (τ.1 l0 7))) + l1).toInt < (τ.2.1 (q_r (τ.1 l0 5)) : Int)) (h4 : 0 ≤ l1.toInt ∧ l1.toInt < (τ.2.1 (q_r (τ.1 l0 1)) : Int)) :
    i_183 a0 σ l0 (l1 + Int32.ofInt (1)) (q_w τ (q_r (τ.1 l0 1)) l1.toNatClampNeg (.int (q_i (τ.1 (q_r (τ.1 l0 5)) (((Int32.ofInt (388)) * (q_i (τ.1 l0 7))) + l1).toNatClampNeg)))) := by
  obtain ⟨rfl, hI⟩ := hI
  refine ⟨rfl, ?_⟩
  rintro rfl H N hN h12
  obtain ⟨h0, n, hn, rfl, rfl⟩ := hI rfl H N hN h12
  rw [zofNat2 (by omega)] at h2
  have q9 := (((H.w (v := .int (Int32.ofInt 0)) (Or.inl rfl)).w (k := 7) (v := .int (Int32.ofNat (N - 1))) (by omega)).cy (s := 210) (d := 206) (os := 388 * (N - 1)) (od := 0) (n := n) (by decide)).q
  have hx : (Int32.ofNat n).toNatClampNeg = 0 + n := (o32N (by omega)).trans (by omega)
  have e7 : q_i ((rCy (q_w (q_w σ 205 0 (.int (Int32.ofInt 0))) 205 7 (.int (Int32.ofNat (N - 1)))) 210 206 (388 * (N - 1)) 0 n).1 205 7) = Int32.ofNat (N - 1) := by
    rw [rCy_ne (fun q => by omega), q_w_at]
    rfl
  have hy : (Int32.ofNat (388 * (N - 1)) + Int32.ofNat n).toNatClampNeg = 388 * (N - 1) + n := by rw [zadd (by omega), o32N (by omega)]
  simp only [q9.1, q9.2.2.2.2, hx, e7, zm388 (show N - 1 ≤ 12 by omega), hy]
  exact ⟨h0, n + 1, by omega, o32J (by omega), rCy_s (Or.inl (by decide))⟩
noncomputable def qP_183 : zPp := fun as σ o σ' => match as with
  | [a0] => ∃ r, o = .inl (some (.int r)) ∧ p_183 (q_r a0) σ r σ'
  | _ => True
set_option maxRecDepth 100000 in
theorem sp_183 {sx : zX}  : zEe sx 183 1 qP_183 := by
  refine zfle zJ_183 (sps := []) (fun q hq => absurd hq List.not_mem_nil) (fun as σ hl => ?_)
  match as, hl with
  | [a0], _ =>
  refine ⟨[(16, fun lo st τ => st = [] ∧ i_183 (q_r a0) σ (q_r (lo 0)) (q_i (lo 1)) τ)], 400, ?_, ?_⟩
  · intro q hq
    simp only [List.mem_cons, List.not_mem_nil, or_false] at hq
    rcases hq with rfl
    · rintro lo st τ ⟨rfl, hI⟩
      refine ⟨400, ?_⟩
      refine And.intro (fun h2 => ?_) (fun h2 => ?_)
      · exact ⟨_, rfl, sp_183_c16_t (q_r a0) σ (q_r (lo 0)) (q_i (lo 1)) τ hI (cm3t h2)⟩
      · refine fun h3 => ?_
        refine fun h4 => ?_
        exact ⟨rfl, sp_183_c16_f (q_r a0) σ (q_r (lo 0)) (q_i (lo 1)) τ hI (cm3f h2) (q_inp h3) (q_inp h4)⟩
  · refine And.intro (fun h1 => ?_) (fun h1 => ?_)
    · exact ⟨rfl, sp_183_et (q_r a0) σ (cm1t h1)⟩
    · exact ⟨_, rfl, sp_183_ef (q_r a0) σ (cm1f h1)⟩
noncomputable def rRm (σ : zSg) (N : Nat) : zSg := if N = 12 then rCy σ 210 210 388 0 4268 else q_w σ 205 7 (.int (Int32.ofNat (N + 1)))
noncomputable def rRn (N : Nat) : Nat := if N = 12 then 11 else N
theorem rRm_7 {σ : zSg} {N : Nat} (h : σ.1 205 7 = .int (Int32.ofNat N)) (h12 : N ≤ 12) : (rRm σ N).1 205 7 = .int (Int32.ofNat (rRn N + 1)) ∧ rRn N ≤ 11 := by
  unfold rRm rRn
  by_cases hn : N = 12
  · rw [if_pos hn, if_pos hn, rCy_ne (fun q => by omega), h, hn]
    exact ⟨rfl, by omega⟩
  · rw [if_neg hn, if_neg hn, q_w_at]
    exact ⟨rfl, by omega⟩
theorem rRm_k {σ : zSg} {N : Nat} (H : rSk σ) : rSk (rRm σ N) := by
  unfold rRm
  by_cases hn : N = 12
  · rw [if_pos hn]; exact H.cy (by decide)
  · rw [if_neg hn]; exact H.w (by omega)
noncomputable def p_182 (a : Nat) (σ σ' : zSg) : Prop := a = 205 → rSk σ → ∀ N, σ.1 205 7 = .int (Int32.ofNat N) → N ≤ 12 → σ' = rCy (rRm σ N) 206 210 0 (388 * rRn N) 388
noncomputable def i_182 (a : Nat) (σ : zSg) (l0 : Nat) (l1 : Int32) (τ : zSg) : Prop := l0 = a ∧ (a = 205 → rSk σ → ∀ N, σ.1 205 7 = .int (Int32.ofNat N) → N ≤ 12 → N = 12 ∧ ∃ n, n ≤ 4268 ∧ l1 = Int32.ofNat n ∧ τ = rCy σ 210 210 388 0 n)
noncomputable def j_182 (a : Nat) (σ : zSg) (l0 : Nat) (l1 : Int32) (τ : zSg) : Prop := l0 = a ∧ (a = 205 → rSk σ → ∀ N, σ.1 205 7 = .int (Int32.ofNat N) → N ≤ 12 → ∃ n, n ≤ 388 ∧ l1 = Int32.ofNat n ∧ τ = rCy (rRm σ N) 206 210 0 (388 * rRn N) n)
theorem sp_182_et (a0 : Nat) (σ : zSg) (h1 : (q_i (σ.1 a0 7)).toInt ≠ (12 : Int)) :
    j_182 a0 σ a0 (Int32.ofInt (0)) (q_w σ a0 7 (.int ((q_i (σ.1 a0 7)) + (Int32.ofInt (1))))) := by
  refine ⟨rfl, ?_⟩
  rintro rfl H N hN h12
  rw [hN] at h1 ⊢
  simp only [q_ii] at h1 ⊢
  rw [o32 (by omega)] at h1
  refine ⟨0, by omega, rfl, ?_⟩
  rw [rCy_0, o32i (by omega)]
  unfold rRm
  rw [if_neg (by omega)]
theorem sp_182_ef (a0 : Nat) (σ : zSg) (h1 : (q_i (σ.1 a0 7)).toInt = (12 : Int)) :
    i_182 a0 σ a0 (Int32.ofInt (0)) σ := by
  refine ⟨rfl, ?_⟩
  rintro rfl H N hN h12
  rw [hN] at h1
  simp only [q_ii] at h1
  rw [o32 (by omega)] at h1
  exact ⟨by omega, 0, by omega, rfl, by rw [rCy_0]⟩
theorem sp_182_c6_t (a0 : Nat) (σ : zSg) (l0 : Nat) (l1 : Int32) (τ : zSg) (hI : i_182 a0 σ l0 l1 τ) (h2 : l1.toInt ≥ (4268 : Int)) :
    j_182 a0 σ l0 (Int32.ofInt (0)) τ := by
  obtain ⟨rfl, hI⟩ := hI
  refine ⟨rfl, ?_⟩
  rintro rfl H N hN h12
  obtain ⟨h0, n, hn, rfl, rfl⟩ := hI rfl H N hN h12
  rw [zofNat2 (by omega)] at h2
  have : n = 4268 := by omega
  subst this
  refine ⟨0, by omega, rfl, ?_⟩
  rw [rCy_0]
  unfold rRm
  rw [if_pos h0]
theorem sp_182_c6_f (a0 : Nat) (σ : zSg) (l0 : Nat) (l1 : Int32) (τ : zSg) (hI : i_182 a0 σ l0 l1 τ) (h2 : l1.toInt < (4268 : Int)) (h3 : 0 ≤ (l1 + (Int32.ofInt (388))).toInt ∧ (l1 + (Int32.ofInt (388))).toInt < (τ.2.1 (q_r (τ.1 l0 5)) : Int)) (h4 : 0 ≤ l1.toInt ∧ l1.toInt < (τ.2.1 (q_r (τ.1 l0 5)) : Int)) :
    i_182 a0 σ l0 (l1 + Int32.ofInt (1)) (q_w τ (q_r (τ.1 l0 5)) l1.toNatClampNeg (.int (q_i (τ.1 (q_r (τ.1 l0 5)) (l1 + (Int32.ofInt (388))).toNatClampNeg)))) := by
  obtain ⟨rfl, hI⟩ := hI
  refine ⟨rfl, ?_⟩
  rintro rfl H N hN h12
  obtain ⟨h0, n, hn, rfl, rfl⟩ := hI rfl H N hN h12
  rw [zofNat2 (by omega)] at h2
  have q9 := (H.cy (s := 210) (d := 210) (os := 388) (od := 0) (n := n) (by decide)).q
  have hx : (Int32.ofNat n).toNatClampNeg = 0 + n := (o32N (by omega)).trans (by omega)
  have hy := zadd388 (k := n) (by omega)
  simp only [q9.2.2.2.2, hx, hy]
  exact ⟨h0, n + 1, by omega, o32J (by omega), rCy_s (Or.inr (by omega))⟩
theorem sp_182_c30_t (a0 : Nat) (σ : zSg) (l0 : Nat) (l1 : Int32) (τ : zSg) (hI : j_182 a0 σ l0 l1 τ) (h5 : l1.toInt ≥ (388 : Int)) :
    p_182 (a0) σ τ := by
  obtain ⟨rfl, hI⟩ := hI
  rintro rfl H N hN h12
  obtain ⟨n, hn, rfl, rfl⟩ := hI rfl H N hN h12
  rw [zofNat2 (by omega)] at h5
  have : n = 388 := by omega
  subst this
  rfl
theorem sp_182_c30_f (a0 : Nat) (σ : zSg) (l0 : Nat) (l1 : Int32) (τ : zSg) (hI : j_182 a0 σ l0 l1 τ) (h5 : l1.toInt < (388 : Int)) (h6 : 0 ≤ l1.toInt ∧ l1.toInt < (τ.2.1 (q_r (τ.1 l0 1)) : Int)) (h7 : 0 ≤ (((Int32.ofInt (388)) * ((q_i (τ.1 l0 7)) - (Int32.ofInt (1)))) + l1).toInt ∧ (((Int32.ofInt (388)) * ((q_i (τ.1 l0 7)) - (Int32.ofInt (1)))) + l1).toInt < (τ.2.1 (q_r (τ.1 l0 5)) : Int)) :
    j_182 a0 σ l0 (l1 + Int32.ofInt (1)) (q_w τ (q_r (τ.1 l0 5)) (((Int32.ofInt (388)) * ((q_i (τ.1 l0 7)) - (Int32.ofInt (1)))) + l1).toNatClampNeg (.int (q_i (τ.1 (q_r (τ.1 l0 1)) l1.toNatClampNeg)))) := by
  obtain ⟨rfl, hI⟩ := hI
  refine ⟨rfl, ?_⟩
  rintro rfl H N hN h12
  obtain ⟨n, hn, rfl, rfl⟩ := hI rfl H N hN h12
  rw [zofNat2 (by omega)] at h5
  obtain ⟨m7, m11⟩ := rRm_7 hN h12
  have q9 := ((rRm_k (N := N) H).cy (s := 206) (d := 210) (os := 0) (od := 388 * rRn N) (n := n) (by decide)).q
  have hx : (Int32.ofNat n).toNatClampNeg = 0 + n := (o32N (by omega)).trans (by omega)
  have e7 : q_i ((rCy (rRm σ N) 206 210 0 (388 * rRn N) n).1 205 7) - Int32.ofInt 1 = Int32.ofNat (rRn N) := by
    rw [rCy_ne (fun q => by omega), m7]
    refine Int32.toInt_inj.mp ?_
    show (Int32.ofNat (rRn N + 1) - Int32.ofInt 1).toInt = _
    rw [zI_sub (o32 (by omega)) (zI_c (by omega) (by omega)) (by omega) (by omega), o32 (by omega)]
    omega
  have hy : (Int32.ofNat (388 * rRn N) + Int32.ofNat n).toNatClampNeg = 388 * rRn N + n := by rw [zadd (by omega), o32N (by omega)]
  simp only [q9.1, q9.2.2.2.2, hx, e7, zm388 (show rRn N ≤ 12 by omega), hy]
  exact ⟨n + 1, by omega, o32J (by omega), rCy_s (Or.inl (by decide))⟩
noncomputable def qP_182 : zPp := fun as σ o σ' => match as with
  | [a0] => o = .inl none ∧ p_182 (q_r a0) σ σ'
  | _ => True
set_option maxRecDepth 100000 in
theorem sp_182 {sx : zX}  : zEe sx 182 1 qP_182 := by
  refine zfle zJ_182 (sps := []) (fun q hq => absurd hq List.not_mem_nil) (fun as σ hl => ?_)
  match as, hl with
  | [a0], _ =>
  refine ⟨[(6, fun lo st τ => st = [] ∧ i_182 (q_r a0) σ (q_r (lo 0)) (q_i (lo 1)) τ), (30, fun lo st τ => st = [] ∧ j_182 (q_r a0) σ (q_r (lo 0)) (q_i (lo 1)) τ)], 400, ?_, ?_⟩
  · intro q hq
    simp only [List.mem_cons, List.not_mem_nil, or_false] at hq
    rcases hq with rfl | rfl
    · rintro lo st τ ⟨rfl, hI⟩
      refine ⟨400, ?_⟩
      refine And.intro (fun h2 => ?_) (fun h2 => ?_)
      · exact ⟨rfl, sp_182_c6_t (q_r a0) σ (q_r (lo 0)) (q_i (lo 1)) τ hI (cm3t h2)⟩
      · refine fun h3 => ?_
        refine fun h4 => ?_
        exact ⟨rfl, sp_182_c6_f (q_r a0) σ (q_r (lo 0)) (q_i (lo 1)) τ hI (cm3f h2) (q_inp h3) (q_inp h4)⟩
    · rintro lo st τ ⟨rfl, hI⟩
      refine ⟨400, ?_⟩
      refine And.intro (fun h5 => ?_) (fun h5 => ?_)
      · exact ⟨rfl, sp_182_c30_t (q_r a0) σ (q_r (lo 0)) (q_i (lo 1)) τ hI (cm3t h5)⟩
      · refine fun h6 => ?_
        refine fun h7 => ?_
        exact ⟨rfl, sp_182_c30_f (q_r a0) σ (q_r (lo 0)) (q_i (lo 1)) τ hI (cm3f h5) (q_inp h6) (q_inp h7)⟩
  · refine And.intro (fun h1 => ?_) (fun h1 => ?_)
    · exact ⟨rfl, sp_182_et (q_r a0) σ (cm1t h1)⟩
    · exact ⟨rfl, sp_182_ef (q_r a0) σ (cm1f h1)⟩
theorem rE.cy {σ : zSg} {b : Nat → Int} {E nf nt n : Nat} {A : Nat → Int32} (H : rE σ b E nf nt A) : rE (rCy σ 206 208 0 0 n) b E nf nt A := by
  obtain ⟨h1, h2, ⟨h3, h3'⟩, h4, h5⟩ := H
  refine ⟨?_, ?_, ⟨?_, fun k hk => ?_⟩, ?_, h5⟩
  · rw [rCy_ne (fun q => by omega)]; exact h1
  · rw [← h2]
    funext i
    unfold rb
    rw [rCy_ne (c := 205) (k := 8) (fun q => by omega), h1]
    show (q_i ((rCy σ 206 208 0 0 n).1 211 i)).toInt = (q_i (σ.1 211 i)).toInt
    rw [rCy_ne (fun q => by omega)]
  · rw [rCy_ne (fun q => by omega)]; exact h3
  · rw [rCy_ne (fun q => by omega)]; exact h3' k hk
  · rw [rCy_ne (fun q => by omega)]; exact h4
noncomputable def rYF (σ σ' : zSg) : Prop := σ'.2 = σ.2 ∧ ∀ c k, ¬ (c = 205 ∧ (k = 0 ∨ k = 7 ∨ k = 9 ∨ k = 10 ∨ k = 11 ∨ k = 12 ∨ k = 14 ∨ k = 16)) → ¬ (c = 206 ∧ k < 88) → ¬ (c = 208 ∧ k < 1237) → σ'.1 c k = σ.1 c k
theorem rYF.tr {σ τ υ : zSg} (h1 : rYF σ τ) (h2 : rYF τ υ) : rYF σ υ := ⟨h2.1.trans h1.1, fun c k q1 q2 q3 => (h2.2 c k q1 q2 q3).trans (h1.2 c k q1 q2 q3)⟩
theorem rYF.of {σ τ : zSg} (h : rEF σ τ) : rYF σ τ := ⟨h.1, fun c k q1 q2 _ => h.2 c k (fun q => q1 ⟨q.1, by omega⟩) q2⟩
theorem rYF.cy {σ : zSg} : rYF σ (rCy σ 206 208 0 0 1237) := ⟨rfl, fun c k _ _ q3 => rCy_ne (fun q => q3 ⟨q.1, by omega⟩)⟩
theorem rYF.w {σ : zSg} {k : Nat} {v : Value} (h : k = 0 ∨ k = 7 ∨ k = 9 ∨ k = 10 ∨ k = 11 ∨ k = 12 ∨ k = 14 ∨ k = 16) : rYF σ (q_w σ 205 k v) := ⟨rfl, fun c i q1 _ _ => q_w_ne (fun e1 e2 => q1 ⟨e1, by omega⟩)⟩
theorem rYF.ww {σ : zSg} {k : Nat} {v : Value} (h : k < 88) : rYF σ (q_w σ 206 k v) := ⟨rfl, fun c i _ q2 _ => q_w_ne (fun e1 e2 => q2 ⟨e1, by omega⟩)⟩
/-- a deed's text that is refused: what stands as all is brought back -/
noncomputable def rYB (σ S : zSg) (Th Ft : Int32) : Prop := rYF σ S ∧ (∀ k, k < 1237 → S.1 208 k = .int (q_i (σ.1 206 k))) ∧ S.1 205 0 = .int Th ∧ S.1 205 14 = .int Ft ∧ S.1 205 9 = .int (Int32.ofInt 0) ∧ S.1 205 7 = σ.1 205 7
abbrev rYo (σ σ' : zSg) (nf nt tx : Nat) (A : Nat → Int32) (r : Int32) (R : List dOp ⊕ Nat) : Prop := match R with
  | .inl os => σ'.1 205 14 = .int (Int32.ofInt (-1)) ∧ (tx = 12 → σ'.1 205 0 = .int (Int32.ofInt 2) ∧ rW σ' A ∧ σ'.1 205 7 = σ.1 205 7) ∧ (tx < 12 → σ'.1 205 0 = .int (Int32.ofInt 0) ∧ r = Int32.ofNat (tx + 1) ∧ rW σ' (aU (dApps os nf nt A) 2 (Int32.ofNat (tx + 1))) ∧ σ'.1 205 7 = .int (Int32.ofInt 0))
  | .inr F => σ'.1 205 0 = .int (Int32.ofInt 1) ∧ σ'.1 205 14 = .int (Int32.ofNat F) ∧ rW σ' A ∧ σ'.1 205 7 = σ.1 205 7
end
section
/-! the reference's deed, exact; printed with wip/gen/gen_d9.py -/
noncomputable def rIt (σ : zSg) : Prop := ∀ k, k < 1237 → ∃ x, σ.1 206 k = .int x
theorem rYB.q {σ S : zSg} {Th Ft : Int32} (H : rYB σ S Th Ft) (K : rSk σ) : rSk S := by
  obtain ⟨k1, k2, k3, k4, k5⟩ := K
  have e : ∀ k, 1 ≤ k → k ≤ 5 → S.1 205 k = σ.1 205 k := fun k h1 h2 => H.1.2 205 k (by omega) (by omega) (by omega)
  exact ⟨by rw [e 1 (by omega) (by omega)]; exact k1, by rw [e 2 (by omega) (by omega)]; exact k2, by rw [e 3 (by omega) (by omega)]; exact k3, by rw [e 4 (by omega) (by omega)]; exact k4, by rw [e 5 (by omega) (by omega)]; exact k5⟩
noncomputable def p_231 (a : Nat) (σ : zSg) (r : Int32) (σ' : zSg) : Prop := a = 205 → rSk σ → ∀ b E nf nt A tx, rE σ b E nf nt A → A 2 = Int32.ofNat tx → tx ≤ 12 → rIt σ → rYF σ σ' ∧ σ'.1 205 9 = .int (Int32.ofInt 0) ∧ rYo σ σ' nf nt tx A r (dDeed b E nf nt)
noncomputable def i_231 (a : Nat) (σ : zSg) (l0 : Nat) (l1 : Int32) (τ : zSg) : Prop := l0 = a ∧ (a = 205 → rSk σ → ∃ n, n ≤ 1237 ∧ l1 = Int32.ofNat n ∧ τ = rCy σ 206 208 0 0 n)
noncomputable def k_231 (a : Nat) (σ : zSg) (l0 : Nat) (l2 : Int32) (τ : zSg) : Prop := l0 = a ∧ (a = 205 → rSk σ → ∀ b E nf nt A tx, rE σ b E nf nt A → A 2 = Int32.ofNat tx → tx ≤ 12 → rIt σ → ∃ n S Th Ft, n ≤ 1237 ∧ l2 = Int32.ofNat n ∧ τ = rCy S 208 206 0 0 n ∧ rYB σ S Th Ft ∧ ((∃ F, dDeed b E nf nt = .inr F ∧ Th = Int32.ofInt 1 ∧ Ft = Int32.ofNat F) ∨ (∃ os, dDeed b E nf nt = .inl os ∧ tx = 12 ∧ Th = Int32.ofInt 2 ∧ Ft = Int32.ofInt (-1))))
theorem sp_231_e (a0 : Nat) (σ : zSg)  :
    i_231 a0 σ a0 (Int32.ofInt (0)) σ := by
  exact ⟨rfl, fun h _ => ⟨0, by omega, rfl, by rw [rCy_0]⟩⟩
theorem sp_231_c2_tttt (a0 : Nat) (σ : zSg) (l0 : Nat) (l1 : Int32) (τ : zSg) (τ2 : zSg) (r2 : Int32) (τ5 : zSg) (r5 : Int32) (hI : i_231 a0 σ l0 l1 τ) (h1 : l1.toInt ≥ (1237 : Int)) (g2 : p_230d l0 (Int32.ofInt (1)) τ r2 τ2) (h3 : r2.toInt ≥ (0 : Int)) (h4 : r2.toInt ≥ (0 : Int)) (g5 : p_176 l0 (Int32.ofInt (0)) (Int32.ofInt (1)) (q_w τ2 l0 14 (.int (Int32.ofInt (-1)))) r5 τ5) (h6 : r5.toInt ≠ (0 : Int)) :
    k_231 a0 σ l0 (Int32.ofInt (0)) τ5 := by
  have h9 := g5.1
  rw [h9] at h6
  exact absurd rfl h6
theorem sp_231_c2_tttftt (a0 : Nat) (σ : zSg) (l0 : Nat) (l1 : Int32) (τ : zSg) (τ2 : zSg) (r2 : Int32) (τ5 : zSg) (r5 : Int32) (τ9 : zSg) (r9 : Int32) (hI : i_231 a0 σ l0 l1 τ) (h1 : l1.toInt ≥ (1237 : Int)) (g2 : p_230d l0 (Int32.ofInt (1)) τ r2 τ2) (h3 : r2.toInt ≥ (0 : Int)) (h4 : r2.toInt ≥ (0 : Int)) (g5 : p_176 l0 (Int32.ofInt (0)) (Int32.ofInt (1)) (q_w τ2 l0 14 (.int (Int32.ofInt (-1)))) r5 τ5) (h6 : r5.toInt = (0 : Int)) (h7 : 0 ≤ (Int32.ofInt (2)).toInt ∧ (Int32.ofInt (2)).toInt < (τ5.2.1 (q_r (τ5.1 l0 1)) : Int)) (h8 : (q_i (τ5.1 (q_r (τ5.1 l0 1)) (Int32.ofInt (2)).toNatClampNeg)).toInt ≠ (12 : Int)) (g9 : p_176 l0 (Int32.ofInt (0)) (Int32.ofInt (2)) τ5 r9 τ9) (h10 : r9.toInt = (0 : Int)) (h11 : 0 ≤ (Int32.ofInt (2)).toInt ∧ (Int32.ofInt (2)).toInt < (τ9.2.1 (q_r (τ9.1 l0 1)) : Int)) (h12 : 0 ≤ (Int32.ofInt (2)).toInt ∧ (Int32.ofInt (2)).toInt < (τ9.2.1 (q_r (τ9.1 l0 1)) : Int)) (h13 : 0 ≤ (Int32.ofInt (2)).toInt ∧ (Int32.ofInt (2)).toInt < ((q_w (q_w τ9 (q_r (τ9.1 l0 1)) (Int32.ofInt (2)).toNatClampNeg (.int ((q_i (τ9.1 (q_r (τ9.1 l0 1)) (Int32.ofInt (2)).toNatClampNeg)) + (Int32.ofInt (1))))) l0 7 (.int (Int32.ofInt (0)))).2.1 (q_r ((q_w (q_w τ9 (q_r (τ9.1 l0 1)) (Int32.ofInt (2)).toNatClampNeg (.int ((q_i (τ9.1 (q_r (τ9.1 l0 1)) (Int32.ofInt (2)).toNatClampNeg)) + (Int32.ofInt (1))))) l0 7 (.int (Int32.ofInt (0)))).1 l0 1)) : Int)) :
    p_231 (a0) σ (q_i ((q_w (q_w τ9 (q_r (τ9.1 l0 1)) (Int32.ofInt (2)).toNatClampNeg (.int ((q_i (τ9.1 (q_r (τ9.1 l0 1)) (Int32.ofInt (2)).toNatClampNeg)) + (Int32.ofInt (1))))) l0 7 (.int (Int32.ofInt (0)))).1 (q_r ((q_w (q_w τ9 (q_r (τ9.1 l0 1)) (Int32.ofInt (2)).toNatClampNeg (.int ((q_i (τ9.1 (q_r (τ9.1 l0 1)) (Int32.ofInt (2)).toNatClampNeg)) + (Int32.ofInt (1))))) l0 7 (.int (Int32.ofInt (0)))).1 l0 1)) (Int32.ofInt (2)).toNatClampNeg)) (q_w (q_w τ9 (q_r (τ9.1 l0 1)) (Int32.ofInt (2)).toNatClampNeg (.int ((q_i (τ9.1 (q_r (τ9.1 l0 1)) (Int32.ofInt (2)).toNatClampNeg)) + (Int32.ofInt (1))))) l0 7 (.int (Int32.ofInt (0)))) := by
  obtain ⟨rfl, hI⟩ := hI
  rintro rfl K b E nf nt A tx H h2 ht hint
  obtain ⟨n, hn, rfl, rfl⟩ := hI rfl K
  rw [zofNat2 (by omega)] at h1
  have hn9 : n = 1237 := by omega
  subst hn9
  obtain ⟨f1, t0, t9, hR⟩ := g2 rfl (by decide) b E nf nt A H.cy
  have f2 : rYF σ τ2 := rYF.cy.tr (rYF.of f1)
  have m8 : ∀ k, k < 1237 → τ2.1 208 k = .int (q_i (σ.1 206 k)) := fun k hk => by
    rw [f1.2 208 k (by omega) (by omega)]
    have := rCy_at (σ := σ) (s := 206) (d := 208) (os := 0) (od := 0) (n := 1237) (k := k) hk
    rw [Nat.zero_add] at this
    exact this
  have m7 : τ2.1 205 7 = σ.1 205 7 := by
    rw [f1.2 205 7 (by omega) (by omega)]
    exact rCy_ne (fun q => by omega)
  cases hD : dDeed b E nf nt with
  | inr F => rw [hD] at hR; have := hR.1; omega
  | inl os =>
  rw [hD] at hR
  obtain ⟨-, w1⟩ := hR
  obtain ⟨-, -, g2⟩ := g5
  have g3 := g2 rfl
  subst g3
  obtain ⟨-, -, g4⟩ := g9
  have g5 := g4 rfl
  subst g5
  have w2 : rW (q_w τ2 205 14 (.int (Int32.ofInt (-1)))) (dApps os nf nt A) := w1.el (by omega)
  have z2 : (Int32.ofInt 2).toNatClampNeg = 2 := rfl
  have i2 : q_i ((q_w τ2 205 14 (.int (Int32.ofInt (-1)))).1 206 2) = Int32.ofNat tx := by rw [w2.i (by omega), dApps_ne hD H.2.2.2.2.2.2.1 H.2.2.2.2.2.2.2.2 (by omega), h2]
  have i3 : Int32.ofNat tx + Int32.ofInt 1 = Int32.ofNat (tx + 1) := o32i (by omega)
  simp only [w2.q, z2, i2] at h8
  rw [o32 (by omega)] at h8
  have w3 := w2.ww (k := 2) (v := Int32.ofNat (tx + 1))
  have w4 : rW (q_w (q_w (q_w τ2 205 14 (.int (Int32.ofInt (-1)))) 206 2 (.int (Int32.ofNat (tx + 1)))) 205 7 (.int (Int32.ofInt 0))) (aU (dApps os nf nt A) 2 (Int32.ofNat (tx + 1))) := w3.el (by omega)
  have i4 := (w4.i (k := 2) (by omega)).trans aU_at
  simp only [w2.q, z2, i2, i3, w4.q, i4]
  refine ⟨((f2.tr (rYF.w (by omega))).tr (rYF.ww (by omega))).tr (rYF.w (by omega)), ?_, ?_, fun h => absurd h (by omega), fun _ => ⟨?_, rfl, w4, q_w_at _ _ _ _⟩⟩
  · rw [q_w_ne (fun _ q => by omega), q_w_ne (fun q _ => by omega), q_w_ne (fun _ q => by omega)]; exact t9
  · rw [q_w_ne (fun _ q => by omega), q_w_ne (fun q _ => by omega), q_w_at]
  · rw [q_w_ne (fun _ q => by omega), q_w_ne (fun q _ => by omega), q_w_ne (fun _ q => by omega)]; exact t0
theorem sp_231_c2_tttftf (a0 : Nat) (σ : zSg) (l0 : Nat) (l1 : Int32) (τ : zSg) (τ2 : zSg) (r2 : Int32) (τ5 : zSg) (r5 : Int32) (τ9 : zSg) (r9 : Int32) (hI : i_231 a0 σ l0 l1 τ) (h1 : l1.toInt ≥ (1237 : Int)) (g2 : p_230d l0 (Int32.ofInt (1)) τ r2 τ2) (h3 : r2.toInt ≥ (0 : Int)) (h4 : r2.toInt ≥ (0 : Int)) (g5 : p_176 l0 (Int32.ofInt (0)) (Int32.ofInt (1)) (q_w τ2 l0 14 (.int (Int32.ofInt (-1)))) r5 τ5) (h6 : r5.toInt = (0 : Int)) (h7 : 0 ≤ (Int32.ofInt (2)).toInt ∧ (Int32.ofInt (2)).toInt < (τ5.2.1 (q_r (τ5.1 l0 1)) : Int)) (h8 : (q_i (τ5.1 (q_r (τ5.1 l0 1)) (Int32.ofInt (2)).toNatClampNeg)).toInt ≠ (12 : Int)) (g9 : p_176 l0 (Int32.ofInt (0)) (Int32.ofInt (2)) τ5 r9 τ9) (h10 : r9.toInt ≠ (0 : Int)) :
    k_231 a0 σ l0 (Int32.ofInt (0)) τ9 := by
  have h9 := g9.1
  rw [h9] at h10
  exact absurd rfl h10
theorem sp_231_c2_tttfft (a0 : Nat) (σ : zSg) (l0 : Nat) (l1 : Int32) (τ : zSg) (τ2 : zSg) (r2 : Int32) (τ5 : zSg) (r5 : Int32) (τ14 : zSg) (r14 : Int32) (hI : i_231 a0 σ l0 l1 τ) (h1 : l1.toInt ≥ (1237 : Int)) (g2 : p_230d l0 (Int32.ofInt (1)) τ r2 τ2) (h3 : r2.toInt ≥ (0 : Int)) (h4 : r2.toInt ≥ (0 : Int)) (g5 : p_176 l0 (Int32.ofInt (0)) (Int32.ofInt (1)) (q_w τ2 l0 14 (.int (Int32.ofInt (-1)))) r5 τ5) (h6 : r5.toInt = (0 : Int)) (h7 : 0 ≤ (Int32.ofInt (2)).toInt ∧ (Int32.ofInt (2)).toInt < (τ5.2.1 (q_r (τ5.1 l0 1)) : Int)) (h8 : (q_i (τ5.1 (q_r (τ5.1 l0 1)) (Int32.ofInt (2)).toNatClampNeg)).toInt = (12 : Int)) (g14 : p_176 l0 (Int32.ofInt (1)) (Int32.ofInt (2)) τ5 r14 τ14) (h15 : r14.toInt = (0 : Int)) (h16 : 0 ≤ (Int32.ofInt (2)).toInt ∧ (Int32.ofInt (2)).toInt < (τ14.2.1 (q_r (τ14.1 l0 1)) : Int)) (h17 : 0 ≤ (Int32.ofInt (2)).toInt ∧ (Int32.ofInt (2)).toInt < (τ14.2.1 (q_r (τ14.1 l0 1)) : Int)) (h18 : 0 ≤ (Int32.ofInt (2)).toInt ∧ (Int32.ofInt (2)).toInt < ((q_w (q_w τ14 (q_r (τ14.1 l0 1)) (Int32.ofInt (2)).toNatClampNeg (.int ((q_i (τ14.1 (q_r (τ14.1 l0 1)) (Int32.ofInt (2)).toNatClampNeg)) + (Int32.ofInt (1))))) l0 7 (.int (Int32.ofInt (0)))).2.1 (q_r ((q_w (q_w τ14 (q_r (τ14.1 l0 1)) (Int32.ofInt (2)).toNatClampNeg (.int ((q_i (τ14.1 (q_r (τ14.1 l0 1)) (Int32.ofInt (2)).toNatClampNeg)) + (Int32.ofInt (1))))) l0 7 (.int (Int32.ofInt (0)))).1 l0 1)) : Int)) :
    p_231 (a0) σ (q_i ((q_w (q_w τ14 (q_r (τ14.1 l0 1)) (Int32.ofInt (2)).toNatClampNeg (.int ((q_i (τ14.1 (q_r (τ14.1 l0 1)) (Int32.ofInt (2)).toNatClampNeg)) + (Int32.ofInt (1))))) l0 7 (.int (Int32.ofInt (0)))).1 (q_r ((q_w (q_w τ14 (q_r (τ14.1 l0 1)) (Int32.ofInt (2)).toNatClampNeg (.int ((q_i (τ14.1 (q_r (τ14.1 l0 1)) (Int32.ofInt (2)).toNatClampNeg)) + (Int32.ofInt (1))))) l0 7 (.int (Int32.ofInt (0)))).1 l0 1)) (Int32.ofInt (2)).toNatClampNeg)) (q_w (q_w τ14 (q_r (τ14.1 l0 1)) (Int32.ofInt (2)).toNatClampNeg (.int ((q_i (τ14.1 (q_r (τ14.1 l0 1)) (Int32.ofInt (2)).toNatClampNeg)) + (Int32.ofInt (1))))) l0 7 (.int (Int32.ofInt (0)))) := by
  have h9 := g14.1
  rw [h9] at h15
  exact absurd h15 (by decide)
theorem sp_231_c2_tttfff (a0 : Nat) (σ : zSg) (l0 : Nat) (l1 : Int32) (τ : zSg) (τ2 : zSg) (r2 : Int32) (τ5 : zSg) (r5 : Int32) (τ14 : zSg) (r14 : Int32) (hI : i_231 a0 σ l0 l1 τ) (h1 : l1.toInt ≥ (1237 : Int)) (g2 : p_230d l0 (Int32.ofInt (1)) τ r2 τ2) (h3 : r2.toInt ≥ (0 : Int)) (h4 : r2.toInt ≥ (0 : Int)) (g5 : p_176 l0 (Int32.ofInt (0)) (Int32.ofInt (1)) (q_w τ2 l0 14 (.int (Int32.ofInt (-1)))) r5 τ5) (h6 : r5.toInt = (0 : Int)) (h7 : 0 ≤ (Int32.ofInt (2)).toInt ∧ (Int32.ofInt (2)).toInt < (τ5.2.1 (q_r (τ5.1 l0 1)) : Int)) (h8 : (q_i (τ5.1 (q_r (τ5.1 l0 1)) (Int32.ofInt (2)).toNatClampNeg)).toInt = (12 : Int)) (g14 : p_176 l0 (Int32.ofInt (1)) (Int32.ofInt (2)) τ5 r14 τ14) (h15 : r14.toInt ≠ (0 : Int)) :
    k_231 a0 σ l0 (Int32.ofInt (0)) τ14 := by
  obtain ⟨rfl, hI⟩ := hI
  refine ⟨rfl, ?_⟩
  rintro rfl K b E nf nt A tx H h2 ht hint
  obtain ⟨n, hn, rfl, rfl⟩ := hI rfl K
  rw [zofNat2 (by omega)] at h1
  have hn9 : n = 1237 := by omega
  subst hn9
  obtain ⟨f1, t0, t9, hR⟩ := g2 rfl (by decide) b E nf nt A H.cy
  have f2 : rYF σ τ2 := rYF.cy.tr (rYF.of f1)
  have m8 : ∀ k, k < 1237 → τ2.1 208 k = .int (q_i (σ.1 206 k)) := fun k hk => by
    rw [f1.2 208 k (by omega) (by omega)]
    have := rCy_at (σ := σ) (s := 206) (d := 208) (os := 0) (od := 0) (n := 1237) (k := k) hk
    rw [Nat.zero_add] at this
    exact this
  have m7 : τ2.1 205 7 = σ.1 205 7 := by
    rw [f1.2 205 7 (by omega) (by omega)]
    exact rCy_ne (fun q => by omega)
  cases hD : dDeed b E nf nt with
  | inr F => rw [hD] at hR; have := hR.1; omega
  | inl os =>
  rw [hD] at hR
  obtain ⟨-, w1⟩ := hR
  obtain ⟨-, -, g2⟩ := g5
  have g3 := g2 rfl
  subst g3
  obtain ⟨-, g4, -⟩ := g14
  have g5 := g4 (by decide)
  subst g5
  have w2 : rW (q_w τ2 205 14 (.int (Int32.ofInt (-1)))) (dApps os nf nt A) := w1.el (by omega)
  have z2 : (Int32.ofInt 2).toNatClampNeg = 2 := rfl
  rw [w2.q, z2, w2.i (by omega), dApps_ne hD H.2.2.2.2.2.2.1 H.2.2.2.2.2.2.2.2 (by omega), h2, o32 (by omega)] at h8
  refine ⟨0, _, Int32.ofInt 2, Int32.ofInt (-1), by omega, rfl, rCy_0.symm, ⟨(f2.tr (rYF.w (by omega))).tr (rYF.w (by omega)), fun k hk => ?_, q_w_at _ _ _ _, ?_, ?_, ?_⟩, Or.inr ⟨os, rfl, by omega, rfl, rfl⟩⟩
  · rw [q_w_ne (fun q _ => by omega), q_w_ne (fun q _ => by omega)]; exact m8 k hk
  · rw [q_w_ne (fun _ q => by omega), q_w_at]
  · rw [q_w_ne (fun _ q => by omega), q_w_ne (fun _ q => by omega)]; exact t9
  · rw [q_w_ne (fun _ q => by omega), q_w_ne (fun _ q => by omega)]; exact m7
theorem sp_231_c2_ttft (a0 : Nat) (σ : zSg) (l0 : Nat) (l1 : Int32) (τ : zSg) (τ2 : zSg) (r2 : Int32) (τ19 : zSg) (r19 : Int32) (hI : i_231 a0 σ l0 l1 τ) (h1 : l1.toInt ≥ (1237 : Int)) (g2 : p_230d l0 (Int32.ofInt (1)) τ r2 τ2) (h3 : r2.toInt ≥ (0 : Int)) (h4 : r2.toInt < (0 : Int)) (g19 : p_176 l0 (Int32.ofInt (1)) (Int32.ofInt (1)) (q_w τ2 l0 14 (.int (Int32.ofInt (-1)))) r19 τ19) (h20 : r19.toInt ≠ (0 : Int)) :
    k_231 a0 σ l0 (Int32.ofInt (0)) τ19 := by
  omega
theorem sp_231_c2_ttfftt (a0 : Nat) (σ : zSg) (l0 : Nat) (l1 : Int32) (τ : zSg) (τ2 : zSg) (r2 : Int32) (τ19 : zSg) (r19 : Int32) (τ23 : zSg) (r23 : Int32) (hI : i_231 a0 σ l0 l1 τ) (h1 : l1.toInt ≥ (1237 : Int)) (g2 : p_230d l0 (Int32.ofInt (1)) τ r2 τ2) (h3 : r2.toInt ≥ (0 : Int)) (h4 : r2.toInt < (0 : Int)) (g19 : p_176 l0 (Int32.ofInt (1)) (Int32.ofInt (1)) (q_w τ2 l0 14 (.int (Int32.ofInt (-1)))) r19 τ19) (h20 : r19.toInt = (0 : Int)) (h21 : 0 ≤ (Int32.ofInt (2)).toInt ∧ (Int32.ofInt (2)).toInt < (τ19.2.1 (q_r (τ19.1 l0 1)) : Int)) (h22 : (q_i (τ19.1 (q_r (τ19.1 l0 1)) (Int32.ofInt (2)).toNatClampNeg)).toInt ≠ (12 : Int)) (g23 : p_176 l0 (Int32.ofInt (0)) (Int32.ofInt (2)) τ19 r23 τ23) (h24 : r23.toInt = (0 : Int)) (h25 : 0 ≤ (Int32.ofInt (2)).toInt ∧ (Int32.ofInt (2)).toInt < (τ23.2.1 (q_r (τ23.1 l0 1)) : Int)) (h26 : 0 ≤ (Int32.ofInt (2)).toInt ∧ (Int32.ofInt (2)).toInt < (τ23.2.1 (q_r (τ23.1 l0 1)) : Int)) (h27 : 0 ≤ (Int32.ofInt (2)).toInt ∧ (Int32.ofInt (2)).toInt < ((q_w (q_w τ23 (q_r (τ23.1 l0 1)) (Int32.ofInt (2)).toNatClampNeg (.int ((q_i (τ23.1 (q_r (τ23.1 l0 1)) (Int32.ofInt (2)).toNatClampNeg)) + (Int32.ofInt (1))))) l0 7 (.int (Int32.ofInt (0)))).2.1 (q_r ((q_w (q_w τ23 (q_r (τ23.1 l0 1)) (Int32.ofInt (2)).toNatClampNeg (.int ((q_i (τ23.1 (q_r (τ23.1 l0 1)) (Int32.ofInt (2)).toNatClampNeg)) + (Int32.ofInt (1))))) l0 7 (.int (Int32.ofInt (0)))).1 l0 1)) : Int)) :
    p_231 (a0) σ (q_i ((q_w (q_w τ23 (q_r (τ23.1 l0 1)) (Int32.ofInt (2)).toNatClampNeg (.int ((q_i (τ23.1 (q_r (τ23.1 l0 1)) (Int32.ofInt (2)).toNatClampNeg)) + (Int32.ofInt (1))))) l0 7 (.int (Int32.ofInt (0)))).1 (q_r ((q_w (q_w τ23 (q_r (τ23.1 l0 1)) (Int32.ofInt (2)).toNatClampNeg (.int ((q_i (τ23.1 (q_r (τ23.1 l0 1)) (Int32.ofInt (2)).toNatClampNeg)) + (Int32.ofInt (1))))) l0 7 (.int (Int32.ofInt (0)))).1 l0 1)) (Int32.ofInt (2)).toNatClampNeg)) (q_w (q_w τ23 (q_r (τ23.1 l0 1)) (Int32.ofInt (2)).toNatClampNeg (.int ((q_i (τ23.1 (q_r (τ23.1 l0 1)) (Int32.ofInt (2)).toNatClampNeg)) + (Int32.ofInt (1))))) l0 7 (.int (Int32.ofInt (0)))) := by
  omega
theorem sp_231_c2_ttfftf (a0 : Nat) (σ : zSg) (l0 : Nat) (l1 : Int32) (τ : zSg) (τ2 : zSg) (r2 : Int32) (τ19 : zSg) (r19 : Int32) (τ23 : zSg) (r23 : Int32) (hI : i_231 a0 σ l0 l1 τ) (h1 : l1.toInt ≥ (1237 : Int)) (g2 : p_230d l0 (Int32.ofInt (1)) τ r2 τ2) (h3 : r2.toInt ≥ (0 : Int)) (h4 : r2.toInt < (0 : Int)) (g19 : p_176 l0 (Int32.ofInt (1)) (Int32.ofInt (1)) (q_w τ2 l0 14 (.int (Int32.ofInt (-1)))) r19 τ19) (h20 : r19.toInt = (0 : Int)) (h21 : 0 ≤ (Int32.ofInt (2)).toInt ∧ (Int32.ofInt (2)).toInt < (τ19.2.1 (q_r (τ19.1 l0 1)) : Int)) (h22 : (q_i (τ19.1 (q_r (τ19.1 l0 1)) (Int32.ofInt (2)).toNatClampNeg)).toInt ≠ (12 : Int)) (g23 : p_176 l0 (Int32.ofInt (0)) (Int32.ofInt (2)) τ19 r23 τ23) (h24 : r23.toInt ≠ (0 : Int)) :
    k_231 a0 σ l0 (Int32.ofInt (0)) τ23 := by
  omega
theorem sp_231_c2_ttffft (a0 : Nat) (σ : zSg) (l0 : Nat) (l1 : Int32) (τ : zSg) (τ2 : zSg) (r2 : Int32) (τ19 : zSg) (r19 : Int32) (τ28 : zSg) (r28 : Int32) (hI : i_231 a0 σ l0 l1 τ) (h1 : l1.toInt ≥ (1237 : Int)) (g2 : p_230d l0 (Int32.ofInt (1)) τ r2 τ2) (h3 : r2.toInt ≥ (0 : Int)) (h4 : r2.toInt < (0 : Int)) (g19 : p_176 l0 (Int32.ofInt (1)) (Int32.ofInt (1)) (q_w τ2 l0 14 (.int (Int32.ofInt (-1)))) r19 τ19) (h20 : r19.toInt = (0 : Int)) (h21 : 0 ≤ (Int32.ofInt (2)).toInt ∧ (Int32.ofInt (2)).toInt < (τ19.2.1 (q_r (τ19.1 l0 1)) : Int)) (h22 : (q_i (τ19.1 (q_r (τ19.1 l0 1)) (Int32.ofInt (2)).toNatClampNeg)).toInt = (12 : Int)) (g28 : p_176 l0 (Int32.ofInt (1)) (Int32.ofInt (2)) τ19 r28 τ28) (h29 : r28.toInt = (0 : Int)) (h30 : 0 ≤ (Int32.ofInt (2)).toInt ∧ (Int32.ofInt (2)).toInt < (τ28.2.1 (q_r (τ28.1 l0 1)) : Int)) (h31 : 0 ≤ (Int32.ofInt (2)).toInt ∧ (Int32.ofInt (2)).toInt < (τ28.2.1 (q_r (τ28.1 l0 1)) : Int)) (h32 : 0 ≤ (Int32.ofInt (2)).toInt ∧ (Int32.ofInt (2)).toInt < ((q_w (q_w τ28 (q_r (τ28.1 l0 1)) (Int32.ofInt (2)).toNatClampNeg (.int ((q_i (τ28.1 (q_r (τ28.1 l0 1)) (Int32.ofInt (2)).toNatClampNeg)) + (Int32.ofInt (1))))) l0 7 (.int (Int32.ofInt (0)))).2.1 (q_r ((q_w (q_w τ28 (q_r (τ28.1 l0 1)) (Int32.ofInt (2)).toNatClampNeg (.int ((q_i (τ28.1 (q_r (τ28.1 l0 1)) (Int32.ofInt (2)).toNatClampNeg)) + (Int32.ofInt (1))))) l0 7 (.int (Int32.ofInt (0)))).1 l0 1)) : Int)) :
    p_231 (a0) σ (q_i ((q_w (q_w τ28 (q_r (τ28.1 l0 1)) (Int32.ofInt (2)).toNatClampNeg (.int ((q_i (τ28.1 (q_r (τ28.1 l0 1)) (Int32.ofInt (2)).toNatClampNeg)) + (Int32.ofInt (1))))) l0 7 (.int (Int32.ofInt (0)))).1 (q_r ((q_w (q_w τ28 (q_r (τ28.1 l0 1)) (Int32.ofInt (2)).toNatClampNeg (.int ((q_i (τ28.1 (q_r (τ28.1 l0 1)) (Int32.ofInt (2)).toNatClampNeg)) + (Int32.ofInt (1))))) l0 7 (.int (Int32.ofInt (0)))).1 l0 1)) (Int32.ofInt (2)).toNatClampNeg)) (q_w (q_w τ28 (q_r (τ28.1 l0 1)) (Int32.ofInt (2)).toNatClampNeg (.int ((q_i (τ28.1 (q_r (τ28.1 l0 1)) (Int32.ofInt (2)).toNatClampNeg)) + (Int32.ofInt (1))))) l0 7 (.int (Int32.ofInt (0)))) := by
  omega
theorem sp_231_c2_ttffff (a0 : Nat) (σ : zSg) (l0 : Nat) (l1 : Int32) (τ : zSg) (τ2 : zSg) (r2 : Int32) (τ19 : zSg) (r19 : Int32) (τ28 : zSg) (r28 : Int32) (hI : i_231 a0 σ l0 l1 τ) (h1 : l1.toInt ≥ (1237 : Int)) (g2 : p_230d l0 (Int32.ofInt (1)) τ r2 τ2) (h3 : r2.toInt ≥ (0 : Int)) (h4 : r2.toInt < (0 : Int)) (g19 : p_176 l0 (Int32.ofInt (1)) (Int32.ofInt (1)) (q_w τ2 l0 14 (.int (Int32.ofInt (-1)))) r19 τ19) (h20 : r19.toInt = (0 : Int)) (h21 : 0 ≤ (Int32.ofInt (2)).toInt ∧ (Int32.ofInt (2)).toInt < (τ19.2.1 (q_r (τ19.1 l0 1)) : Int)) (h22 : (q_i (τ19.1 (q_r (τ19.1 l0 1)) (Int32.ofInt (2)).toNatClampNeg)).toInt = (12 : Int)) (g28 : p_176 l0 (Int32.ofInt (1)) (Int32.ofInt (2)) τ19 r28 τ28) (h29 : r28.toInt ≠ (0 : Int)) :
    k_231 a0 σ l0 (Int32.ofInt (0)) τ28 := by
  omega
theorem sp_231_c2_tftt (a0 : Nat) (σ : zSg) (l0 : Nat) (l1 : Int32) (τ : zSg) (τ2 : zSg) (r2 : Int32) (τ34 : zSg) (r34 : Int32) (hI : i_231 a0 σ l0 l1 τ) (h1 : l1.toInt ≥ (1237 : Int)) (g2 : p_230d l0 (Int32.ofInt (1)) τ r2 τ2) (h3 : r2.toInt < (0 : Int)) (h33 : r2.toInt ≥ (0 : Int)) (g34 : p_176 l0 (Int32.ofInt (0)) (Int32.ofInt (1)) (q_w τ2 l0 14 (.int (q_i (τ2.1 l0 12)))) r34 τ34) (h35 : r34.toInt ≠ (0 : Int)) :
    k_231 a0 σ l0 (Int32.ofInt (0)) τ34 := by
  omega
theorem sp_231_c2_tftftt (a0 : Nat) (σ : zSg) (l0 : Nat) (l1 : Int32) (τ : zSg) (τ2 : zSg) (r2 : Int32) (τ34 : zSg) (r34 : Int32) (τ38 : zSg) (r38 : Int32) (hI : i_231 a0 σ l0 l1 τ) (h1 : l1.toInt ≥ (1237 : Int)) (g2 : p_230d l0 (Int32.ofInt (1)) τ r2 τ2) (h3 : r2.toInt < (0 : Int)) (h33 : r2.toInt ≥ (0 : Int)) (g34 : p_176 l0 (Int32.ofInt (0)) (Int32.ofInt (1)) (q_w τ2 l0 14 (.int (q_i (τ2.1 l0 12)))) r34 τ34) (h35 : r34.toInt = (0 : Int)) (h36 : 0 ≤ (Int32.ofInt (2)).toInt ∧ (Int32.ofInt (2)).toInt < (τ34.2.1 (q_r (τ34.1 l0 1)) : Int)) (h37 : (q_i (τ34.1 (q_r (τ34.1 l0 1)) (Int32.ofInt (2)).toNatClampNeg)).toInt ≠ (12 : Int)) (g38 : p_176 l0 (Int32.ofInt (0)) (Int32.ofInt (2)) τ34 r38 τ38) (h39 : r38.toInt = (0 : Int)) (h40 : 0 ≤ (Int32.ofInt (2)).toInt ∧ (Int32.ofInt (2)).toInt < (τ38.2.1 (q_r (τ38.1 l0 1)) : Int)) (h41 : 0 ≤ (Int32.ofInt (2)).toInt ∧ (Int32.ofInt (2)).toInt < (τ38.2.1 (q_r (τ38.1 l0 1)) : Int)) (h42 : 0 ≤ (Int32.ofInt (2)).toInt ∧ (Int32.ofInt (2)).toInt < ((q_w (q_w τ38 (q_r (τ38.1 l0 1)) (Int32.ofInt (2)).toNatClampNeg (.int ((q_i (τ38.1 (q_r (τ38.1 l0 1)) (Int32.ofInt (2)).toNatClampNeg)) + (Int32.ofInt (1))))) l0 7 (.int (Int32.ofInt (0)))).2.1 (q_r ((q_w (q_w τ38 (q_r (τ38.1 l0 1)) (Int32.ofInt (2)).toNatClampNeg (.int ((q_i (τ38.1 (q_r (τ38.1 l0 1)) (Int32.ofInt (2)).toNatClampNeg)) + (Int32.ofInt (1))))) l0 7 (.int (Int32.ofInt (0)))).1 l0 1)) : Int)) :
    p_231 (a0) σ (q_i ((q_w (q_w τ38 (q_r (τ38.1 l0 1)) (Int32.ofInt (2)).toNatClampNeg (.int ((q_i (τ38.1 (q_r (τ38.1 l0 1)) (Int32.ofInt (2)).toNatClampNeg)) + (Int32.ofInt (1))))) l0 7 (.int (Int32.ofInt (0)))).1 (q_r ((q_w (q_w τ38 (q_r (τ38.1 l0 1)) (Int32.ofInt (2)).toNatClampNeg (.int ((q_i (τ38.1 (q_r (τ38.1 l0 1)) (Int32.ofInt (2)).toNatClampNeg)) + (Int32.ofInt (1))))) l0 7 (.int (Int32.ofInt (0)))).1 l0 1)) (Int32.ofInt (2)).toNatClampNeg)) (q_w (q_w τ38 (q_r (τ38.1 l0 1)) (Int32.ofInt (2)).toNatClampNeg (.int ((q_i (τ38.1 (q_r (τ38.1 l0 1)) (Int32.ofInt (2)).toNatClampNeg)) + (Int32.ofInt (1))))) l0 7 (.int (Int32.ofInt (0)))) := by
  omega
theorem sp_231_c2_tftftf (a0 : Nat) (σ : zSg) (l0 : Nat) (l1 : Int32) (τ : zSg) (τ2 : zSg) (r2 : Int32) (τ34 : zSg) (r34 : Int32) (τ38 : zSg) (r38 : Int32) (hI : i_231 a0 σ l0 l1 τ) (h1 : l1.toInt ≥ (1237 : Int)) (g2 : p_230d l0 (Int32.ofInt (1)) τ r2 τ2) (h3 : r2.toInt < (0 : Int)) (h33 : r2.toInt ≥ (0 : Int)) (g34 : p_176 l0 (Int32.ofInt (0)) (Int32.ofInt (1)) (q_w τ2 l0 14 (.int (q_i (τ2.1 l0 12)))) r34 τ34) (h35 : r34.toInt = (0 : Int)) (h36 : 0 ≤ (Int32.ofInt (2)).toInt ∧ (Int32.ofInt (2)).toInt < (τ34.2.1 (q_r (τ34.1 l0 1)) : Int)) (h37 : (q_i (τ34.1 (q_r (τ34.1 l0 1)) (Int32.ofInt (2)).toNatClampNeg)).toInt ≠ (12 : Int)) (g38 : p_176 l0 (Int32.ofInt (0)) (Int32.ofInt (2)) τ34 r38 τ38) (h39 : r38.toInt ≠ (0 : Int)) :
    k_231 a0 σ l0 (Int32.ofInt (0)) τ38 := by
  omega
theorem sp_231_c2_tftfft (a0 : Nat) (σ : zSg) (l0 : Nat) (l1 : Int32) (τ : zSg) (τ2 : zSg) (r2 : Int32) (τ34 : zSg) (r34 : Int32) (τ43 : zSg) (r43 : Int32) (hI : i_231 a0 σ l0 l1 τ) (h1 : l1.toInt ≥ (1237 : Int)) (g2 : p_230d l0 (Int32.ofInt (1)) τ r2 τ2) (h3 : r2.toInt < (0 : Int)) (h33 : r2.toInt ≥ (0 : Int)) (g34 : p_176 l0 (Int32.ofInt (0)) (Int32.ofInt (1)) (q_w τ2 l0 14 (.int (q_i (τ2.1 l0 12)))) r34 τ34) (h35 : r34.toInt = (0 : Int)) (h36 : 0 ≤ (Int32.ofInt (2)).toInt ∧ (Int32.ofInt (2)).toInt < (τ34.2.1 (q_r (τ34.1 l0 1)) : Int)) (h37 : (q_i (τ34.1 (q_r (τ34.1 l0 1)) (Int32.ofInt (2)).toNatClampNeg)).toInt = (12 : Int)) (g43 : p_176 l0 (Int32.ofInt (1)) (Int32.ofInt (2)) τ34 r43 τ43) (h44 : r43.toInt = (0 : Int)) (h45 : 0 ≤ (Int32.ofInt (2)).toInt ∧ (Int32.ofInt (2)).toInt < (τ43.2.1 (q_r (τ43.1 l0 1)) : Int)) (h46 : 0 ≤ (Int32.ofInt (2)).toInt ∧ (Int32.ofInt (2)).toInt < (τ43.2.1 (q_r (τ43.1 l0 1)) : Int)) (h47 : 0 ≤ (Int32.ofInt (2)).toInt ∧ (Int32.ofInt (2)).toInt < ((q_w (q_w τ43 (q_r (τ43.1 l0 1)) (Int32.ofInt (2)).toNatClampNeg (.int ((q_i (τ43.1 (q_r (τ43.1 l0 1)) (Int32.ofInt (2)).toNatClampNeg)) + (Int32.ofInt (1))))) l0 7 (.int (Int32.ofInt (0)))).2.1 (q_r ((q_w (q_w τ43 (q_r (τ43.1 l0 1)) (Int32.ofInt (2)).toNatClampNeg (.int ((q_i (τ43.1 (q_r (τ43.1 l0 1)) (Int32.ofInt (2)).toNatClampNeg)) + (Int32.ofInt (1))))) l0 7 (.int (Int32.ofInt (0)))).1 l0 1)) : Int)) :
    p_231 (a0) σ (q_i ((q_w (q_w τ43 (q_r (τ43.1 l0 1)) (Int32.ofInt (2)).toNatClampNeg (.int ((q_i (τ43.1 (q_r (τ43.1 l0 1)) (Int32.ofInt (2)).toNatClampNeg)) + (Int32.ofInt (1))))) l0 7 (.int (Int32.ofInt (0)))).1 (q_r ((q_w (q_w τ43 (q_r (τ43.1 l0 1)) (Int32.ofInt (2)).toNatClampNeg (.int ((q_i (τ43.1 (q_r (τ43.1 l0 1)) (Int32.ofInt (2)).toNatClampNeg)) + (Int32.ofInt (1))))) l0 7 (.int (Int32.ofInt (0)))).1 l0 1)) (Int32.ofInt (2)).toNatClampNeg)) (q_w (q_w τ43 (q_r (τ43.1 l0 1)) (Int32.ofInt (2)).toNatClampNeg (.int ((q_i (τ43.1 (q_r (τ43.1 l0 1)) (Int32.ofInt (2)).toNatClampNeg)) + (Int32.ofInt (1))))) l0 7 (.int (Int32.ofInt (0)))) := by
  omega
theorem sp_231_c2_tftfff (a0 : Nat) (σ : zSg) (l0 : Nat) (l1 : Int32) (τ : zSg) (τ2 : zSg) (r2 : Int32) (τ34 : zSg) (r34 : Int32) (τ43 : zSg) (r43 : Int32) (hI : i_231 a0 σ l0 l1 τ) (h1 : l1.toInt ≥ (1237 : Int)) (g2 : p_230d l0 (Int32.ofInt (1)) τ r2 τ2) (h3 : r2.toInt < (0 : Int)) (h33 : r2.toInt ≥ (0 : Int)) (g34 : p_176 l0 (Int32.ofInt (0)) (Int32.ofInt (1)) (q_w τ2 l0 14 (.int (q_i (τ2.1 l0 12)))) r34 τ34) (h35 : r34.toInt = (0 : Int)) (h36 : 0 ≤ (Int32.ofInt (2)).toInt ∧ (Int32.ofInt (2)).toInt < (τ34.2.1 (q_r (τ34.1 l0 1)) : Int)) (h37 : (q_i (τ34.1 (q_r (τ34.1 l0 1)) (Int32.ofInt (2)).toNatClampNeg)).toInt = (12 : Int)) (g43 : p_176 l0 (Int32.ofInt (1)) (Int32.ofInt (2)) τ34 r43 τ43) (h44 : r43.toInt ≠ (0 : Int)) :
    k_231 a0 σ l0 (Int32.ofInt (0)) τ43 := by
  omega
theorem sp_231_c2_tfft (a0 : Nat) (σ : zSg) (l0 : Nat) (l1 : Int32) (τ : zSg) (τ2 : zSg) (r2 : Int32) (τ48 : zSg) (r48 : Int32) (hI : i_231 a0 σ l0 l1 τ) (h1 : l1.toInt ≥ (1237 : Int)) (g2 : p_230d l0 (Int32.ofInt (1)) τ r2 τ2) (h3 : r2.toInt < (0 : Int)) (h33 : r2.toInt < (0 : Int)) (g48 : p_176 l0 (Int32.ofInt (1)) (Int32.ofInt (1)) (q_w τ2 l0 14 (.int (q_i (τ2.1 l0 12)))) r48 τ48) (h49 : r48.toInt ≠ (0 : Int)) :
    k_231 a0 σ l0 (Int32.ofInt (0)) τ48 := by
  obtain ⟨rfl, hI⟩ := hI
  refine ⟨rfl, ?_⟩
  rintro rfl K b E nf nt A tx H h2 ht hint
  obtain ⟨n, hn, rfl, rfl⟩ := hI rfl K
  rw [zofNat2 (by omega)] at h1
  have hn9 : n = 1237 := by omega
  subst hn9
  obtain ⟨f1, t0, t9, hR⟩ := g2 rfl (by decide) b E nf nt A H.cy
  have f2 : rYF σ τ2 := rYF.cy.tr (rYF.of f1)
  have m8 : ∀ k, k < 1237 → τ2.1 208 k = .int (q_i (σ.1 206 k)) := fun k hk => by
    rw [f1.2 208 k (by omega) (by omega)]
    have := rCy_at (σ := σ) (s := 206) (d := 208) (os := 0) (od := 0) (n := 1237) (k := k) hk
    rw [Nat.zero_add] at this
    exact this
  have m7 : τ2.1 205 7 = σ.1 205 7 := by
    rw [f1.2 205 7 (by omega) (by omega)]
    exact rCy_ne (fun q => by omega)
  cases hD : dDeed b E nf nt with
  | inl os => rw [hD] at hR; have := hR.1; omega
  | inr F =>
  rw [hD] at hR
  obtain ⟨-, t12⟩ := hR
  obtain ⟨-, g2, -⟩ := g48
  have g3 := g2 (by decide)
  subst g3
  refine ⟨0, _, Int32.ofInt 1, Int32.ofNat F, by omega, rfl, rCy_0.symm, ⟨(f2.tr (rYF.w (by omega))).tr (rYF.w (by omega)), fun k hk => ?_, q_w_at _ _ _ _, ?_, ?_, ?_⟩, Or.inl ⟨F, rfl, rfl, rfl⟩⟩
  · rw [q_w_ne (fun q _ => by omega), q_w_ne (fun q _ => by omega)]; exact m8 k hk
  · rw [q_w_ne (fun _ q => by omega), q_w_at, t12]; rfl
  · rw [q_w_ne (fun _ q => by omega), q_w_ne (fun _ q => by omega)]; exact t9
  · rw [q_w_ne (fun _ q => by omega), q_w_ne (fun _ q => by omega)]; exact m7
theorem sp_231_c2_tffftt (a0 : Nat) (σ : zSg) (l0 : Nat) (l1 : Int32) (τ : zSg) (τ2 : zSg) (r2 : Int32) (τ48 : zSg) (r48 : Int32) (τ52 : zSg) (r52 : Int32) (hI : i_231 a0 σ l0 l1 τ) (h1 : l1.toInt ≥ (1237 : Int)) (g2 : p_230d l0 (Int32.ofInt (1)) τ r2 τ2) (h3 : r2.toInt < (0 : Int)) (h33 : r2.toInt < (0 : Int)) (g48 : p_176 l0 (Int32.ofInt (1)) (Int32.ofInt (1)) (q_w τ2 l0 14 (.int (q_i (τ2.1 l0 12)))) r48 τ48) (h49 : r48.toInt = (0 : Int)) (h50 : 0 ≤ (Int32.ofInt (2)).toInt ∧ (Int32.ofInt (2)).toInt < (τ48.2.1 (q_r (τ48.1 l0 1)) : Int)) (h51 : (q_i (τ48.1 (q_r (τ48.1 l0 1)) (Int32.ofInt (2)).toNatClampNeg)).toInt ≠ (12 : Int)) (g52 : p_176 l0 (Int32.ofInt (0)) (Int32.ofInt (2)) τ48 r52 τ52) (h53 : r52.toInt = (0 : Int)) (h54 : 0 ≤ (Int32.ofInt (2)).toInt ∧ (Int32.ofInt (2)).toInt < (τ52.2.1 (q_r (τ52.1 l0 1)) : Int)) (h55 : 0 ≤ (Int32.ofInt (2)).toInt ∧ (Int32.ofInt (2)).toInt < (τ52.2.1 (q_r (τ52.1 l0 1)) : Int)) (h56 : 0 ≤ (Int32.ofInt (2)).toInt ∧ (Int32.ofInt (2)).toInt < ((q_w (q_w τ52 (q_r (τ52.1 l0 1)) (Int32.ofInt (2)).toNatClampNeg (.int ((q_i (τ52.1 (q_r (τ52.1 l0 1)) (Int32.ofInt (2)).toNatClampNeg)) + (Int32.ofInt (1))))) l0 7 (.int (Int32.ofInt (0)))).2.1 (q_r ((q_w (q_w τ52 (q_r (τ52.1 l0 1)) (Int32.ofInt (2)).toNatClampNeg (.int ((q_i (τ52.1 (q_r (τ52.1 l0 1)) (Int32.ofInt (2)).toNatClampNeg)) + (Int32.ofInt (1))))) l0 7 (.int (Int32.ofInt (0)))).1 l0 1)) : Int)) :
    p_231 (a0) σ (q_i ((q_w (q_w τ52 (q_r (τ52.1 l0 1)) (Int32.ofInt (2)).toNatClampNeg (.int ((q_i (τ52.1 (q_r (τ52.1 l0 1)) (Int32.ofInt (2)).toNatClampNeg)) + (Int32.ofInt (1))))) l0 7 (.int (Int32.ofInt (0)))).1 (q_r ((q_w (q_w τ52 (q_r (τ52.1 l0 1)) (Int32.ofInt (2)).toNatClampNeg (.int ((q_i (τ52.1 (q_r (τ52.1 l0 1)) (Int32.ofInt (2)).toNatClampNeg)) + (Int32.ofInt (1))))) l0 7 (.int (Int32.ofInt (0)))).1 l0 1)) (Int32.ofInt (2)).toNatClampNeg)) (q_w (q_w τ52 (q_r (τ52.1 l0 1)) (Int32.ofInt (2)).toNatClampNeg (.int ((q_i (τ52.1 (q_r (τ52.1 l0 1)) (Int32.ofInt (2)).toNatClampNeg)) + (Int32.ofInt (1))))) l0 7 (.int (Int32.ofInt (0)))) := by
  have h9 := g48.1
  rw [h9] at h49
  exact absurd h49 (by decide)
theorem sp_231_c2_tffftf (a0 : Nat) (σ : zSg) (l0 : Nat) (l1 : Int32) (τ : zSg) (τ2 : zSg) (r2 : Int32) (τ48 : zSg) (r48 : Int32) (τ52 : zSg) (r52 : Int32) (hI : i_231 a0 σ l0 l1 τ) (h1 : l1.toInt ≥ (1237 : Int)) (g2 : p_230d l0 (Int32.ofInt (1)) τ r2 τ2) (h3 : r2.toInt < (0 : Int)) (h33 : r2.toInt < (0 : Int)) (g48 : p_176 l0 (Int32.ofInt (1)) (Int32.ofInt (1)) (q_w τ2 l0 14 (.int (q_i (τ2.1 l0 12)))) r48 τ48) (h49 : r48.toInt = (0 : Int)) (h50 : 0 ≤ (Int32.ofInt (2)).toInt ∧ (Int32.ofInt (2)).toInt < (τ48.2.1 (q_r (τ48.1 l0 1)) : Int)) (h51 : (q_i (τ48.1 (q_r (τ48.1 l0 1)) (Int32.ofInt (2)).toNatClampNeg)).toInt ≠ (12 : Int)) (g52 : p_176 l0 (Int32.ofInt (0)) (Int32.ofInt (2)) τ48 r52 τ52) (h53 : r52.toInt ≠ (0 : Int)) :
    k_231 a0 σ l0 (Int32.ofInt (0)) τ52 := by
  have h9 := g48.1
  rw [h9] at h49
  exact absurd h49 (by decide)
theorem sp_231_c2_tfffft (a0 : Nat) (σ : zSg) (l0 : Nat) (l1 : Int32) (τ : zSg) (τ2 : zSg) (r2 : Int32) (τ48 : zSg) (r48 : Int32) (τ57 : zSg) (r57 : Int32) (hI : i_231 a0 σ l0 l1 τ) (h1 : l1.toInt ≥ (1237 : Int)) (g2 : p_230d l0 (Int32.ofInt (1)) τ r2 τ2) (h3 : r2.toInt < (0 : Int)) (h33 : r2.toInt < (0 : Int)) (g48 : p_176 l0 (Int32.ofInt (1)) (Int32.ofInt (1)) (q_w τ2 l0 14 (.int (q_i (τ2.1 l0 12)))) r48 τ48) (h49 : r48.toInt = (0 : Int)) (h50 : 0 ≤ (Int32.ofInt (2)).toInt ∧ (Int32.ofInt (2)).toInt < (τ48.2.1 (q_r (τ48.1 l0 1)) : Int)) (h51 : (q_i (τ48.1 (q_r (τ48.1 l0 1)) (Int32.ofInt (2)).toNatClampNeg)).toInt = (12 : Int)) (g57 : p_176 l0 (Int32.ofInt (1)) (Int32.ofInt (2)) τ48 r57 τ57) (h58 : r57.toInt = (0 : Int)) (h59 : 0 ≤ (Int32.ofInt (2)).toInt ∧ (Int32.ofInt (2)).toInt < (τ57.2.1 (q_r (τ57.1 l0 1)) : Int)) (h60 : 0 ≤ (Int32.ofInt (2)).toInt ∧ (Int32.ofInt (2)).toInt < (τ57.2.1 (q_r (τ57.1 l0 1)) : Int)) (h61 : 0 ≤ (Int32.ofInt (2)).toInt ∧ (Int32.ofInt (2)).toInt < ((q_w (q_w τ57 (q_r (τ57.1 l0 1)) (Int32.ofInt (2)).toNatClampNeg (.int ((q_i (τ57.1 (q_r (τ57.1 l0 1)) (Int32.ofInt (2)).toNatClampNeg)) + (Int32.ofInt (1))))) l0 7 (.int (Int32.ofInt (0)))).2.1 (q_r ((q_w (q_w τ57 (q_r (τ57.1 l0 1)) (Int32.ofInt (2)).toNatClampNeg (.int ((q_i (τ57.1 (q_r (τ57.1 l0 1)) (Int32.ofInt (2)).toNatClampNeg)) + (Int32.ofInt (1))))) l0 7 (.int (Int32.ofInt (0)))).1 l0 1)) : Int)) :
    p_231 (a0) σ (q_i ((q_w (q_w τ57 (q_r (τ57.1 l0 1)) (Int32.ofInt (2)).toNatClampNeg (.int ((q_i (τ57.1 (q_r (τ57.1 l0 1)) (Int32.ofInt (2)).toNatClampNeg)) + (Int32.ofInt (1))))) l0 7 (.int (Int32.ofInt (0)))).1 (q_r ((q_w (q_w τ57 (q_r (τ57.1 l0 1)) (Int32.ofInt (2)).toNatClampNeg (.int ((q_i (τ57.1 (q_r (τ57.1 l0 1)) (Int32.ofInt (2)).toNatClampNeg)) + (Int32.ofInt (1))))) l0 7 (.int (Int32.ofInt (0)))).1 l0 1)) (Int32.ofInt (2)).toNatClampNeg)) (q_w (q_w τ57 (q_r (τ57.1 l0 1)) (Int32.ofInt (2)).toNatClampNeg (.int ((q_i (τ57.1 (q_r (τ57.1 l0 1)) (Int32.ofInt (2)).toNatClampNeg)) + (Int32.ofInt (1))))) l0 7 (.int (Int32.ofInt (0)))) := by
  have h9 := g48.1
  rw [h9] at h49
  exact absurd h49 (by decide)
theorem sp_231_c2_tfffff (a0 : Nat) (σ : zSg) (l0 : Nat) (l1 : Int32) (τ : zSg) (τ2 : zSg) (r2 : Int32) (τ48 : zSg) (r48 : Int32) (τ57 : zSg) (r57 : Int32) (hI : i_231 a0 σ l0 l1 τ) (h1 : l1.toInt ≥ (1237 : Int)) (g2 : p_230d l0 (Int32.ofInt (1)) τ r2 τ2) (h3 : r2.toInt < (0 : Int)) (h33 : r2.toInt < (0 : Int)) (g48 : p_176 l0 (Int32.ofInt (1)) (Int32.ofInt (1)) (q_w τ2 l0 14 (.int (q_i (τ2.1 l0 12)))) r48 τ48) (h49 : r48.toInt = (0 : Int)) (h50 : 0 ≤ (Int32.ofInt (2)).toInt ∧ (Int32.ofInt (2)).toInt < (τ48.2.1 (q_r (τ48.1 l0 1)) : Int)) (h51 : (q_i (τ48.1 (q_r (τ48.1 l0 1)) (Int32.ofInt (2)).toNatClampNeg)).toInt = (12 : Int)) (g57 : p_176 l0 (Int32.ofInt (1)) (Int32.ofInt (2)) τ48 r57 τ57) (h58 : r57.toInt ≠ (0 : Int)) :
    k_231 a0 σ l0 (Int32.ofInt (0)) τ57 := by
  have h9 := g48.1
  rw [h9] at h49
  exact absurd h49 (by decide)
theorem sp_231_c2_f (a0 : Nat) (σ : zSg) (l0 : Nat) (l1 : Int32) (τ : zSg) (hI : i_231 a0 σ l0 l1 τ) (h1 : l1.toInt < (1237 : Int)) (h62 : 0 ≤ l1.toInt ∧ l1.toInt < (τ.2.1 (q_r (τ.1 l0 1)) : Int)) (h63 : 0 ≤ l1.toInt ∧ l1.toInt < (τ.2.1 (q_r (τ.1 l0 3)) : Int)) :
    i_231 a0 σ l0 (l1 + Int32.ofInt (1)) (q_w τ (q_r (τ.1 l0 3)) l1.toNatClampNeg (.int (q_i (τ.1 (q_r (τ.1 l0 1)) l1.toNatClampNeg)))) := by
  obtain ⟨rfl, hI⟩ := hI
  refine ⟨rfl, ?_⟩
  rintro rfl K
  obtain ⟨n, hn, rfl, rfl⟩ := hI rfl K
  rw [zofNat2 (by omega)] at h1
  have q9 := (K.cy (s := 206) (d := 208) (os := 0) (od := 0) (n := n) (by decide)).q
  have hx : (Int32.ofNat n).toNatClampNeg = 0 + n := (o32N (by omega)).trans (by omega)
  simp only [q9.1, q9.2.2.1, hx]
  exact ⟨n + 1, by omega, o32J (by omega), rCy_s (Or.inl (by decide))⟩
theorem sp_231_c51_t (a0 : Nat) (σ : zSg) (l0 : Nat) (l2 : Int32) (τ : zSg) (hI : k_231 a0 σ l0 l2 τ) (h64 : l2.toInt ≥ (1237 : Int)) :
    p_231 (a0) σ (Int32.ofInt (0)) τ := by
  obtain ⟨rfl, hI⟩ := hI
  rintro rfl K b E nf nt A tx H h2 ht hint
  obtain ⟨n, S, Th, Ft, hn, rfl, rfl, HB, hx⟩ := hI rfl K b E nf nt A tx H h2 ht hint
  rw [zofNat2 (by omega)] at h64
  have hn9 : n = 1237 := by omega
  subst hn9
  obtain ⟨g1, g2, g3, g4, g5, g6⟩ := id HB
  have at_ : ∀ k, k < 1237 → (rCy S 208 206 0 0 1237).1 206 k = .int (q_i (σ.1 206 k)) := fun k hk => by
    have := rCy_at (σ := S) (s := 208) (d := 206) (os := 0) (od := 0) (n := 1237) (k := k) hk
    rw [Nat.zero_add] at this
    rw [this, g2 k hk]
    rfl
  have el : ∀ k, (rCy S 208 206 0 0 1237).1 205 k = S.1 205 k := fun k => rCy_ne (fun q => by omega)
  have w : rW (rCy S 208 206 0 0 1237) A := ⟨by rw [el]; exact (HB.q K).1, fun k hk => by rw [at_ k (by omega), H.2.2.1.i hk]⟩
  have fr : rYF σ (rCy S 208 206 0 0 1237) := ⟨g1.1, fun c k q1 q2 q3 => by
    by_cases h9 : c = 206 ∧ 0 ≤ k ∧ k < 0 + 1237
    · obtain ⟨rfl, -, h8⟩ := h9
      rw [at_ k (by omega)]
      by_cases h7 : k < 388
      · rw [H.2.2.1.2 k h7]; rfl
      · obtain ⟨x, hx9⟩ := hint k (by omega)
        rw [hx9]; rfl
    · rw [rCy_ne h9]; exact g1.2 c k q1 q2 q3⟩
  refine ⟨fr, by rw [el]; exact g5, ?_⟩
  rcases hx with ⟨F, hD, rfl, rfl⟩ | ⟨os, hD, h12, rfl, rfl⟩
  · rw [hD]
    exact ⟨by rw [el]; exact g3, by rw [el]; exact g4, w, by rw [el]; exact g6⟩
  · rw [hD]
    exact ⟨by rw [el]; exact g4, fun _ => ⟨by rw [el]; exact g3, w, by rw [el]; exact g6⟩, fun h => absurd h12 (by omega)⟩
theorem sp_231_c51_f (a0 : Nat) (σ : zSg) (l0 : Nat) (l2 : Int32) (τ : zSg) (hI : k_231 a0 σ l0 l2 τ) (h64 : l2.toInt < (1237 : Int)) (h65 : 0 ≤ l2.toInt ∧ l2.toInt < (τ.2.1 (q_r (τ.1 l0 3)) : Int)) (h66 : 0 ≤ l2.toInt ∧ l2.toInt < (τ.2.1 (q_r (τ.1 l0 1)) : Int)) :
    k_231 a0 σ l0 (l2 + Int32.ofInt (1)) (q_w τ (q_r (τ.1 l0 1)) l2.toNatClampNeg (.int (q_i (τ.1 (q_r (τ.1 l0 3)) l2.toNatClampNeg)))) := by
  obtain ⟨rfl, hI⟩ := hI
  refine ⟨rfl, ?_⟩
  rintro rfl K b E nf nt A tx H h2 ht hint
  obtain ⟨n, S, Th, Ft, hn, rfl, rfl, HB, hx⟩ := hI rfl K b E nf nt A tx H h2 ht hint
  rw [zofNat2 (by omega)] at h64
  have q9 := ((HB.q K).cy (s := 208) (d := 206) (os := 0) (od := 0) (n := n) (by decide)).q
  have hy : (Int32.ofNat n).toNatClampNeg = 0 + n := (o32N (by omega)).trans (by omega)
  simp only [q9.1, q9.2.2.1, hy]
  exact ⟨n + 1, S, Th, Ft, by omega, o32J (by omega), rCy_s (Or.inl (by decide)), HB, hx⟩
noncomputable def qP_231 : zPp := fun as σ o σ' => match as with
  | [a0] => ∃ r, o = .inl (some (.int r)) ∧ p_231 (q_r a0) σ r σ'
  | _ => True
set_option maxRecDepth 100000 in
theorem sp_231 {sx : zX} (S230 : zEe sx 230 2 qP_230d) (S176 : zEe sx 176 3 qP_176) : zEe sx 231 1 qP_231 := by
  refine zfle zJ_231 (sps := [(230, 2, qP_230d), (176, 3, qP_176)]) (fun q hq => by
    simp only [List.mem_cons, List.not_mem_nil, or_false] at hq
    rcases hq with rfl | rfl
    · exact S230
    · exact S176) (fun as σ hl => ?_)
  match as, hl with
  | [a0], _ =>
  refine ⟨[(2, fun lo st τ => st = [] ∧ i_231 (q_r a0) σ (q_r (lo 0)) (q_i (lo 1)) τ), (51, fun lo st τ => st = [] ∧ k_231 (q_r a0) σ (q_r (lo 0)) (q_i (lo 2)) τ)], 400, ?_, ?_⟩
  · intro q hq
    simp only [List.mem_cons, List.not_mem_nil, or_false] at hq
    rcases hq with rfl | rfl
    · rintro lo st τ ⟨rfl, hI⟩
      refine ⟨400, ?_⟩
      refine And.intro (fun h1 => ?_) (fun h1 => ?_)
      · refine fun o2 τ2 g2 => ?_
        obtain ⟨r2, rfl, g2⟩ := g2
        refine And.intro (fun h3 => ?_) (fun h3 => ?_)
        · refine And.intro (fun h4 => ?_) (fun h4 => ?_)
          · refine fun o5 τ5 g5 => ?_
            obtain ⟨r5, rfl, g5⟩ := g5
            refine And.intro (fun h6 => ?_) (fun h6 => ?_)
            · exact ⟨rfl, sp_231_c2_tttt (q_r a0) σ (q_r (lo 0)) (q_i (lo 1)) τ τ2 r2 τ5 r5 hI (cm3t h1) g2 (cm3t h3) (cm3t h4) g5 (cm1t h6)⟩
            · refine fun h7 => ?_
              refine And.intro (fun h8 => ?_) (fun h8 => ?_)
              · refine fun o9 τ9 g9 => ?_
                obtain ⟨r9, rfl, g9⟩ := g9
                refine And.intro (fun h10 => ?_) (fun h10 => ?_)
                · refine fun h11 => ?_
                  refine fun h12 => ?_
                  refine fun h13 => ?_
                  exact ⟨_, rfl, sp_231_c2_tttftt (q_r a0) σ (q_r (lo 0)) (q_i (lo 1)) τ τ2 r2 τ5 r5 τ9 r9 hI (cm3t h1) g2 (cm3t h3) (cm3t h4) g5 (cm1f h6) (q_inp h7) (cm1t h8) g9 (cm0t h10) (q_inp h11) (q_inp h12) (q_inp h13)⟩
                · exact ⟨rfl, sp_231_c2_tttftf (q_r a0) σ (q_r (lo 0)) (q_i (lo 1)) τ τ2 r2 τ5 r5 τ9 r9 hI (cm3t h1) g2 (cm3t h3) (cm3t h4) g5 (cm1f h6) (q_inp h7) (cm1t h8) g9 (cm0f h10)⟩
              · refine fun o14 τ14 g14 => ?_
                obtain ⟨r14, rfl, g14⟩ := g14
                refine And.intro (fun h15 => ?_) (fun h15 => ?_)
                · refine fun h16 => ?_
                  refine fun h17 => ?_
                  refine fun h18 => ?_
                  exact ⟨_, rfl, sp_231_c2_tttfft (q_r a0) σ (q_r (lo 0)) (q_i (lo 1)) τ τ2 r2 τ5 r5 τ14 r14 hI (cm3t h1) g2 (cm3t h3) (cm3t h4) g5 (cm1f h6) (q_inp h7) (cm1f h8) g14 (cm0t h15) (q_inp h16) (q_inp h17) (q_inp h18)⟩
                · exact ⟨rfl, sp_231_c2_tttfff (q_r a0) σ (q_r (lo 0)) (q_i (lo 1)) τ τ2 r2 τ5 r5 τ14 r14 hI (cm3t h1) g2 (cm3t h3) (cm3t h4) g5 (cm1f h6) (q_inp h7) (cm1f h8) g14 (cm0f h15)⟩
          · refine fun o19 τ19 g19 => ?_
            obtain ⟨r19, rfl, g19⟩ := g19
            refine And.intro (fun h20 => ?_) (fun h20 => ?_)
            · exact ⟨rfl, sp_231_c2_ttft (q_r a0) σ (q_r (lo 0)) (q_i (lo 1)) τ τ2 r2 τ19 r19 hI (cm3t h1) g2 (cm3t h3) (cm3f h4) g19 (cm1t h20)⟩
            · refine fun h21 => ?_
              refine And.intro (fun h22 => ?_) (fun h22 => ?_)
              · refine fun o23 τ23 g23 => ?_
                obtain ⟨r23, rfl, g23⟩ := g23
                refine And.intro (fun h24 => ?_) (fun h24 => ?_)
                · refine fun h25 => ?_
                  refine fun h26 => ?_
                  refine fun h27 => ?_
                  exact ⟨_, rfl, sp_231_c2_ttfftt (q_r a0) σ (q_r (lo 0)) (q_i (lo 1)) τ τ2 r2 τ19 r19 τ23 r23 hI (cm3t h1) g2 (cm3t h3) (cm3f h4) g19 (cm1f h20) (q_inp h21) (cm1t h22) g23 (cm0t h24) (q_inp h25) (q_inp h26) (q_inp h27)⟩
                · exact ⟨rfl, sp_231_c2_ttfftf (q_r a0) σ (q_r (lo 0)) (q_i (lo 1)) τ τ2 r2 τ19 r19 τ23 r23 hI (cm3t h1) g2 (cm3t h3) (cm3f h4) g19 (cm1f h20) (q_inp h21) (cm1t h22) g23 (cm0f h24)⟩
              · refine fun o28 τ28 g28 => ?_
                obtain ⟨r28, rfl, g28⟩ := g28
                refine And.intro (fun h29 => ?_) (fun h29 => ?_)
                · refine fun h30 => ?_
                  refine fun h31 => ?_
                  refine fun h32 => ?_
                  exact ⟨_, rfl, sp_231_c2_ttffft (q_r a0) σ (q_r (lo 0)) (q_i (lo 1)) τ τ2 r2 τ19 r19 τ28 r28 hI (cm3t h1) g2 (cm3t h3) (cm3f h4) g19 (cm1f h20) (q_inp h21) (cm1f h22) g28 (cm0t h29) (q_inp h30) (q_inp h31) (q_inp h32)⟩
                · exact ⟨rfl, sp_231_c2_ttffff (q_r a0) σ (q_r (lo 0)) (q_i (lo 1)) τ τ2 r2 τ19 r19 τ28 r28 hI (cm3t h1) g2 (cm3t h3) (cm3f h4) g19 (cm1f h20) (q_inp h21) (cm1f h22) g28 (cm0f h29)⟩
        · refine And.intro (fun h33 => ?_) (fun h33 => ?_)
          · refine fun o34 τ34 g34 => ?_
            obtain ⟨r34, rfl, g34⟩ := g34
            refine And.intro (fun h35 => ?_) (fun h35 => ?_)
            · exact ⟨rfl, sp_231_c2_tftt (q_r a0) σ (q_r (lo 0)) (q_i (lo 1)) τ τ2 r2 τ34 r34 hI (cm3t h1) g2 (cm3f h3) (cm3t h33) g34 (cm1t h35)⟩
            · refine fun h36 => ?_
              refine And.intro (fun h37 => ?_) (fun h37 => ?_)
              · refine fun o38 τ38 g38 => ?_
                obtain ⟨r38, rfl, g38⟩ := g38
                refine And.intro (fun h39 => ?_) (fun h39 => ?_)
                · refine fun h40 => ?_
                  refine fun h41 => ?_
                  refine fun h42 => ?_
                  exact ⟨_, rfl, sp_231_c2_tftftt (q_r a0) σ (q_r (lo 0)) (q_i (lo 1)) τ τ2 r2 τ34 r34 τ38 r38 hI (cm3t h1) g2 (cm3f h3) (cm3t h33) g34 (cm1f h35) (q_inp h36) (cm1t h37) g38 (cm0t h39) (q_inp h40) (q_inp h41) (q_inp h42)⟩
                · exact ⟨rfl, sp_231_c2_tftftf (q_r a0) σ (q_r (lo 0)) (q_i (lo 1)) τ τ2 r2 τ34 r34 τ38 r38 hI (cm3t h1) g2 (cm3f h3) (cm3t h33) g34 (cm1f h35) (q_inp h36) (cm1t h37) g38 (cm0f h39)⟩
              · refine fun o43 τ43 g43 => ?_
                obtain ⟨r43, rfl, g43⟩ := g43
                refine And.intro (fun h44 => ?_) (fun h44 => ?_)
                · refine fun h45 => ?_
                  refine fun h46 => ?_
                  refine fun h47 => ?_
                  exact ⟨_, rfl, sp_231_c2_tftfft (q_r a0) σ (q_r (lo 0)) (q_i (lo 1)) τ τ2 r2 τ34 r34 τ43 r43 hI (cm3t h1) g2 (cm3f h3) (cm3t h33) g34 (cm1f h35) (q_inp h36) (cm1f h37) g43 (cm0t h44) (q_inp h45) (q_inp h46) (q_inp h47)⟩
                · exact ⟨rfl, sp_231_c2_tftfff (q_r a0) σ (q_r (lo 0)) (q_i (lo 1)) τ τ2 r2 τ34 r34 τ43 r43 hI (cm3t h1) g2 (cm3f h3) (cm3t h33) g34 (cm1f h35) (q_inp h36) (cm1f h37) g43 (cm0f h44)⟩
          · refine fun o48 τ48 g48 => ?_
            obtain ⟨r48, rfl, g48⟩ := g48
            refine And.intro (fun h49 => ?_) (fun h49 => ?_)
            · exact ⟨rfl, sp_231_c2_tfft (q_r a0) σ (q_r (lo 0)) (q_i (lo 1)) τ τ2 r2 τ48 r48 hI (cm3t h1) g2 (cm3f h3) (cm3f h33) g48 (cm1t h49)⟩
            · refine fun h50 => ?_
              refine And.intro (fun h51 => ?_) (fun h51 => ?_)
              · refine fun o52 τ52 g52 => ?_
                obtain ⟨r52, rfl, g52⟩ := g52
                refine And.intro (fun h53 => ?_) (fun h53 => ?_)
                · refine fun h54 => ?_
                  refine fun h55 => ?_
                  refine fun h56 => ?_
                  exact ⟨_, rfl, sp_231_c2_tffftt (q_r a0) σ (q_r (lo 0)) (q_i (lo 1)) τ τ2 r2 τ48 r48 τ52 r52 hI (cm3t h1) g2 (cm3f h3) (cm3f h33) g48 (cm1f h49) (q_inp h50) (cm1t h51) g52 (cm0t h53) (q_inp h54) (q_inp h55) (q_inp h56)⟩
                · exact ⟨rfl, sp_231_c2_tffftf (q_r a0) σ (q_r (lo 0)) (q_i (lo 1)) τ τ2 r2 τ48 r48 τ52 r52 hI (cm3t h1) g2 (cm3f h3) (cm3f h33) g48 (cm1f h49) (q_inp h50) (cm1t h51) g52 (cm0f h53)⟩
              · refine fun o57 τ57 g57 => ?_
                obtain ⟨r57, rfl, g57⟩ := g57
                refine And.intro (fun h58 => ?_) (fun h58 => ?_)
                · refine fun h59 => ?_
                  refine fun h60 => ?_
                  refine fun h61 => ?_
                  exact ⟨_, rfl, sp_231_c2_tfffft (q_r a0) σ (q_r (lo 0)) (q_i (lo 1)) τ τ2 r2 τ48 r48 τ57 r57 hI (cm3t h1) g2 (cm3f h3) (cm3f h33) g48 (cm1f h49) (q_inp h50) (cm1f h51) g57 (cm0t h58) (q_inp h59) (q_inp h60) (q_inp h61)⟩
                · exact ⟨rfl, sp_231_c2_tfffff (q_r a0) σ (q_r (lo 0)) (q_i (lo 1)) τ τ2 r2 τ48 r48 τ57 r57 hI (cm3t h1) g2 (cm3f h3) (cm3f h33) g48 (cm1f h49) (q_inp h50) (cm1f h51) g57 (cm0f h58)⟩
      · refine fun h62 => ?_
        refine fun h63 => ?_
        exact ⟨rfl, sp_231_c2_f (q_r a0) σ (q_r (lo 0)) (q_i (lo 1)) τ hI (cm3f h1) (q_inp h62) (q_inp h63)⟩
    · rintro lo st τ ⟨rfl, hI⟩
      refine ⟨400, ?_⟩
      refine And.intro (fun h64 => ?_) (fun h64 => ?_)
      · exact ⟨_, rfl, sp_231_c51_t (q_r a0) σ (q_r (lo 0)) (q_i (lo 2)) τ hI (cm3t h64)⟩
      · refine fun h65 => ?_
        refine fun h66 => ?_
        exact ⟨rfl, sp_231_c51_f (q_r a0) σ (q_r (lo 0)) (q_i (lo 2)) τ hI (cm3f h64) (q_inp h65) (q_inp h66)⟩
  · exact ⟨rfl, sp_231_e (q_r a0) σ ⟩
end
section
/-! the class's memory, deed, image, back, exact; printed with wip/gen/gen_da.py -/
/-- the remembered houses, in a ring -/
noncomputable def mM (σ : zSg) (nx n : Nat) (Ms : Nat → Nat → Int32) : Prop := σ.1 47 0 = .ref 48 ∧ (∀ i, i < 12 → σ.1 48 i = .ref (49 + 13 * i)) ∧ σ.1 47 1 = .int (Int32.ofNat nx) ∧ nx < 12 ∧ σ.1 47 2 = .int (Int32.ofNat n) ∧ n ≤ 12 ∧ ∀ i, i < 12 → hH σ (49 + 13 * i) (Ms i)
theorem cpI.fr {σ τ : zSg} {b o : Nat} (I : cpI σ τ b o DH) {c k : Nat} (h : ¬ (b ≤ c ∧ c ≤ b + 12)) : τ.1 c k = σ.1 c k := I.2.1 c k (fun d e1 e2 _ => h (by omega))
theorem hH.ho {σ τ : zSg} {b o e : Nat} {A : Nat → Int32} (K : hH σ e A) (I : cpI σ τ b o DH) (h : dsj b e) : hH τ e A := K.fr I.1 (fun c j h1 h2 => I.fr (by unfold dsj at h; omega))
theorem n12_all : (List.range 12).all (fun n => decide (Int32.ofNat n + Int32.ofInt 1 - (Int32.ofNat n + Int32.ofInt 1) / Int32.ofInt 12 * Int32.ofInt 12 = Int32.ofNat ((n + 1) % 12)) && (decide (Int32.ofNat n + Int32.ofInt 12 - Int32.ofInt 1 - (Int32.ofNat n + Int32.ofInt 12 - Int32.ofInt 1) / Int32.ofInt 12 * Int32.ofInt 12 = Int32.ofNat ((n + 11) % 12)))) = true := by decide +kernel
theorem n12 {n : Nat} (h : n < 12) : Int32.ofNat n + Int32.ofInt 1 - (Int32.ofNat n + Int32.ofInt 1) / Int32.ofInt 12 * Int32.ofInt 12 = Int32.ofNat ((n + 1) % 12) := by
  have := List.all_eq_true.mp n12_all n (List.mem_range.mpr h)
  rw [Bool.and_eq_true] at this
  exact of_decide_eq_true this.1
theorem b12 {n : Nat} (h : n < 12) : Int32.ofNat n + Int32.ofInt 12 - Int32.ofInt 1 - (Int32.ofNat n + Int32.ofInt 12 - Int32.ofInt 1) / Int32.ofInt 12 * Int32.ofInt 12 = Int32.ofNat ((n + 11) % 12) := by
  have := List.all_eq_true.mp n12_all n (List.mem_range.mpr h)
  rw [Bool.and_eq_true] at this
  exact of_decide_eq_true this.2
theorem min12_all : (List.range 13).all (fun n => decide ((if Int32.ofInt 12 < Int32.ofNat n + Int32.ofInt 1 then Int32.ofInt 12 else Int32.ofNat n + Int32.ofInt 1) = Int32.ofNat (min (n + 1) 12))) = true := by decide +kernel
theorem min12 {n : Nat} (h : n ≤ 12) : (if Int32.ofInt 12 < Int32.ofNat n + Int32.ofInt 1 then Int32.ofInt 12 else Int32.ofNat n + Int32.ofInt 1) = Int32.ofNat (min (n + 1) 12) := of_decide_eq_true (List.all_eq_true.mp min12_all n (List.mem_range.mpr (by omega)))
/-- writes at the memory's own numbers -/
theorem hH.el {σ : zSg} {b c k : Nat} {A : Nat → Int32} {v : Value} (K : hH σ b A) (h : ¬ (b ≤ c ∧ c ≤ b + 12)) : hH (q_w σ c k v) b A := K.fr rfl (fun c' j h1 h2 => q_w_ne (fun e _ => by omega))
theorem zJ_62 : zJ3 62 z_m62 z_c62 z_h62 := ⟨rfl, rfl, rfl⟩
noncomputable def p_62 (a h : Nat) (σ σ' : zSg) : Prop := a = 47 → h = 8 → ∀ nx n Ms A, mM σ nx n Ms → hH σ 8 A → (σ'.2 = σ.2 ∧ ∀ c k, ¬ (c = 47 ∧ (k = 1 ∨ k = 2)) → ¬ (49 + 13 * nx ≤ c ∧ c ≤ 61 + 13 * nx) → σ'.1 c k = σ.1 c k) ∧ mM σ' ((nx + 1) % 12) (min (n + 1) 12) (fun i => if i = nx then A else Ms i) ∧ σ'.1 (49 + 13 * nx) 5 = σ.1 8 5
theorem sp_62_e (a0 : Nat) (a1 : Nat) (σ : zSg) (τ2 : zSg) (h1 : 0 ≤ (q_i (σ.1 a0 1)).toInt ∧ (q_i (σ.1 a0 1)).toInt < (σ.2.1 (q_r (σ.1 a0 0)) : Int)) (g2 : p_23 (q_r (σ.1 (q_r (σ.1 a0 0)) (q_i (σ.1 a0 1)).toNatClampNeg)) a1 σ τ2) :
    p_62 (a0) (a1) σ (q_w (q_w τ2 a0 1 (.int (((q_i (τ2.1 a0 1)) + (Int32.ofInt (1))) - ((q_i (τ2.1 a0 1)) + (Int32.ofInt (1))) / (Int32.ofInt (12)) * (Int32.ofInt (12))))) a0 2 (.int (if (Int32.ofInt (12)) < ((q_i ((q_w τ2 a0 1 (.int (((q_i (τ2.1 a0 1)) + (Int32.ofInt (1))) - ((q_i (τ2.1 a0 1)) + (Int32.ofInt (1))) / (Int32.ofInt (12)) * (Int32.ofInt (12))))).1 a0 2)) + (Int32.ofInt (1))) then (Int32.ofInt (12)) else ((q_i ((q_w τ2 a0 1 (.int (((q_i (τ2.1 a0 1)) + (Int32.ofInt (1))) - ((q_i (τ2.1 a0 1)) + (Int32.ofInt (1))) / (Int32.ofInt (12)) * (Int32.ofInt (12))))).1 a0 2)) + (Int32.ofInt (1)))))) := by
  rintro rfl rfl nx n Ms A ⟨m1, m2, m3, m4, m5, m6, m7⟩ K
  have e1 : q_r (σ.1 47 0) = 48 := by rw [m1]; rfl
  have e2 : q_i (σ.1 47 1) = Int32.ofNat nx := by rw [m3]; rfl
  have e3 : (Int32.ofNat nx).toNatClampNeg = nx := o32n (by omega)
  have e4 : q_r (σ.1 48 nx) = 49 + 13 * nx := by rw [m2 nx m4]; rfl
  rw [e1, e2, e3, e4] at g2
  have hd : dsj (49 + 13 * nx) 8 := by unfold dsj; omega
  have I := g2 hd (m7 nx m4).ks K.ks K.ii
  obtain ⟨g1, g2⟩ := I.hH K (m7 nx m4)
  have f : ∀ c k, ¬ (49 + 13 * nx ≤ c ∧ c ≤ 61 + 13 * nx) → τ2.1 c k = σ.1 c k := fun c k q => I.fr (by omega)
  have e5 : q_i (τ2.1 47 1) = Int32.ofNat nx := by rw [f 47 1 (by omega)]; exact e2
  have e6 : q_i ((q_w τ2 47 1 (.int (Int32.ofNat ((nx + 1) % 12)))).1 47 2) = Int32.ofNat n := by rw [q_w_ne (fun _ q => by omega), f 47 2 (by omega), m5]; rfl
  simp only [e5, n12 m4, e6, min12 m6]
  refine ⟨⟨I.1, fun c k q1 q2 => ?_⟩, ⟨?_, fun i hi => ?_, ?_, Nat.mod_lt _ (by omega), q_w_at _ _ _ _, by omega, fun i hi => ?_⟩, ?_⟩
  · rw [q_w_ne (fun e9 e8 => q1 ⟨e9, by omega⟩), q_w_ne (fun e9 e8 => q1 ⟨e9, by omega⟩)]; exact f c k q2
  · rw [q_w_ne (fun _ q => by omega), q_w_ne (fun _ q => by omega), f 47 0 (by omega)]; exact m1
  · rw [q_w_ne (fun q _ => by omega), q_w_ne (fun q _ => by omega), f 48 i (by omega)]; exact m2 i hi
  · rw [q_w_ne (fun _ q => by omega), q_w_at]
  · show hH _ _ (if i = nx then A else Ms i)
    by_cases he : i = nx
    · rw [if_pos he, he]; exact (g1.el (by omega)).el (by omega)
    · rw [if_neg he]; exact (((m7 i hi).ho I (by unfold dsj; omega)).el (by omega)).el (by omega)
  · rw [q_w_ne (fun q _ => by omega), q_w_ne (fun q _ => by omega)]; exact g2
noncomputable def qP_62 : zPp := fun as σ o σ' => match as with
  | [a0, a1] => o = .inl none ∧ p_62 (q_r a0) (q_r a1) σ σ'
  | _ => True
set_option maxRecDepth 100000 in
theorem sp_62 {sx : zX} (S23 : zEe sx 23 2 qP_23) : zEe sx 62 2 qP_62 := by
  refine zfle zJ_62 (sps := [(23, 2, qP_23)]) (fun q hq => by
    simp only [List.mem_cons, List.not_mem_nil, or_false] at hq
    rcases hq with rfl
    · exact S23) (fun as σ hl => ?_)
  match as, hl with
  | [a0, a1], _ =>
  refine ⟨[], 400, ?_, ?_⟩
  · exact fun q hq => absurd hq List.not_mem_nil
  · refine fun h1 => ?_
    refine fun o2 τ2 g2 => ?_
    obtain ⟨rfl, g2⟩ := g2
    exact ⟨rfl, sp_62_e (q_r a0) (q_r a1) σ τ2 (q_inp h1) g2⟩
theorem zJ_63 : zJ3 63 z_m63 z_c63 z_h63 := ⟨rfl, rfl, rfl⟩
noncomputable def p_63 (a h : Nat) (σ : zSg) (r : Int32) (σ' : zSg) : Prop := a = 47 → h = 8 → ∀ nx n Ms A, mM σ nx n Ms → hH σ 8 A → (n = 0 → r = Int32.ofInt 0 ∧ σ' = σ) ∧ (n ≠ 0 → r = Int32.ofInt 1 ∧ (σ'.2 = σ.2 ∧ ∀ c k, ¬ (c = 47 ∧ (k = 1 ∨ k = 2)) → ¬ (8 ≤ c ∧ c ≤ 20) → σ'.1 c k = σ.1 c k) ∧ mM σ' ((nx + 11) % 12) (n - 1) Ms ∧ hH σ' 8 (Ms ((nx + 11) % 12)) ∧ σ'.1 8 5 = σ.1 (49 + 13 * ((nx + 11) % 12)) 5)
theorem sp_63_et (a0 : Nat) (a1 : Nat) (σ : zSg) (τ3 : zSg) (h1 : (q_i (σ.1 a0 2)).toInt ≠ (0 : Int)) (h2 : 0 ≤ (q_i ((q_w (q_w σ a0 1 (.int ((((q_i (σ.1 a0 1)) + (Int32.ofInt (12))) - (Int32.ofInt (1))) - (((q_i (σ.1 a0 1)) + (Int32.ofInt (12))) - (Int32.ofInt (1))) / (Int32.ofInt (12)) * (Int32.ofInt (12))))) a0 2 (.int ((q_i ((q_w σ a0 1 (.int ((((q_i (σ.1 a0 1)) + (Int32.ofInt (12))) - (Int32.ofInt (1))) - (((q_i (σ.1 a0 1)) + (Int32.ofInt (12))) - (Int32.ofInt (1))) / (Int32.ofInt (12)) * (Int32.ofInt (12))))).1 a0 2)) - (Int32.ofInt (1))))).1 a0 1)).toInt ∧ (q_i ((q_w (q_w σ a0 1 (.int ((((q_i (σ.1 a0 1)) + (Int32.ofInt (12))) - (Int32.ofInt (1))) - (((q_i (σ.1 a0 1)) + (Int32.ofInt (12))) - (Int32.ofInt (1))) / (Int32.ofInt (12)) * (Int32.ofInt (12))))) a0 2 (.int ((q_i ((q_w σ a0 1 (.int ((((q_i (σ.1 a0 1)) + (Int32.ofInt (12))) - (Int32.ofInt (1))) - (((q_i (σ.1 a0 1)) + (Int32.ofInt (12))) - (Int32.ofInt (1))) / (Int32.ofInt (12)) * (Int32.ofInt (12))))).1 a0 2)) - (Int32.ofInt (1))))).1 a0 1)).toInt < ((q_w (q_w σ a0 1 (.int ((((q_i (σ.1 a0 1)) + (Int32.ofInt (12))) - (Int32.ofInt (1))) - (((q_i (σ.1 a0 1)) + (Int32.ofInt (12))) - (Int32.ofInt (1))) / (Int32.ofInt (12)) * (Int32.ofInt (12))))) a0 2 (.int ((q_i ((q_w σ a0 1 (.int ((((q_i (σ.1 a0 1)) + (Int32.ofInt (12))) - (Int32.ofInt (1))) - (((q_i (σ.1 a0 1)) + (Int32.ofInt (12))) - (Int32.ofInt (1))) / (Int32.ofInt (12)) * (Int32.ofInt (12))))).1 a0 2)) - (Int32.ofInt (1))))).2.1 (q_r ((q_w (q_w σ a0 1 (.int ((((q_i (σ.1 a0 1)) + (Int32.ofInt (12))) - (Int32.ofInt (1))) - (((q_i (σ.1 a0 1)) + (Int32.ofInt (12))) - (Int32.ofInt (1))) / (Int32.ofInt (12)) * (Int32.ofInt (12))))) a0 2 (.int ((q_i ((q_w σ a0 1 (.int ((((q_i (σ.1 a0 1)) + (Int32.ofInt (12))) - (Int32.ofInt (1))) - (((q_i (σ.1 a0 1)) + (Int32.ofInt (12))) - (Int32.ofInt (1))) / (Int32.ofInt (12)) * (Int32.ofInt (12))))).1 a0 2)) - (Int32.ofInt (1))))).1 a0 0)) : Int)) (g3 : p_23 a1 (q_r ((q_w (q_w σ a0 1 (.int ((((q_i (σ.1 a0 1)) + (Int32.ofInt (12))) - (Int32.ofInt (1))) - (((q_i (σ.1 a0 1)) + (Int32.ofInt (12))) - (Int32.ofInt (1))) / (Int32.ofInt (12)) * (Int32.ofInt (12))))) a0 2 (.int ((q_i ((q_w σ a0 1 (.int ((((q_i (σ.1 a0 1)) + (Int32.ofInt (12))) - (Int32.ofInt (1))) - (((q_i (σ.1 a0 1)) + (Int32.ofInt (12))) - (Int32.ofInt (1))) / (Int32.ofInt (12)) * (Int32.ofInt (12))))).1 a0 2)) - (Int32.ofInt (1))))).1 (q_r ((q_w (q_w σ a0 1 (.int ((((q_i (σ.1 a0 1)) + (Int32.ofInt (12))) - (Int32.ofInt (1))) - (((q_i (σ.1 a0 1)) + (Int32.ofInt (12))) - (Int32.ofInt (1))) / (Int32.ofInt (12)) * (Int32.ofInt (12))))) a0 2 (.int ((q_i ((q_w σ a0 1 (.int ((((q_i (σ.1 a0 1)) + (Int32.ofInt (12))) - (Int32.ofInt (1))) - (((q_i (σ.1 a0 1)) + (Int32.ofInt (12))) - (Int32.ofInt (1))) / (Int32.ofInt (12)) * (Int32.ofInt (12))))).1 a0 2)) - (Int32.ofInt (1))))).1 a0 0)) (q_i ((q_w (q_w σ a0 1 (.int ((((q_i (σ.1 a0 1)) + (Int32.ofInt (12))) - (Int32.ofInt (1))) - (((q_i (σ.1 a0 1)) + (Int32.ofInt (12))) - (Int32.ofInt (1))) / (Int32.ofInt (12)) * (Int32.ofInt (12))))) a0 2 (.int ((q_i ((q_w σ a0 1 (.int ((((q_i (σ.1 a0 1)) + (Int32.ofInt (12))) - (Int32.ofInt (1))) - (((q_i (σ.1 a0 1)) + (Int32.ofInt (12))) - (Int32.ofInt (1))) / (Int32.ofInt (12)) * (Int32.ofInt (12))))).1 a0 2)) - (Int32.ofInt (1))))).1 a0 1)).toNatClampNeg)) (q_w (q_w σ a0 1 (.int ((((q_i (σ.1 a0 1)) + (Int32.ofInt (12))) - (Int32.ofInt (1))) - (((q_i (σ.1 a0 1)) + (Int32.ofInt (12))) - (Int32.ofInt (1))) / (Int32.ofInt (12)) * (Int32.ofInt (12))))) a0 2 (.int ((q_i ((q_w σ a0 1 (.int ((((q_i (σ.1 a0 1)) + (Int32.ofInt (12))) - (Int32.ofInt (1))) - (((q_i (σ.1 a0 1)) + (Int32.ofInt (12))) - (Int32.ofInt (1))) / (Int32.ofInt (12)) * (Int32.ofInt (12))))).1 a0 2)) - (Int32.ofInt (1))))) τ3) :
    p_63 (a0) (a1) σ (Int32.ofInt (1)) τ3 := by
  rintro rfl rfl nx n Ms A ⟨m1, m2, m3, m4, m5, m6, m7⟩ K
  rw [m5] at h1
  simp only [q_ii] at h1
  rw [o32 (by omega)] at h1
  refine ⟨fun h => by omega, fun _ => ?_⟩
  have hm : (nx + 11) % 12 < 12 := Nat.mod_lt _ (by omega)
  have e2 : q_i (σ.1 47 1) = Int32.ofNat nx := by rw [m3]; rfl
  have e6 : q_i ((q_w σ 47 1 (.int (Int32.ofNat ((nx + 11) % 12)))).1 47 2) - Int32.ofInt 1 = Int32.ofNat (n - 1) := by
    rw [q_w_ne (fun _ q => by omega), m5]
    refine Int32.toInt_inj.mp ?_
    show (Int32.ofNat n - Int32.ofInt 1).toInt = _
    rw [zI_sub (o32 (by omega)) (zI_c (by omega) (by omega)) (by omega) (by omega), o32 (by omega)]
    omega
  simp only [e2, b12 m4, e6] at g3
  have t1 : (q_w (q_w σ 47 1 (.int (Int32.ofNat ((nx + 11) % 12)))) 47 2 (.int (Int32.ofNat (n - 1)))).1 47 1 = .int (Int32.ofNat ((nx + 11) % 12)) := by rw [q_w_ne (fun _ q => by omega), q_w_at]
  have t0 : (q_w (q_w σ 47 1 (.int (Int32.ofNat ((nx + 11) % 12)))) 47 2 (.int (Int32.ofNat (n - 1)))).1 47 0 = .ref 48 := by rw [q_w_ne (fun _ q => by omega), q_w_ne (fun _ q => by omega)]; exact m1
  have t8 : ∀ i, i < 12 → (q_w (q_w σ 47 1 (.int (Int32.ofNat ((nx + 11) % 12)))) 47 2 (.int (Int32.ofNat (n - 1)))).1 48 i = .ref (49 + 13 * i) := fun i hi => by rw [q_w_ne (fun q _ => by omega), q_w_ne (fun q _ => by omega)]; exact m2 i hi
  have e3 : (Int32.ofNat ((nx + 11) % 12)).toNatClampNeg = (nx + 11) % 12 := o32n (by omega)
  rw [t0, t1] at g3
  simp only [q_ii, e3, show q_r (Value.ref 48) = 48 from rfl] at g3
  rw [t8 _ hm] at g3
  simp only [show ∀ i, q_r (Value.ref i) = i from fun _ => rfl] at g3
  have K8 := (K.el (c := 47) (k := 1) (v := .int (Int32.ofNat ((nx + 11) % 12))) (by omega)).el (c := 47) (k := 2) (v := .int (Int32.ofNat (n - 1))) (by omega)
  have KM : ∀ i, i < 12 → hH (q_w (q_w σ 47 1 (.int (Int32.ofNat ((nx + 11) % 12)))) 47 2 (.int (Int32.ofNat (n - 1)))) (49 + 13 * i) (Ms i) := fun i hi => ((m7 i hi).el (by omega)).el (by omega)
  have hd : dsj 8 (49 + 13 * ((nx + 11) % 12)) := by unfold dsj; omega
  have I := g3 hd K8.ks (KM _ hm).ks (KM _ hm).ii
  obtain ⟨g1, g2⟩ := I.hH (KM _ hm) K8
  have f : ∀ c k, ¬ (8 ≤ c ∧ c ≤ 20) → τ3.1 c k = (q_w (q_w σ 47 1 (.int (Int32.ofNat ((nx + 11) % 12)))) 47 2 (.int (Int32.ofNat (n - 1)))).1 c k := fun c k q => I.fr (by omega)
  refine ⟨rfl, ⟨I.1, fun c k q1 q2 => ?_⟩, ⟨?_, fun i hi => ?_, ?_, hm, ?_, by omega, fun i hi => (KM i hi).ho I (by unfold dsj; omega)⟩, g1, ?_⟩
  · rw [f c k q2, q_w_ne (fun e9 e8 => q1 ⟨e9, by omega⟩), q_w_ne (fun e9 e8 => q1 ⟨e9, by omega⟩)]
  · rw [f _ _ (by omega)]; exact t0
  · rw [f _ _ (by omega)]; exact t8 i hi
  · rw [f _ _ (by omega)]; exact t1
  · rw [f _ _ (by omega), q_w_at]
  · rw [g2, q_w_ne (fun q _ => by omega), q_w_ne (fun q _ => by omega)]
theorem sp_63_ef (a0 : Nat) (a1 : Nat) (σ : zSg) (h1 : (q_i (σ.1 a0 2)).toInt = (0 : Int)) :
    p_63 (a0) (a1) σ (Int32.ofInt (0)) σ := by
  rintro rfl rfl nx n Ms A ⟨m1, m2, m3, m4, m5, m6, m7⟩ K
  rw [m5] at h1
  simp only [q_ii] at h1
  rw [o32 (by omega)] at h1
  exact ⟨fun _ => ⟨rfl, rfl⟩, fun h => by omega⟩
noncomputable def qP_63 : zPp := fun as σ o σ' => match as with
  | [a0, a1] => ∃ r, o = .inl (some (.int r)) ∧ p_63 (q_r a0) (q_r a1) σ r σ'
  | _ => True
set_option maxRecDepth 100000 in
theorem sp_63 {sx : zX} (S23 : zEe sx 23 2 qP_23) : zEe sx 63 2 qP_63 := by
  refine zfle zJ_63 (sps := [(23, 2, qP_23)]) (fun q hq => by
    simp only [List.mem_cons, List.not_mem_nil, or_false] at hq
    rcases hq with rfl
    · exact S23) (fun as σ hl => ?_)
  match as, hl with
  | [a0, a1], _ =>
  refine ⟨[], 400, ?_, ?_⟩
  · exact fun q hq => absurd hq List.not_mem_nil
  · refine And.intro (fun h1 => ?_) (fun h1 => ?_)
    · refine fun h2 => ?_
      refine fun o3 τ3 g3 => ?_
      obtain ⟨rfl, g3⟩ := g3
      exact ⟨_, rfl, sp_63_et (q_r a0) (q_r a1) σ τ3 (cm1t h1) (q_inp h2) g3⟩
    · exact ⟨_, rfl, sp_63_ef (q_r a0) (q_r a1) σ (cm1f h1)⟩
end
section
/-! the class's texts of a law, exact; printed with wip/gen/gen_t8.py -/
theorem cG.nw {σ τ : zSg} {t r C A E s w : Nat} {b : Nat → Int} {l : zSs} {z : List Int} (H : cG σ t r C b A E l s) (G : p_92 t w σ τ) (hw : zwk w) (hz : q_si w = z) : cF σ τ t r C ∧ (∀ A1, tw b E z A = some A1 → cG τ t r C b A1 E l s) ∧ (tw b E z A = none → cX τ t r C b E A) := by
  have hb := H.2.1
  have hl : (q_s w).length = z.length := by rw [← hz, q_si_len]
  have hA := H.le
  have h9 := H.2.2.2.2.2.1
  have := (G A E H.1 hw).1 H.2.2.1
  rw [hb, hz, hl] at this
  by_cases hc : zWa b E z A
  · obtain rfl := this.1 hc
    have g4 : A + z.length ≤ E := by
      have h8 : zRn b E 97 122 A = A + z.length := hc.1
      rw [← h8]
      exact zRn_le hA.1
    have hg := zBl_ge (b := b) (E := E) (P := A + z.length)
    refine ⟨cF.tp (Or.inl rfl), fun A1 q => ?_, fun q => ?_⟩
    · rw [tw_pos hc] at q
      cases q
      exact H.at (zBl_le g4) (by omega)
    · rw [tw_pos hc] at q
      cases q
  · obtain rfl := this.2 hc
    refine ⟨cF.tp (Or.inr rfl), fun A1 q => ?_, fun _ => H.wr⟩
    rw [tw_neg hc] at q
    cases q
theorem cX.nw {σ τ : zSg} {t r C E F w : Nat} {b : Nat → Int} (H : cX σ t r C b E F) (G : p_92 t w σ τ) (hw : zwk w) : τ = σ := by
  have hn := H.no
  obtain ⟨⟨A, g1⟩, -⟩ := H
  exact (G A E g1 hw).2 hn
noncomputable def p_49 (r t : Nat) (σ : zSg) (k : Int32) (σ' : zSg) : Prop := ∀ C b E, (∀ A l s, cG σ t r C b A E l s → cF σ σ' t r C ∧ ((∃ A1 c, tws b E A [wWarm, wDust, wFine] 0 = some (A1, c) ∧ k = Int32.ofNat c ∧ cG σ' t r C b A1 E l s) ∨ (tws b E A [wWarm, wDust, wFine] 0 = none ∧ cX σ' t r C b E A))) ∧ (∀ F, cX σ t r C b E F → cF σ σ' t r C ∧ cX σ' t r C b E F)
theorem zJ_49 : zJ3 49 z_m49 z_c49 z_h49 := ⟨rfl, rfl, rfl⟩
theorem sp_49_ett (a0 : Nat) (a1 : Nat) (σ : zSg) (τ1 : zSg) (r1 : Int32) (τ3 : zSg) (r3 : Int32) (τ5 : zSg) (g1 : p_91 a1 (zB + 28) σ r1 τ1) (h2 : r1.toInt = (0 : Int)) (g3 : p_91 a1 (zB + 29) τ1 r3 τ3) (h4 : r3.toInt = (0 : Int)) (g5 : p_92 a1 (zB + 30) τ3 τ5) :
    p_49 (a0) (a1) σ (Int32.ofInt (2)) τ5 := by
  intro C b E
  refine ⟨fun A l s H => ?_, fun F H => ?_⟩
  · obtain ⟨-, -, v⟩ := H.tk g1 zwk_28 qsi_28 0 (by decide)
    obtain ⟨e0, rfl⟩ := v h2
    obtain ⟨-, -, v⟩ := H.tk g3 zwk_29 qsi_29 0 (by decide)
    obtain ⟨e1, rfl⟩ := v h4
    obtain ⟨f1, u, v⟩ := H.nw g5 zwk_30 qsi_30
    refine ⟨f1, ?_⟩
    cases h3 : tw b E wFine A with
    | some A1 => exact Or.inl ⟨A1, 2, by simp only [tws, e0, e1, h3], rfl, u A1 h3⟩
    | none => exact Or.inr ⟨by simp only [tws, e0, e1, h3], v h3⟩
  · obtain ⟨-, rfl⟩ := H.tk g1 zwk_28
    obtain ⟨-, rfl⟩ := H.tk g3 zwk_29
    obtain rfl := H.nw g5 zwk_30
    exact ⟨cF.rf, H⟩
theorem sp_49_etf (a0 : Nat) (a1 : Nat) (σ : zSg) (τ1 : zSg) (r1 : Int32) (τ3 : zSg) (r3 : Int32) (g1 : p_91 a1 (zB + 28) σ r1 τ1) (h2 : r1.toInt = (0 : Int)) (g3 : p_91 a1 (zB + 29) τ1 r3 τ3) (h4 : r3.toInt ≠ (0 : Int)) :
    p_49 (a0) (a1) σ (Int32.ofInt (1)) τ3 := by
  intro C b E
  refine ⟨fun A l s H => ?_, fun F H => ?_⟩
  · obtain ⟨-, -, v⟩ := H.tk g1 zwk_28 qsi_28 0 (by decide)
    obtain ⟨e0, rfl⟩ := v h2
    obtain ⟨f1, u, -⟩ := H.tk g3 zwk_29 qsi_29 0 (by decide)
    obtain ⟨e1, H1⟩ := u h4
    exact ⟨f1, Or.inl ⟨_, 1, by simp only [tws, e0, e1], rfl, H1⟩⟩
  · obtain ⟨-, rfl⟩ := H.tk g1 zwk_28
    exact absurd (H.tk g3 zwk_29).1 h4
theorem sp_49_ef (a0 : Nat) (a1 : Nat) (σ : zSg) (τ1 : zSg) (r1 : Int32) (g1 : p_91 a1 (zB + 28) σ r1 τ1) (h2 : r1.toInt ≠ (0 : Int)) :
    p_49 (a0) (a1) σ (Int32.ofInt (0)) τ1 := by
  intro C b E
  refine ⟨fun A l s H => ?_, fun F H => absurd (H.tk g1 zwk_28).1 h2⟩
  obtain ⟨f1, u, -⟩ := H.tk g1 zwk_28 qsi_28 0 (by decide)
  obtain ⟨e0, H1⟩ := u h2
  exact ⟨f1, Or.inl ⟨_, 0, by simp only [tws, e0], rfl, H1⟩⟩
noncomputable def qP_49 : zPp := fun as σ o σ' => match as with
  | [a0, a1] => ∃ r, o = .inl (some (.int r)) ∧ p_49 (q_r a0) (q_r a1) σ r σ'
  | _ => True
set_option maxRecDepth 100000 in
theorem sp_49 {sx : zX} (S91 : zEe sx 91 2 qP_91) (S92 : zEe sx 92 2 qP_92) : zEe sx 49 2 qP_49 := by
  refine zfle zJ_49 (sps := [(91, 2, qP_91), (92, 2, qP_92)]) (fun q hq => by
    simp only [List.mem_cons, List.not_mem_nil, or_false] at hq
    rcases hq with rfl | rfl
    · exact S91
    · exact S92) (fun as σ hl => ?_)
  match as, hl with
  | [a0, a1], _ =>
  refine ⟨[], 400, ?_, ?_⟩
  · exact fun q hq => absurd hq List.not_mem_nil
  · refine fun o1 τ1 g1 => ?_
    obtain ⟨r1, rfl, g1⟩ := g1
    refine And.intro (fun h2 => ?_) (fun h2 => ?_)
    · refine fun o3 τ3 g3 => ?_
      obtain ⟨r3, rfl, g3⟩ := g3
      refine And.intro (fun h4 => ?_) (fun h4 => ?_)
      · refine fun o5 τ5 g5 => ?_
        obtain ⟨rfl, g5⟩ := g5
        exact ⟨_, rfl, sp_49_ett (q_r a0) (q_r a1) σ τ1 r1 τ3 r3 τ5 g1 (cm0t h2) g3 (cm0t h4) g5⟩
      · exact ⟨_, rfl, sp_49_etf (q_r a0) (q_r a1) σ τ1 r1 τ3 r3 g1 (cm0t h2) g3 (cm0f h4)⟩
    · exact ⟨_, rfl, sp_49_ef (q_r a0) (q_r a1) σ τ1 r1 g1 (cm0f h2)⟩
noncomputable def cE (σ : zSg) (t r C K0 K1 K2 : Nat) : Prop := q_r (σ.1 r 0) = K0 ∧ q_r (σ.1 r 1) = K1 ∧ q_r (σ.1 r 2) = K2 ∧ (K0 ≠ t ∧ K0 ≠ r ∧ K0 ≠ C ∧ K0 ≠ q_r (σ.1 t 0)) ∧ (K1 ≠ t ∧ K1 ≠ r ∧ K1 ≠ C ∧ K1 ≠ q_r (σ.1 t 0)) ∧ (K2 ≠ t ∧ K2 ≠ r ∧ K2 ≠ C ∧ K2 ≠ q_r (σ.1 t 0)) ∧ K0 ≠ K1 ∧ K0 ≠ K2 ∧ K1 ≠ K2
noncomputable def cH (σ σ' : zSg) (t r C K0 K1 K2 : Nat) : Prop := σ'.2 = σ.2 ∧ ∀ c k, ¬ (c = t ∧ (k = 2 ∨ k = 3)) → ¬ (c = r ∧ (k = 4 ∨ k = 5)) → c ≠ C → c ≠ K0 → c ≠ K1 → c ≠ K2 → σ'.1 c k = σ.1 c k
noncomputable def cLn (σ : zSg) (K0 K1 K2 : Nat) (ls : List gLn4) : Prop := ∀ i x, ls[i]? = some x → σ.1 K0 i = .int (Int32.ofNat x.1) ∧ σ.1 K1 i = .int (Int32.ofNat x.2.1) ∧ σ.1 K2 i = .int (Int32.ofNat x.2.2.2)
section CTX
variable {σ τ υ : zSg} {t r C K0 K1 K2 A E F s : Nat} {b : Nat → Int} {l : zSs}
theorem cH.tr (h1 : cH σ τ t r C K0 K1 K2) (h2 : cH τ υ t r C K0 K1 K2) : cH σ υ t r C K0 K1 K2 := ⟨h2.1.trans h1.1, fun c k q1 q2 q3 q4 q5 q6 => (h2.2 c k q1 q2 q3 q4 q5 q6).trans (h1.2 c k q1 q2 q3 q4 q5 q6)⟩
theorem cH.rf : cH σ σ t r C K0 K1 K2 := ⟨rfl, fun _ _ _ _ _ _ _ _ => rfl⟩
theorem cH.of (h : cF σ τ t r C) : cH σ τ t r C K0 K1 K2 := ⟨h.1, fun c k q1 q2 q3 _ _ _ => h.2 c k q1 (fun q => q2 ⟨q.1, by omega⟩) q3⟩
theorem cH.w {c k : Nat} {v : Value} (h : c = K0 ∨ c = K1 ∨ c = K2 ∨ (c = r ∧ (k = 4 ∨ k = 5))) : cH σ (q_w σ c k v) t r C K0 K1 K2 := ⟨rfl, fun c' k' q1 q2 q3 q4 q5 q6 => q_w_ne (fun e1 e2 => by
  rcases h with h | h | h | h
  · exact q4 (e1.trans h)
  · exact q5 (e1.trans h)
  · exact q6 (e1.trans h)
  · exact q2 ⟨e1.trans h.1, by omega⟩)⟩
theorem cE.of (hr : r ≠ t) (hC : C ≠ r) (hCt : C ≠ t) (h : cH σ τ t r C K0 K1 K2) (H : cE σ t r C K0 K1 K2) : cE τ t r C K0 K1 K2 := by
  obtain ⟨h1, h2, h3, ⟨a1, a2, a3, a4⟩, ⟨b1, b2, b3, b4⟩, ⟨c1, c2, c3, c4⟩, d⟩ := H
  have g : ∀ k, k ≠ 4 → k ≠ 5 → τ.1 r k = σ.1 r k := fun k q1 q2 => h.2 r k (fun q => hr q.1) (fun q => by omega) (fun q => hC q.symm) (fun q => a2 q.symm) (fun q => b2 q.symm) (fun q => c2 q.symm)
  have g0 : τ.1 t 0 = σ.1 t 0 := h.2 t 0 (fun q => by omega) (fun q => hr q.1.symm) (fun q => hCt q.symm) (fun q => a1 q.symm) (fun q => b1 q.symm) (fun q => c1 q.symm)
  unfold cE
  rw [g 0 (by omega) (by omega), g 1 (by omega) (by omega), g 2 (by omega) (by omega), g0]
  exact ⟨h1, h2, h3, ⟨a1, a2, a3, a4⟩, ⟨b1, b2, b3, b4⟩, ⟨c1, c2, c3, c4⟩, d⟩
/-- a write elsewhere -/
theorem cS.el {c k : Nat} {v : Value} (H : cS σ t A E) (h1 : c ≠ t) (h2 : c ≠ q_r (σ.1 t 0)) : cS (q_w σ c k v) t A E ∧ cb (q_w σ c k v) t = cb σ t := by
  have gt : ∀ i, (q_w σ c k v).1 t i = σ.1 t i := fun i => q_w_ne (fun q _ => h1 q.symm)
  have gb : cu (q_w σ c k v) t = cu σ t := by
    funext i
    unfold cu
    rw [gt 0, q_w_ne (fun q _ => h2 q.symm)]
  obtain ⟨a1, a2, a3, a4, a5, a6⟩ := H
  refine ⟨⟨?_, ?_, ?_, a4, a5, ?_⟩, ?_⟩
  · rw [gt]; exact a1
  · rw [gt]; exact a2
  · rw [gt]; exact a3
  · rw [gb]; exact a6
  · funext i
    unfold cb
    rw [gb]
theorem cD.el {c k : Nat} {v : Value} (H : cD σ t r C) (h1 : c ≠ t) (h3 : c = r → k ≠ 3) : cD (q_w σ c k v) t r C := by
  obtain ⟨d1, d2, d3, d4, d5, d6, d7⟩ := H
  have g0 : (q_w σ c k v).1 t 0 = σ.1 t 0 := q_w_ne (fun q _ => h1 q.symm)
  refine ⟨d1, ?_, d3, d4, ?_, ?_, d7⟩
  · rw [q_w_ne (fun q1 q2 => h3 q1.symm q2.symm)]; exact d2
  · rw [g0]; exact d5
  · rw [g0]; exact d6
theorem cG.el {c k : Nat} {v : Value} (H : cG σ t r C b A E l s) (h1 : c ≠ t) (h2 : c ≠ q_r (σ.1 t 0)) (h3 : c = r → k = 4) (h4 : c ≠ C) : cG (q_w σ c k v) t r C b A E l s := by
  obtain ⟨a1, a2, a3, a4, a5, a6, a7⟩ := H
  obtain ⟨s1, s2⟩ := a1.el (k := k) (v := v) h1 h2
  refine ⟨s1, s2.trans a2, ?_, a4.el h1 (fun q => by have := h3 q; omega), ?_, a6, fun i x hx => ?_⟩
  · rw [q_w_ne (fun q _ => h1 q.symm)]; exact a3
  · rw [q_w_ne (fun q1 q2 => by have := h3 q1.symm; omega)]; exact a5
  · rw [q_w_ne (fun q _ => h4 q.symm)]; exact a7 i x hx
theorem cX.el {c k : Nat} {v : Value} (H : cX σ t r C b E F) (h1 : c ≠ t) (h2 : c ≠ q_r (σ.1 t 0)) (h3 : c = r → k ≠ 3) : cX (q_w σ c k v) t r C b E F := by
  obtain ⟨⟨A, a1⟩, a2, a3, a4, a5⟩ := H
  obtain ⟨s1, s2⟩ := a1.el (k := k) (v := v) h1 h2
  refine ⟨⟨A, s1⟩, s2.trans a2, ?_, a4, a5.el h1 h3⟩
  rw [q_w_ne (fun q _ => h1 q.symm)]; exact a3
theorem cF.el {c k : Nat} (h : cF σ τ t r C) (h1 : c ≠ t) (h2 : c ≠ r) (h3 : c ≠ C) : τ.1 c k = σ.1 c k := h.2 c k (fun q => h1 q.1) (fun q => h2 q.1) h3
theorem cLn.of {ls : List gLn4} (h : cF σ τ t r C) (he : cE υ t r C K0 K1 K2) (H : cLn σ K0 K1 K2 ls) : cLn τ K0 K1 K2 ls := by
  obtain ⟨-, -, -, ⟨a1, a2, a3, -⟩, ⟨b1, b2, b3, -⟩, ⟨c1, c2, c3, -⟩, -⟩ := he
  intro i x hx
  rw [h.el a1 a2 a3, h.el b1 b2 b3, h.el c1 c2 c3]
  exact H i x hx
theorem cG.ra (H : cG σ t r C b A E l s) : r ≠ t ∧ C ≠ r ∧ C ≠ t := ⟨H.2.2.2.1.1, H.2.2.2.1.2.2.2.1, H.2.2.2.1.2.2.1⟩
theorem cX.ra (H : cX σ t r C b E F) : r ≠ t ∧ C ≠ r ∧ C ≠ t := ⟨H.2.2.2.2.1, H.2.2.2.2.2.2.2.1, H.2.2.2.2.2.2.1⟩
end CTX
abbrev cT (σ' : zSg) (r C K0 K1 K2 : Nat) (w : Int32) (R : (List gLn4 × zSs) ⊕ Nat) : Prop := match R with
  | .inl (ls, l) => w.toInt = -1 ∧ ls.length ≤ 12 ∧ l.length ≤ 400 ∧ σ'.1 r 4 = .int (Int32.ofNat ls.length) ∧ σ'.1 r 5 = .int (Int32.ofNat l.length) ∧ cLn σ' K0 K1 K2 ls ∧ ∀ i x, l[i]? = some x → σ'.1 C i = .int (enc x)
  | .inr F => w = Int32.ofNat F ∧ F ≤ 400
/-- what holds before a text is read -/
noncomputable def cA (σ : zSg) (t r C K0 K1 K2 : Nat) (b : Nat → Int) (E : Nat) : Prop := cS0 σ t E ∧ cb σ t = b ∧ cD σ t r C ∧ cE σ t r C K0 K1 K2
noncomputable def p_47 (r t : Nat) (σ : zSg) (w : Int32) (σ' : zSg) : Prop := ∀ C K0 K1 K2 b E, cA σ t r C K0 K1 K2 b E → cH σ σ' t r C K0 K1 K2 ∧ ∃ R, GLaw b E R ∧ cT σ' r C K0 K1 K2 w R
noncomputable def i_47 (r t : Nat) (σ : zSg) (l0 l1 : Nat) (nd ln : Int32) (τ : zSg) : Prop := l0 = r ∧ l1 = t ∧ ∀ C K0 K1 K2 b E, cA σ t r C K0 K1 K2 b E → cH σ τ t r C K0 K1 K2 ∧ cE τ t r C K0 K1 K2 ∧ ((∃ A ls l, ln = Int32.ofNat ls.length ∧ ls.length ≤ 12 ∧ cG τ t r C b A E l 0 ∧ cLn τ K0 K1 K2 ls ∧ τ.1 r 4 = .int (Int32.ofNat ls.length) ∧ ((nd.toInt ≠ 0 ∧ ∀ R, GT b E A ls l R → GLaw b E R) ∨ (nd.toInt = 0 ∧ GLaw b E (.inl (ls, l))))) ∨ (∃ F, GLaw b E (.inr F) ∧ cX τ t r C b E F))
noncomputable def j_47 (r t : Nat) (σ : zSg) (l0 l1 : Nat) (ln : Int32) (τ : zSg) : Prop := l0 = r ∧ l1 = t ∧ ∀ C K0 K1 K2 b E, cA σ t r C K0 K1 K2 b E → cH σ τ t r C K0 K1 K2 ∧ cE τ t r C K0 K1 K2 ∧ ((∃ A A1 ls l c v m, ln = Int32.ofNat ls.length ∧ ls.length < 12 ∧ GI b E A (.inl (A1, c, v, m)) ∧ cG τ t r C b A1 E (l ++ m) 0 ∧ cLn τ K0 K1 K2 ls ∧ τ.1 K0 ls.length = .int (Int32.ofNat c) ∧ τ.1 K1 ls.length = .int (Int32.ofNat v) ∧ ∀ R, GT b E A ls l R → GLaw b E R) ∨ (∃ F, GLaw b E (.inr F) ∧ cX τ t r C b E F))
theorem zJ_47 : zJ3 47 z_m47 z_c47 z_h47 := ⟨rfl, rfl, rfl⟩
theorem cX.num {T2 T3 : zSg} {t r C K0 K1 K2 E F n : Nat} {b : Nat → Int} {v1 : Value} {x3 : Int32} (H : cX T2 t r C b E F) (he : cE T2 t r C K0 K1 K2) (C3 : p_91 t (zB + 27) (q_w T2 K1 n v1) x3 T3) : x3.toInt = 0 ∧ cH T2 T3 t r C K0 K1 K2 ∧ cE T3 t r C K0 K1 K2 ∧ cX T3 t r C b E F := by
  have hra := H.ra
  obtain ⟨-, -, -, -, ⟨b1, b2, b3, b4⟩, -⟩ := id he
  have H1 := H.el (c := K1) (k := n) (v := v1) b1 b4 (fun q => absurd q b2)
  obtain ⟨h9, rfl⟩ := H1.tk C3 zwk_27
  have x1 : cH T2 (q_w T2 K1 n v1) t r C K0 K1 K2 := cH.w (Or.inr (Or.inl rfl))
  exact ⟨h9, x1, he.of hra.1 hra.2.1 hra.2.2 x1, H1⟩
theorem cX.line {T1 T2 T3 : zSg} {t r C K0 K1 K2 E F n : Nat} {b : Nat → Int} {v0 v1 : Value} {x2 x3 : Int32} (H : cX T1 t r C b E F) (he : cE T1 t r C K0 K1 K2) (C2 : p_96 t (Int32.ofInt 0) (Int32.ofInt 20) (q_w T1 K0 n v0) x2 T2) (C3 : p_91 t (zB + 27) (q_w T2 K1 n v1) x3 T3) : x3.toInt = 0 ∧ cH T1 T3 t r C K0 K1 K2 ∧ cE T3 t r C K0 K1 K2 ∧ cX T3 t r C b E F := by
  have hra := H.ra
  obtain ⟨-, -, -, ⟨a1, a2, a3, a4⟩, -⟩ := id he
  have H1 := H.el (c := K0) (k := n) (v := v0) a1 a4 (fun q => absurd q a2)
  have x1 : cH T1 (q_w T1 K0 n v0) t r C K0 K1 K2 := cH.w (Or.inl rfl)
  have he1 := he.of hra.1 hra.2.1 hra.2.2 x1
  obtain ⟨f2, H2⟩ := H1.nb C2 (by decide)
  have he2 := he1.of hra.1 hra.2.1 hra.2.2 (cH.of f2)
  obtain ⟨h9, x3, he3, H3⟩ := H2.num he2 C3
  exact ⟨h9, (x1.tr (cH.of f2)).tr x3, he3, H3⟩
theorem sp_47_e (a0 : Nat) (a1 : Nat) (σ : zSg) (τ1 : zSg) (τ2 : zSg) (r2 : Int32) (g1 : p_87 a1 σ τ1) (g2 : p_89 a1 (q_w (q_w τ1 a0 4 (.int (Int32.ofInt (0)))) a0 5 (.int (Int32.ofInt (0)))) r2 τ2) :
    i_47 a0 a1 σ a0 a1 r2 (Int32.ofInt (0)) τ2 := by
  refine ⟨rfl, rfl, fun C K0 K1 K2 b E H => ?_⟩
  obtain ⟨S, hb, hd, he⟩ := H
  have e1 := g1 E S
  rw [hb] at e1
  have hB : zBl b E 0 ≤ E := zBl_le (Nat.zero_le _)
  obtain ⟨S2', b2'⟩ := S.mk (w := .int (Int32.ofInt (-1))) hB
  rw [← e1] at S2' b2'
  have S2 : cS τ1 a1 (zBl b E 0) E := S2'
  have hb2 : cb τ1 a1 = b := b2'.trans hb
  have hd2 : cD τ1 a1 a0 C := by rw [e1]; exact (hd.tp (Or.inr rfl)).tp (Or.inl rfl)
  have x0 : cF σ τ1 a1 a0 C := by rw [e1]; exact (cF.tp (Or.inr rfl)).tr (cF.tp (Or.inl rfl))
  have w3 : τ1.1 a1 3 = .int (Int32.ofInt (-1)) := by rw [e1, q_w_ne (fun _ q => by omega), q_w_at]
  have he0 := he.of hd.1 hd.2.2.2.1 hd.2.2.1 (cH.of x0)
  have n1 : a0 ≠ q_r (τ1.1 a1 0) := fun q => hd2.2.2.2.2.2.1 q.symm
  obtain ⟨S3, b3⟩ := S2.el (c := a0) (k := 4) (v := .int (Int32.ofInt 0)) hd.1 n1
  have d3 := hd2.el (c := a0) (k := 4) (v := .int (Int32.ofInt 0)) hd.1 (fun _ => by omega)
  have n2 : a0 ≠ q_r ((q_w τ1 a0 4 (.int (Int32.ofInt 0))).1 a1 0) := fun q => d3.2.2.2.2.2.1 q.symm
  obtain ⟨S4, b4⟩ := S3.el (c := a0) (k := 5) (v := .int (Int32.ofInt 0)) hd.1 n2
  have d4 := d3.el (c := a0) (k := 5) (v := .int (Int32.ofInt 0)) hd.1 (fun _ => by omega)
  have x1 : cH τ1 (q_w τ1 a0 4 (.int (Int32.ofInt 0))) a1 a0 C K0 K1 K2 := cH.w (Or.inr (Or.inr (Or.inr ⟨rfl, Or.inl rfl⟩)))
  have x2 : cH (q_w τ1 a0 4 (.int (Int32.ofInt 0))) (q_w (q_w τ1 a0 4 (.int (Int32.ofInt 0))) a0 5 (.int (Int32.ofInt 0))) a1 a0 C K0 K1 K2 := cH.w (Or.inr (Or.inr (Or.inr ⟨rfl, Or.inr rfl⟩)))
  have he2 := (he0.of hd.1 hd.2.2.2.1 hd.2.2.1 x1).of hd.1 hd.2.2.2.1 hd.2.2.1 x2
  obtain rfl := g2.1.symm
  have hg := g2.2 _ E S4
  have w3b : (q_w (q_w τ1 a0 4 (.int (Int32.ofInt 0))) a0 5 (.int (Int32.ofInt 0))).1 a1 3 = .int (Int32.ofInt (-1)) := by
    rw [q_w_ne (fun q _ => hd.1 q.symm), q_w_ne (fun q _ => hd.1 q.symm)]; exact w3
  have HG : cG (q_w (q_w τ1 a0 4 (.int (Int32.ofInt 0))) a0 5 (.int (Int32.ofInt 0))) a1 a0 C b (zBl b E 0) E [] 0 := ⟨S4, (b4.trans b3).trans hb2, by rw [w3b]; rfl, d4, q_w_at _ _ _ _, Nat.zero_le _, fun i x hx => by simp at hx⟩
  have w4 : (q_w (q_w τ1 a0 4 (.int (Int32.ofInt 0))) a0 5 (.int (Int32.ofInt 0))).1 a0 4 = .int (Int32.ofNat 0) := by
    rw [q_w_ne (fun _ q => by omega), q_w_at]; rfl
  refine ⟨((cH.of x0).tr x1).tr x2, he2, Or.inl ⟨_, [], [], rfl, by show 0 ≤ 12; omega, HG, fun i x hx => by simp at hx, w4, ?_⟩⟩
  by_cases hn : zBl b E 0 = E
  · refine Or.inr ⟨?_, Or.inl ⟨hn, rfl⟩⟩
    by_cases q : (r2).toInt = 0
    · exact q
    · have := (hg.mp q).2
      omega
  · exact Or.inl ⟨hg.mpr ⟨HG.2.2.1, by omega⟩, fun R h9 => Or.inr ⟨hn, h9⟩⟩
theorem sp_47_c13_tt (a0 : Nat) (a1 : Nat) (σ : zSg) (l0 : Nat) (l1 : Nat) (l2 : Int32) (l3 : Int32) (τ : zSg) (τ5 : zSg) (r5 : Int32) (hI : i_47 a0 a1 σ l0 l1 l2 l3 τ) (h3 : l2.toInt = (0 : Int)) (h4 : l2.toInt = (0 : Int)) (g5 : p_88 l1 τ r5 τ5) :
    p_47 (a0) (a1) σ r5 τ5 := by
  obtain ⟨rfl, rfl, G⟩ := hI
  intro C K0 K1 K2 b E H
  obtain ⟨f0, he, hx⟩ := G C K0 K1 K2 b E H
  obtain ⟨e5, e6⟩ := g5
  rw [e5]
  refine ⟨f0, ?_⟩
  rcases hx with ⟨A, ls, l, rfl, hls, H1, hl, w4, hg⟩ | ⟨F, hF, H1⟩
  · rcases hg with ⟨h9, -⟩ | ⟨-, h9⟩
    · exact absurd h4 h9
    · have hle := H1.le
      have hm := H1.2.2.2.2.2.1
      exact ⟨_, h9, by rw [e6]; exact H1.2.2.1, hls, by omega, w4, H1.2.2.2.2.1, hl, H1.2.2.2.2.2.2⟩
  · exact ⟨_, hF, by rw [e6, H1.2.2.1]; rfl, H1.2.2.2.1⟩
theorem sp_47_c13_tf (a0 : Nat) (a1 : Nat) (σ : zSg) (l0 : Nat) (l1 : Nat) (l2 : Int32) (l3 : Int32) (τ : zSg) (τ6 : zSg) (τ7 : zSg) (r7 : Int32) (hI : i_47 a0 a1 σ l0 l1 l2 l3 τ) (h3 : l2.toInt = (0 : Int)) (h4 : l2.toInt ≠ (0 : Int)) (g6 : p_90 l1 τ τ6) (g7 : p_88 l1 τ6 r7 τ7) :
    p_47 (a0) (a1) σ r7 τ7 := by
  exact absurd h3 h4
theorem sp_47_c13_ftt (a0 : Nat) (a1 : Nat) (σ : zSg) (l0 : Nat) (l1 : Nat) (l2 : Int32) (l3 : Int32) (τ : zSg) (τ10 : zSg) (r10 : Int32) (hI : i_47 a0 a1 σ l0 l1 l2 l3 τ) (h3 : l2.toInt ≠ (0 : Int)) (h8 : l3.toInt ≥ (12 : Int)) (h9 : l2.toInt = (0 : Int)) (g10 : p_88 l1 τ r10 τ10) :
    p_47 (a0) (a1) σ r10 τ10 := by
  exact absurd h9 h3
theorem sp_47_c13_ftf (a0 : Nat) (a1 : Nat) (σ : zSg) (l0 : Nat) (l1 : Nat) (l2 : Int32) (l3 : Int32) (τ : zSg) (τ11 : zSg) (τ12 : zSg) (r12 : Int32) (hI : i_47 a0 a1 σ l0 l1 l2 l3 τ) (h3 : l2.toInt ≠ (0 : Int)) (h8 : l3.toInt ≥ (12 : Int)) (h9 : l2.toInt ≠ (0 : Int)) (g11 : p_90 l1 τ τ11) (g12 : p_88 l1 τ11 r12 τ12) :
    p_47 (a0) (a1) σ r12 τ12 := by
  obtain ⟨rfl, rfl, G⟩ := hI
  intro C K0 K1 K2 b E H
  obtain ⟨f0, he, hx⟩ := G C K0 K1 K2 b E H
  obtain ⟨e5, e6⟩ := g12
  rw [e5]
  rcases hx with ⟨A, ls, l, rfl, hls, H1, hl, w4, hg⟩ | ⟨F, hF, H1⟩
  · rcases hg with ⟨-, hx9⟩ | ⟨hx9, -⟩
    · rw [o32 (by omega)] at h8
      obtain ⟨f1, H2x⟩ := H1.rf g11
      exact ⟨f0.tr (cH.of f1), _, hx9 _ (GT.full (by omega)), by rw [e6, H2x.2.2.1]; rfl, H2x.2.2.2.1⟩
    · exact absurd hx9 h9
  · obtain rfl := H1.rf g11
    exact ⟨f0, _, hF, by rw [e6, H1.2.2.1]; rfl, H1.2.2.2.1⟩
theorem sp_47_c13_fft (a0 : Nat) (a1 : Nat) (σ : zSg) (l0 : Nat) (l1 : Nat) (l2 : Int32) (l3 : Int32) (τ : zSg) (τ13 : zSg) (r13 : Int32) (τ15 : zSg) (r15 : Int32) (τ17 : zSg) (r17 : Int32) (hI : i_47 a0 a1 σ l0 l1 l2 l3 τ) (h3 : l2.toInt ≠ (0 : Int)) (h8 : l3.toInt < (12 : Int)) (g13 : p_49 l0 l1 τ r13 τ13) (h14 : 0 ≤ l3.toInt ∧ l3.toInt < (τ13.2.1 (q_r (τ.1 l0 0)) : Int)) (g15 : p_96 l1 (Int32.ofInt (0)) (Int32.ofInt (20)) (q_w τ13 (q_r (τ.1 l0 0)) l3.toNatClampNeg (.int r13)) r15 τ15) (h16 : 0 ≤ l3.toInt ∧ l3.toInt < (τ15.2.1 (q_r ((q_w τ13 (q_r (τ.1 l0 0)) l3.toNatClampNeg (.int r13)).1 l0 1)) : Int)) (g17 : p_91 l1 (zB + 27) (q_w τ15 (q_r ((q_w τ13 (q_r (τ.1 l0 0)) l3.toNatClampNeg (.int r13)).1 l0 1)) l3.toNatClampNeg (.int r15)) r17 τ17) (h18 : r17.toInt = (0 : Int)) :
    j_47 a0 a1 σ l0 l1 l3 τ17 := by
  obtain ⟨rfl, rfl, G⟩ := hI
  refine ⟨rfl, rfl, fun C K0 K1 K2 b E H => ?_⟩
  obtain ⟨f0, he, hx⟩ := G C K0 K1 K2 b E H
  have e0 := he.1
  rw [e0] at g15
  rcases hx with ⟨A, ls, l, rfl, hls, H1, hl, w4, hg⟩ | ⟨F, hF, H1⟩
  · have hgo : ∀ R, GT b E A ls l R → GLaw b E R := by
      rcases hg with ⟨-, h9⟩ | ⟨h9, -⟩
      · exact h9
      · exact absurd h9 h3
    rw [o32 (by omega)] at h8
    have n1 : (Int32.ofNat ls.length).toNatClampNeg = ls.length := o32n (by omega)
    rw [n1] at g15
    have hra := H1.ra
    obtain ⟨f1, hk⟩ := (g13 C b E).1 _ _ _ H1
    have he1 := he.of hra.1 hra.2.1 hra.2.2 (cH.of f1)
    obtain ⟨-, -, -, ⟨a1', a2', a3', a4'⟩, ⟨b1', b2', b3', b4'⟩, ⟨d1', d2', d3', d4'⟩, k01, k02, k12⟩ := id he1
    have hl1 := hl.of f1 he
    have x1 : cH τ13 (q_w τ13 K0 ls.length (.int r13)) l1 l0 C K0 K1 K2 := cH.w (Or.inl rfl)
    have he2 := he1.of hra.1 hra.2.1 hra.2.2 x1
    have e1 := he2.2.1
    rw [e0, n1, e1] at g17
    rcases hk with ⟨A1, c, ht, ek, H2x⟩ | ⟨ht, H2x⟩
    · have H3x := H2x.el (c := K0) (k := ls.length) (v := .int r13) a1' a4' (fun q => absurd q a2') a3'
      obtain ⟨f2, u, v⟩ := H3x.nb g15 (by decide)
      have c0 : (Int32.ofInt 0).toInt = 0 := rfl
      have c20 : (Int32.ofInt 20).toInt = 20 := rfl
      rw [c0, c20] at u v
      have he3 := he2.of hra.1 hra.2.1 hra.2.2 (cH.of f2)
      cases hn : tn b E 0 20 A1 with
      | none =>
        obtain ⟨h9, x3, he4, H4x⟩ := (v hn).num he3 g17
        exact ⟨((f0.tr (cH.of f1)).tr (x1.tr (cH.of f2))).tr x3, he4, Or.inr ⟨A1, hgo _ (GT.bad (by omega) (GI.n0 ht hn)), H4x⟩⟩
      | some q =>
        obtain ⟨A2, w⟩ := q
        obtain ⟨ea, H4x⟩ := u A2 w hn
        obtain ⟨-, -, -, ⟨p1, p2, p3, p4⟩, ⟨q1, q2, q3, q4⟩, ⟨r1, r2, r3, r4⟩, -⟩ := id he3
        have H5x := (H4x.wk (s1 := 0) (by omega)).el (c := K1) (k := ls.length) (v := .int r15) q1 q4 (fun q => absurd q q2) q3
        have x3 : cH τ15 (q_w τ15 K1 ls.length (.int r15)) l1 l0 C K0 K1 K2 := cH.w (Or.inr (Or.inl rfl))
        have he4 := he3.of hra.1 hra.2.1 hra.2.2 x3
        have hl2 : cLn (q_w τ15 K1 ls.length (.int r15)) K0 K1 K2 ls := by
          intro i x hx
          have hi : i < ls.length := (List.getElem?_eq_some_iff.mp hx).1
          obtain ⟨y1, y2, y3⟩ := hl1 i x hx
          refine ⟨?_, ?_, ?_⟩
          · rw [q_w_ne (fun q _ => k01 q), f2.el p1 p2 p3, q_w_ne (fun _ q => by omega)]; exact y1
          · rw [q_w_ne (fun _ q => by omega), f2.el q1 q2 q3, q_w_ne (fun q _ => k01 q.symm)]; exact y2
          · rw [q_w_ne (fun q _ => k12 q.symm), f2.el r1 r2 r3, q_w_ne (fun q _ => k02 q.symm)]; exact y3
        have hk0 : (q_w τ15 K1 ls.length (.int r15)).1 K0 ls.length = .int (Int32.ofNat c) := by
          rw [q_w_ne (fun q _ => k01 q), f2.el p1 p2 p3, q_w_at, ek]
        have hk1 : (q_w τ15 K1 ls.length (.int r15)).1 K1 ls.length = .int (Int32.ofNat w) := by
          rw [q_w_at, ea]
        have fh := ((f0.tr (cH.of f1)).tr x1).tr ((cH.of f2).tr x3)
        obtain ⟨f5, u5, v5⟩ := H5x.tk g17 zwk_27 qsi_27 0 (by decide)
        obtain ⟨e5, rfl⟩ := v5 h18
        refine ⟨fh, he4, Or.inl ⟨A, A2, ls, l, c, w, [], rfl, by omega, GI.plain ht hn e5, ?_, hl2, hk0, hk1, hgo⟩⟩
        rw [List.append_nil]
        exact H5x
    · obtain ⟨h9, x3, he4, H4x⟩ := H2x.line he1 g15 g17
      exact ⟨(f0.tr (cH.of f1)).tr x3, he4, Or.inr ⟨A, hgo _ (GT.bad (by omega) (GI.k0 ht)), H4x⟩⟩
  · have hra := H1.ra
    obtain ⟨f1, H2x⟩ := (g13 C b E).2 _ H1
    have he1 := he.of hra.1 hra.2.1 hra.2.2 (cH.of f1)
    have x1 : cH τ13 (q_w τ13 K0 l3.toNatClampNeg (.int r13)) l1 l0 C K0 K1 K2 := cH.w (Or.inl rfl)
    have e1 := (he1.of hra.1 hra.2.1 hra.2.2 x1).2.1
    rw [e0, e1] at g17
    obtain ⟨h9, x3, he4, H4x⟩ := H2x.line he1 g15 g17
    exact ⟨(f0.tr (cH.of f1)).tr x3, he4, Or.inr ⟨F, hF, H4x⟩⟩
theorem sp_47_c13_fff (a0 : Nat) (a1 : Nat) (σ : zSg) (l0 : Nat) (l1 : Nat) (l2 : Int32) (l3 : Int32) (τ : zSg) (τ13 : zSg) (r13 : Int32) (τ15 : zSg) (r15 : Int32) (τ17 : zSg) (r17 : Int32) (τ19 : zSg) (hI : i_47 a0 a1 σ l0 l1 l2 l3 τ) (h3 : l2.toInt ≠ (0 : Int)) (h8 : l3.toInt < (12 : Int)) (g13 : p_49 l0 l1 τ r13 τ13) (h14 : 0 ≤ l3.toInt ∧ l3.toInt < (τ13.2.1 (q_r (τ.1 l0 0)) : Int)) (g15 : p_96 l1 (Int32.ofInt (0)) (Int32.ofInt (20)) (q_w τ13 (q_r (τ.1 l0 0)) l3.toNatClampNeg (.int r13)) r15 τ15) (h16 : 0 ≤ l3.toInt ∧ l3.toInt < (τ15.2.1 (q_r ((q_w τ13 (q_r (τ.1 l0 0)) l3.toNatClampNeg (.int r13)).1 l0 1)) : Int)) (g17 : p_91 l1 (zB + 27) (q_w τ15 (q_r ((q_w τ13 (q_r (τ.1 l0 0)) l3.toNatClampNeg (.int r13)).1 l0 1)) l3.toNatClampNeg (.int r15)) r17 τ17) (h18 : r17.toInt ≠ (0 : Int)) (g19 : p_50 l0 l1 (Int32.ofInt (0)) τ17 τ19) :
    j_47 a0 a1 σ l0 l1 l3 τ19 := by
  obtain ⟨rfl, rfl, G⟩ := hI
  refine ⟨rfl, rfl, fun C K0 K1 K2 b E H => ?_⟩
  obtain ⟨f0, he, hx⟩ := G C K0 K1 K2 b E H
  have e0 := he.1
  rw [e0] at g15
  rcases hx with ⟨A, ls, l, rfl, hls, H1, hl, w4, hg⟩ | ⟨F, hF, H1⟩
  · have hgo : ∀ R, GT b E A ls l R → GLaw b E R := by
      rcases hg with ⟨-, h9⟩ | ⟨h9, -⟩
      · exact h9
      · exact absurd h9 h3
    rw [o32 (by omega)] at h8
    have n1 : (Int32.ofNat ls.length).toNatClampNeg = ls.length := o32n (by omega)
    rw [n1] at g15
    have hra := H1.ra
    obtain ⟨f1, hk⟩ := (g13 C b E).1 _ _ _ H1
    have he1 := he.of hra.1 hra.2.1 hra.2.2 (cH.of f1)
    obtain ⟨-, -, -, ⟨a1', a2', a3', a4'⟩, ⟨b1', b2', b3', b4'⟩, ⟨d1', d2', d3', d4'⟩, k01, k02, k12⟩ := id he1
    have hl1 := hl.of f1 he
    have x1 : cH τ13 (q_w τ13 K0 ls.length (.int r13)) l1 l0 C K0 K1 K2 := cH.w (Or.inl rfl)
    have he2 := he1.of hra.1 hra.2.1 hra.2.2 x1
    have e1 := he2.2.1
    rw [e0, n1, e1] at g17
    rcases hk with ⟨A1, c, ht, ek, H2x⟩ | ⟨ht, H2x⟩
    · have H3x := H2x.el (c := K0) (k := ls.length) (v := .int r13) a1' a4' (fun q => absurd q a2') a3'
      obtain ⟨f2, u, v⟩ := H3x.nb g15 (by decide)
      have c0 : (Int32.ofInt 0).toInt = 0 := rfl
      have c20 : (Int32.ofInt 20).toInt = 20 := rfl
      rw [c0, c20] at u v
      have he3 := he2.of hra.1 hra.2.1 hra.2.2 (cH.of f2)
      cases hn : tn b E 0 20 A1 with
      | none =>
        obtain ⟨h9, x3, he4, H4x⟩ := (v hn).num he3 g17
        exact absurd h9 h18
      | some q =>
        obtain ⟨A2, w⟩ := q
        obtain ⟨ea, H4x⟩ := u A2 w hn
        obtain ⟨-, -, -, ⟨p1, p2, p3, p4⟩, ⟨q1, q2, q3, q4⟩, ⟨r1, r2, r3, r4⟩, -⟩ := id he3
        have H5x := (H4x.wk (s1 := 0) (by omega)).el (c := K1) (k := ls.length) (v := .int r15) q1 q4 (fun q => absurd q q2) q3
        have x3 : cH τ15 (q_w τ15 K1 ls.length (.int r15)) l1 l0 C K0 K1 K2 := cH.w (Or.inr (Or.inl rfl))
        have he4 := he3.of hra.1 hra.2.1 hra.2.2 x3
        have hl2 : cLn (q_w τ15 K1 ls.length (.int r15)) K0 K1 K2 ls := by
          intro i x hx
          have hi : i < ls.length := (List.getElem?_eq_some_iff.mp hx).1
          obtain ⟨y1, y2, y3⟩ := hl1 i x hx
          refine ⟨?_, ?_, ?_⟩
          · rw [q_w_ne (fun q _ => k01 q), f2.el p1 p2 p3, q_w_ne (fun _ q => by omega)]; exact y1
          · rw [q_w_ne (fun _ q => by omega), f2.el q1 q2 q3, q_w_ne (fun q _ => k01 q.symm)]; exact y2
          · rw [q_w_ne (fun q _ => k12 q.symm), f2.el r1 r2 r3, q_w_ne (fun q _ => k02 q.symm)]; exact y3
        have hk0 : (q_w τ15 K1 ls.length (.int r15)).1 K0 ls.length = .int (Int32.ofNat c) := by
          rw [q_w_ne (fun q _ => k01 q), f2.el p1 p2 p3, q_w_at, ek]
        have hk1 : (q_w τ15 K1 ls.length (.int r15)).1 K1 ls.length = .int (Int32.ofNat w) := by
          rw [q_w_at, ea]
        have fh := ((f0.tr (cH.of f1)).tr x1).tr ((cH.of f2).tr x3)
        obtain ⟨f5, u5, v5⟩ := H5x.tk g17 zwk_27 qsi_27 0 (by decide)
        obtain ⟨e5, H6x⟩ := u5 h18
        obtain ⟨f6, R, g1, g2⟩ := (g19 0 C b E rfl (by omega)).1 _ _ _ H6x
        have fh2 := (fh.tr (cH.of f5)).tr (cH.of f6)
        have he6 := he4.of hra.1 hra.2.1 hra.2.2 ((cH.of f5).tr (cH.of f6))
        refine ⟨fh2, he6, ?_⟩
        have f56 := f5.tr f6
        cases R with
        | inr F => exact Or.inr ⟨F, hgo _ (GT.bad (by omega) (GI.if0 ht hn e5 g1)), g2⟩
        | inl q =>
          obtain ⟨A4, m⟩ := q
          refine Or.inl ⟨A, A4, ls, l, c, w, m, rfl, by omega, GI.if1 ht hn e5 g1, g2, hl2.of f56 he4, ?_, ?_, hgo⟩
          · rw [f56.el p1 p2 p3]; exact hk0
          · rw [f56.el q1 q2 q3]; exact hk1
    · obtain ⟨h9, x3, he4, H4x⟩ := H2x.line he1 g15 g17
      exact absurd h9 h18
  · have hra := H1.ra
    obtain ⟨f1, H2x⟩ := (g13 C b E).2 _ H1
    have he1 := he.of hra.1 hra.2.1 hra.2.2 (cH.of f1)
    have x1 : cH τ13 (q_w τ13 K0 l3.toNatClampNeg (.int r13)) l1 l0 C K0 K1 K2 := cH.w (Or.inl rfl)
    have e1 := (he1.of hra.1 hra.2.1 hra.2.2 x1).2.1
    rw [e0, e1] at g17
    obtain ⟨h9, x3, he4, H4x⟩ := H2x.line he1 g15 g17
    exact absurd h9 h18
theorem sp_47_c41_t (a0 : Nat) (a1 : Nat) (σ : zSg) (l0 : Nat) (l1 : Nat) (l3 : Int32) (τ : zSg) (τ21 : zSg) (r21 : Int32) (hI : j_47 a0 a1 σ l0 l1 l3 τ) (h20 : 0 ≤ l3.toInt ∧ l3.toInt < (τ.2.1 (q_r (τ.1 l0 2)) : Int)) (g21 : p_89 l1 (q_w (q_w τ (q_r (τ.1 l0 2)) l3.toNatClampNeg (.int (q_i (τ.1 l0 5)))) l0 4 (.int (l3 + (Int32.ofInt (1))))) r21 τ21) (h22 : r21.toInt = (0 : Int)) :
    i_47 a0 a1 σ l0 l1 r21 (l3 + Int32.ofInt (1)) τ21 := by
  obtain ⟨rfl, rfl, G⟩ := hI
  refine ⟨rfl, rfl, fun C K0 K1 K2 b E H => ?_⟩
  obtain ⟨f0, he, hx⟩ := G C K0 K1 K2 b E H
  have e2 := he.2.2.1
  obtain ⟨-, -, -, ⟨p1, p2, p3, p4⟩, ⟨q1, q2, q3, q4⟩, ⟨r1, r2, r3, r4⟩, k01, k02, k12⟩ := id he
  rw [e2] at g21
  obtain rfl := g21.1.symm
  rcases hx with ⟨A, A1, ls, l, c, v, m, rfl, hls, hG, H1, hl, hk0, hk1, hgo⟩ | ⟨F, hF, H1⟩
  · have hra := H1.ra
    have n1 : (Int32.ofNat ls.length).toNatClampNeg = ls.length := o32n (by omega)
    have q5 : q_i (τ.1 l0 5) = Int32.ofNat (l ++ m).length := by rw [H1.2.2.2.2.1]; rfl
    rw [n1, q5, o32i (by omega)] at g21
    rw [n1, q5, o32i (by omega)]
    have x1 : cH τ (q_w τ K2 ls.length (.int (Int32.ofNat (l ++ m).length))) l1 l0 C K0 K1 K2 := cH.w (Or.inr (Or.inr (Or.inl rfl)))
    have x2 : cH (q_w τ K2 ls.length (.int (Int32.ofNat (l ++ m).length))) (q_w (q_w τ K2 ls.length (.int (Int32.ofNat (l ++ m).length))) l0 4 (.int (Int32.ofNat (ls.length + 1)))) l1 l0 C K0 K1 K2 := cH.w (Or.inr (Or.inr (Or.inr ⟨rfl, Or.inl rfl⟩)))
    have he1 := he.of hra.1 hra.2.1 hra.2.2 x1
    have he2 := he1.of hra.1 hra.2.1 hra.2.2 x2
    have H2x := H1.el (c := K2) (k := ls.length) (v := .int (Int32.ofNat (l ++ m).length)) r1 r4 (fun q => absurd q r2) r3
    have nb : l0 ≠ q_r ((q_w τ K2 ls.length (.int (Int32.ofNat (l ++ m).length))).1 l1 0) := fun q => H2x.2.2.2.1.2.2.2.2.2.1 q.symm
    have H3x := H2x.el (c := l0) (k := 4) (v := .int (Int32.ofNat (ls.length + 1))) hra.1 nb (fun _ => rfl) (fun q => hra.2.1 q.symm)
    have hl2 : cLn (q_w (q_w τ K2 ls.length (.int (Int32.ofNat (l ++ m).length))) l0 4 (.int (Int32.ofNat (ls.length + 1)))) K0 K1 K2 (ls ++ [(c, v, l.length, (l ++ m).length)]) := by
      intro i x hx
      rw [q_w_ne (fun q _ => p2 q), q_w_ne (fun q _ => q2 q), q_w_ne (fun q _ => r2 q), q_w_ne (fun q _ => k02 q), q_w_ne (fun q _ => k12 q)]
      by_cases hi : i < ls.length
      · rw [List.getElem?_append_left hi] at hx
        rw [q_w_ne (fun _ q => by omega)]
        exact hl i x hx
      · rw [List.getElem?_append_right (by omega)] at hx
        have hi2 : i = ls.length := by
          cases hd : i - ls.length with
          | zero => omega
          | succ n => rw [hd] at hx; simp at hx
        subst hi2
        rw [Nat.sub_self] at hx
        cases hx
        rw [q_w_at]
        exact ⟨hk0, hk1, rfl⟩
    have hlen : (ls ++ [(c, v, l.length, (l ++ m).length)]).length = ls.length + 1 := by rw [List.length_append]; rfl
    have w4 : (q_w (q_w τ K2 ls.length (.int (Int32.ofNat (l ++ m).length))) l0 4 (.int (Int32.ofNat (ls.length + 1)))).1 l0 4 = .int (Int32.ofNat (ls ++ [(c, v, l.length, (l ++ m).length)]).length) := by rw [hlen]; exact q_w_at _ _ _ _
    have hgo1 := (g21.2 A1 E H3x.1)
    have hAE := H3x.le
    have hE : A1 = E := by
      by_cases q : A1 < E
      · exact absurd h22 (hgo1.mpr ⟨H3x.2.2.1, q⟩)
      · omega
    subst hE
    exact ⟨(f0.tr x1).tr x2, he2, Or.inl ⟨A1, _, _, (by rw [hlen]), (by rw [hlen]; omega), H3x, hl2, w4, Or.inr ⟨h22, hgo _ (GT.last (by omega) hG)⟩⟩⟩
  · have hra := H1.ra
    have x1 : cH τ (q_w τ K2 l3.toNatClampNeg (.int (q_i (τ.1 l0 5)))) l1 l0 C K0 K1 K2 := cH.w (Or.inr (Or.inr (Or.inl rfl)))
    have x2 : cH (q_w τ K2 l3.toNatClampNeg (.int (q_i (τ.1 l0 5)))) (q_w (q_w τ K2 l3.toNatClampNeg (.int (q_i (τ.1 l0 5)))) l0 4 (.int (l3 + Int32.ofInt 1))) l1 l0 C K0 K1 K2 := cH.w (Or.inr (Or.inr (Or.inr ⟨rfl, Or.inl rfl⟩)))
    have he1 := he.of hra.1 hra.2.1 hra.2.2 x1
    have he2 := he1.of hra.1 hra.2.1 hra.2.2 x2
    have H2x := H1.el (c := K2) (k := l3.toNatClampNeg) (v := .int (q_i (τ.1 l0 5))) r1 r4 (fun q => absurd q r2)
    have nb : l0 ≠ q_r ((q_w τ K2 l3.toNatClampNeg (.int (q_i (τ.1 l0 5)))).1 l1 0) := fun q => H2x.2.2.2.2.2.2.2.2.2.1 q.symm
    have H3x := H2x.el (c := l0) (k := 4) (v := .int (l3 + Int32.ofInt 1)) hra.1 nb (fun _ => by omega)
    exact ⟨(f0.tr x1).tr x2, he2, Or.inr ⟨F, hF, H3x⟩⟩
theorem sp_47_c41_f (a0 : Nat) (a1 : Nat) (σ : zSg) (l0 : Nat) (l1 : Nat) (l3 : Int32) (τ : zSg) (τ21 : zSg) (r21 : Int32) (τ23 : zSg) (hI : j_47 a0 a1 σ l0 l1 l3 τ) (h20 : 0 ≤ l3.toInt ∧ l3.toInt < (τ.2.1 (q_r (τ.1 l0 2)) : Int)) (g21 : p_89 l1 (q_w (q_w τ (q_r (τ.1 l0 2)) l3.toNatClampNeg (.int (q_i (τ.1 l0 5)))) l0 4 (.int (l3 + (Int32.ofInt (1))))) r21 τ21) (h22 : r21.toInt ≠ (0 : Int)) (g23 : p_94 l1 (Int32.ofInt (59)) τ21 τ23) :
    i_47 a0 a1 σ l0 l1 r21 (l3 + Int32.ofInt (1)) τ23 := by
  obtain ⟨rfl, rfl, G⟩ := hI
  refine ⟨rfl, rfl, fun C K0 K1 K2 b E H => ?_⟩
  obtain ⟨f0, he, hx⟩ := G C K0 K1 K2 b E H
  have e2 := he.2.2.1
  obtain ⟨-, -, -, ⟨p1, p2, p3, p4⟩, ⟨q1, q2, q3, q4⟩, ⟨r1, r2, r3, r4⟩, k01, k02, k12⟩ := id he
  rw [e2] at g21
  obtain rfl := g21.1.symm
  rcases hx with ⟨A, A1, ls, l, c, v, m, rfl, hls, hG, H1, hl, hk0, hk1, hgo⟩ | ⟨F, hF, H1⟩
  · have hra := H1.ra
    have n1 : (Int32.ofNat ls.length).toNatClampNeg = ls.length := o32n (by omega)
    have q5 : q_i (τ.1 l0 5) = Int32.ofNat (l ++ m).length := by rw [H1.2.2.2.2.1]; rfl
    rw [n1, q5, o32i (by omega)] at g21
    rw [n1, q5, o32i (by omega)] at g23
    rw [o32i (by omega)]
    have x1 : cH τ (q_w τ K2 ls.length (.int (Int32.ofNat (l ++ m).length))) l1 l0 C K0 K1 K2 := cH.w (Or.inr (Or.inr (Or.inl rfl)))
    have x2 : cH (q_w τ K2 ls.length (.int (Int32.ofNat (l ++ m).length))) (q_w (q_w τ K2 ls.length (.int (Int32.ofNat (l ++ m).length))) l0 4 (.int (Int32.ofNat (ls.length + 1)))) l1 l0 C K0 K1 K2 := cH.w (Or.inr (Or.inr (Or.inr ⟨rfl, Or.inl rfl⟩)))
    have he1 := he.of hra.1 hra.2.1 hra.2.2 x1
    have he2 := he1.of hra.1 hra.2.1 hra.2.2 x2
    have H2x := H1.el (c := K2) (k := ls.length) (v := .int (Int32.ofNat (l ++ m).length)) r1 r4 (fun q => absurd q r2) r3
    have nb : l0 ≠ q_r ((q_w τ K2 ls.length (.int (Int32.ofNat (l ++ m).length))).1 l1 0) := fun q => H2x.2.2.2.1.2.2.2.2.2.1 q.symm
    have H3x := H2x.el (c := l0) (k := 4) (v := .int (Int32.ofNat (ls.length + 1))) hra.1 nb (fun _ => rfl) (fun q => hra.2.1 q.symm)
    have hl2 : cLn (q_w (q_w τ K2 ls.length (.int (Int32.ofNat (l ++ m).length))) l0 4 (.int (Int32.ofNat (ls.length + 1)))) K0 K1 K2 (ls ++ [(c, v, l.length, (l ++ m).length)]) := by
      intro i x hx
      rw [q_w_ne (fun q _ => p2 q), q_w_ne (fun q _ => q2 q), q_w_ne (fun q _ => r2 q), q_w_ne (fun q _ => k02 q), q_w_ne (fun q _ => k12 q)]
      by_cases hi : i < ls.length
      · rw [List.getElem?_append_left hi] at hx
        rw [q_w_ne (fun _ q => by omega)]
        exact hl i x hx
      · rw [List.getElem?_append_right (by omega)] at hx
        have hi2 : i = ls.length := by
          cases hd : i - ls.length with
          | zero => omega
          | succ n => rw [hd] at hx; simp at hx
        subst hi2
        rw [Nat.sub_self] at hx
        cases hx
        rw [q_w_at]
        exact ⟨hk0, hk1, rfl⟩
    have hlen : (ls ++ [(c, v, l.length, (l ++ m).length)]).length = ls.length + 1 := by rw [List.length_append]; rfl
    have w4 : (q_w (q_w τ K2 ls.length (.int (Int32.ofNat (l ++ m).length))) l0 4 (.int (Int32.ofNat (ls.length + 1)))).1 l0 4 = .int (Int32.ofNat (ls ++ [(c, v, l.length, (l ++ m).length)]).length) := by rw [hlen]; exact q_w_at _ _ _ _
    have hgo1 := (g21.2 A1 E H3x.1)
    have hAE := H3x.le
    have hlt := (hgo1.mp h22).2
    obtain ⟨f4, u4, v4⟩ := H3x.ns g23 (by decide) (by decide)
    have he4 := he2.of hra.1 hra.2.1 hra.2.2 (cH.of f4)
    refine ⟨((f0.tr x1).tr x2).tr (cH.of f4), he4, ?_⟩
    cases h59 : ts b E 59 A1 with
    | none => exact Or.inr ⟨A1, hgo _ (GT.semi (by omega) hG (by omega) h59), v4 h59⟩
    | some A2 =>
      refine Or.inl ⟨A2, _, _, (by rw [hlen]), (by rw [hlen]; omega), (u4 A2 h59).wk (by omega), hl2.of f4 he2, ?_, Or.inl ⟨h22, fun R h9 => hgo R (GT.step (by omega) hG (by omega) h59 h9)⟩⟩
      rw [f4.2 l0 4 (fun q => hra.1 q.1) (fun q => by omega) (fun q => hra.2.1 q.symm)]
      exact w4
  · have hra := H1.ra
    have x1 : cH τ (q_w τ K2 l3.toNatClampNeg (.int (q_i (τ.1 l0 5)))) l1 l0 C K0 K1 K2 := cH.w (Or.inr (Or.inr (Or.inl rfl)))
    have x2 : cH (q_w τ K2 l3.toNatClampNeg (.int (q_i (τ.1 l0 5)))) (q_w (q_w τ K2 l3.toNatClampNeg (.int (q_i (τ.1 l0 5)))) l0 4 (.int (l3 + Int32.ofInt 1))) l1 l0 C K0 K1 K2 := cH.w (Or.inr (Or.inr (Or.inr ⟨rfl, Or.inl rfl⟩)))
    have he1 := he.of hra.1 hra.2.1 hra.2.2 x1
    have he2 := he1.of hra.1 hra.2.1 hra.2.2 x2
    have H2x := H1.el (c := K2) (k := l3.toNatClampNeg) (v := .int (q_i (τ.1 l0 5))) r1 r4 (fun q => absurd q r2)
    have nb : l0 ≠ q_r ((q_w τ K2 l3.toNatClampNeg (.int (q_i (τ.1 l0 5)))).1 l1 0) := fun q => H2x.2.2.2.2.2.2.2.2.2.1 q.symm
    have H3x := H2x.el (c := l0) (k := 4) (v := .int (l3 + Int32.ofInt 1)) hra.1 nb (fun _ => by omega)
    obtain rfl := H3x.ns g23 (by decide) (by decide)
    exact ⟨(f0.tr x1).tr x2, he2, Or.inr ⟨F, hF, H3x⟩⟩
noncomputable def qP_47 : zPp := fun as σ o σ' => match as with
  | [a0, a1] => ∃ r, o = .inl (some (.int r)) ∧ p_47 (q_r a0) (q_r a1) σ r σ'
  | _ => True
set_option maxRecDepth 100000 in
theorem sp_47 {sx : zX} (S87 : zEe sx 87 1 qP_87) (S89 : zEe sx 89 1 qP_89) (S88 : zEe sx 88 1 qP_88) (S90 : zEe sx 90 1 qP_90) (S49 : zEe sx 49 2 qP_49) (S96 : zEe sx 96 3 qP_96) (S91 : zEe sx 91 2 qP_91) (S50 : zEe sx 50 3 qP_50) (S94 : zEe sx 94 2 qP_94) : zEe sx 47 2 qP_47 := by
  refine zfle zJ_47 (sps := [(87, 1, qP_87), (89, 1, qP_89), (88, 1, qP_88), (90, 1, qP_90), (49, 2, qP_49), (96, 3, qP_96), (91, 2, qP_91), (50, 3, qP_50), (94, 2, qP_94)]) (fun q hq => by
    simp only [List.mem_cons, List.not_mem_nil, or_false] at hq
    rcases hq with rfl | rfl | rfl | rfl | rfl | rfl | rfl | rfl | rfl
    · exact S87
    · exact S89
    · exact S88
    · exact S90
    · exact S49
    · exact S96
    · exact S91
    · exact S50
    · exact S94) (fun as σ hl => ?_)
  match as, hl with
  | [a0, a1], _ =>
  refine ⟨[(13, fun lo st τ => st = [] ∧ i_47 (q_r a0) (q_r a1) σ (q_r (lo 0)) (q_r (lo 1)) (q_i (lo 2)) (q_i (lo 3)) τ), (41, fun lo st τ => st = [] ∧ j_47 (q_r a0) (q_r a1) σ (q_r (lo 0)) (q_r (lo 1)) (q_i (lo 3)) τ)], 400, ?_, ?_⟩
  · intro q hq
    simp only [List.mem_cons, List.not_mem_nil, or_false] at hq
    rcases hq with rfl | rfl
    · rintro lo st τ ⟨rfl, hI⟩
      refine ⟨400, ?_⟩
      refine And.intro (fun h3 => ?_) (fun h3 => ?_)
      · refine And.intro (fun h4 => ?_) (fun h4 => ?_)
        · refine fun o5 τ5 g5 => ?_
          obtain ⟨r5, rfl, g5⟩ := g5
          exact ⟨_, rfl, sp_47_c13_tt (q_r a0) (q_r a1) σ (q_r (lo 0)) (q_r (lo 1)) (q_i (lo 2)) (q_i (lo 3)) τ τ5 r5 hI (cm0t h3) (cm0t h4) g5⟩
        · refine fun o6 τ6 g6 => ?_
          obtain ⟨rfl, g6⟩ := g6
          refine fun o7 τ7 g7 => ?_
          obtain ⟨r7, rfl, g7⟩ := g7
          exact ⟨_, rfl, sp_47_c13_tf (q_r a0) (q_r a1) σ (q_r (lo 0)) (q_r (lo 1)) (q_i (lo 2)) (q_i (lo 3)) τ τ6 τ7 r7 hI (cm0t h3) (cm0f h4) g6 g7⟩
      · refine And.intro (fun h8 => ?_) (fun h8 => ?_)
        · refine And.intro (fun h9 => ?_) (fun h9 => ?_)
          · refine fun o10 τ10 g10 => ?_
            obtain ⟨r10, rfl, g10⟩ := g10
            exact ⟨_, rfl, sp_47_c13_ftt (q_r a0) (q_r a1) σ (q_r (lo 0)) (q_r (lo 1)) (q_i (lo 2)) (q_i (lo 3)) τ τ10 r10 hI (cm0f h3) (cm3t h8) (cm0t h9) g10⟩
          · refine fun o11 τ11 g11 => ?_
            obtain ⟨rfl, g11⟩ := g11
            refine fun o12 τ12 g12 => ?_
            obtain ⟨r12, rfl, g12⟩ := g12
            exact ⟨_, rfl, sp_47_c13_ftf (q_r a0) (q_r a1) σ (q_r (lo 0)) (q_r (lo 1)) (q_i (lo 2)) (q_i (lo 3)) τ τ11 τ12 r12 hI (cm0f h3) (cm3t h8) (cm0f h9) g11 g12⟩
        · refine fun o13 τ13 g13 => ?_
          obtain ⟨r13, rfl, g13⟩ := g13
          refine fun h14 => ?_
          refine fun o15 τ15 g15 => ?_
          obtain ⟨r15, rfl, g15⟩ := g15
          refine fun h16 => ?_
          refine fun o17 τ17 g17 => ?_
          obtain ⟨r17, rfl, g17⟩ := g17
          refine And.intro (fun h18 => ?_) (fun h18 => ?_)
          · exact ⟨rfl, sp_47_c13_fft (q_r a0) (q_r a1) σ (q_r (lo 0)) (q_r (lo 1)) (q_i (lo 2)) (q_i (lo 3)) τ τ13 r13 τ15 r15 τ17 r17 hI (cm0f h3) (cm3f h8) g13 (q_inp h14) g15 (q_inp h16) g17 (cm0t h18)⟩
          · refine fun o19 τ19 g19 => ?_
            obtain ⟨rfl, g19⟩ := g19
            exact ⟨rfl, sp_47_c13_fff (q_r a0) (q_r a1) σ (q_r (lo 0)) (q_r (lo 1)) (q_i (lo 2)) (q_i (lo 3)) τ τ13 r13 τ15 r15 τ17 r17 τ19 hI (cm0f h3) (cm3f h8) g13 (q_inp h14) g15 (q_inp h16) g17 (cm0f h18) g19⟩
    · rintro lo st τ ⟨rfl, hI⟩
      refine ⟨400, ?_⟩
      refine fun h20 => ?_
      refine fun o21 τ21 g21 => ?_
      obtain ⟨r21, rfl, g21⟩ := g21
      refine And.intro (fun h22 => ?_) (fun h22 => ?_)
      · exact ⟨rfl, sp_47_c41_t (q_r a0) (q_r a1) σ (q_r (lo 0)) (q_r (lo 1)) (q_i (lo 3)) τ τ21 r21 hI (q_inp h20) g21 (cm0t h22)⟩
      · refine fun o23 τ23 g23 => ?_
        obtain ⟨rfl, g23⟩ := g23
        exact ⟨rfl, sp_47_c41_f (q_r a0) (q_r a1) σ (q_r (lo 0)) (q_r (lo 1)) (q_i (lo 3)) τ τ21 r21 τ23 hI (q_inp h20) g21 (cm0f h22) g23⟩
  · refine fun o1 τ1 g1 => ?_
    obtain ⟨rfl, g1⟩ := g1
    refine fun o2 τ2 g2 => ?_
    obtain ⟨r2, rfl, g2⟩ := g2
    exact ⟨rfl, sp_47_e (q_r a0) (q_r a1) σ τ1 τ2 r2 g1 g2⟩
end
section
/-! the class's law; printed with wip/gen/gen_t9.py -/
/-- the cells that were there have stayed -/
noncomputable def qFr (σ σ' : zSg) : Prop := σ.2.2 ≤ σ'.2.2 ∧ (∀ c k, c < σ.2.2 → σ'.1 c k = σ.1 c k) ∧ ∀ c, c < σ.2.2 → σ'.2.1 c = σ.2.1 c
theorem qFr.rf {σ : zSg} : qFr σ σ := ⟨Nat.le_refl _, fun _ _ _ => rfl, fun _ _ => rfl⟩
theorem qFr.tr {σ τ υ : zSg} (h1 : qFr σ τ) (h2 : qFr τ υ) : qFr σ υ := ⟨Nat.le_trans h1.1 h2.1, fun c k h => (h2.2.1 c k (Nat.lt_of_lt_of_le h h1.1)).trans (h1.2.1 c k h), fun c h => (h2.2.2 c (Nat.lt_of_lt_of_le h h1.1)).trans (h1.2.2 c h)⟩
theorem qFr.nw {σ : zSg} {f : Nat → Value} {n : Nat} : qFr σ (q_nw σ f n) := ⟨Nat.le_succ _, fun c k h => if_neg (by omega), fun c h => if_neg (by omega)⟩
theorem q_nw_at {σ : zSg} {f : Nat → Value} {n k : Nat} : (q_nw σ f n).1 σ.2.2 k = f k := if_pos rfl
theorem q_nw_l {σ : zSg} {f : Nat → Value} {n : Nat} : (q_nw σ f n).2.1 σ.2.2 = n := if_pos rfl
noncomputable def p_314 (a : Nat) (n : Int32) (σ : zSg) (r : Nat) (σ' : zSg) : Prop := a < σ.2.2 → σ.2.1 a ≤ 1000 → r = σ.2.2 ∧ qFr σ σ' ∧ σ'.2.2 = σ.2.2 + 1 ∧ σ'.2.1 r = n.toNatClampNeg ∧ ∀ k, k < n.toNatClampNeg → k < σ.2.1 a → σ'.1 r k = σ.1 a k
theorem sp_314_et (a0 : Nat) (a1 : Int32) (σ : zSg) (h1 : a1.toInt ≠ (Int32.ofNat (σ.2.1 a0)).toInt) (h2 : ¬ a1 < 0) :
    p_314 (a0) (a1) σ σ.2.2 (q_cp (q_nw σ (fun j => (z_rd (z_new 0 a1.toNatClampNeg) j).getD .null) a1.toNatClampNeg) a0 σ.2.2 (Int32.ofInt (0)).toNatClampNeg (Int32.ofInt (0)).toNatClampNeg (if a1 < (Int32.ofNat ((q_nw σ (fun j => (z_rd (z_new 0 a1.toNatClampNeg) j).getD .null) a1.toNatClampNeg).2.1 a0)) then a1 else (Int32.ofNat ((q_nw σ (fun j => (z_rd (z_new 0 a1.toNatClampNeg) j).getD .null) a1.toNatClampNeg).2.1 a0))).toNatClampNeg) := by
  intro ha hl
  generalize hS : q_nw σ (fun j => (z_rd (z_new 0 a1.toNatClampNeg) j).getD .null) a1.toNatClampNeg = S
  have fr : qFr σ S := by rw [← hS]; exact qFr.nw
  have eN : S.2.2 = σ.2.2 + 1 := by rw [← hS]; rfl
  have eL : S.2.1 σ.2.2 = a1.toNatClampNeg := by rw [← hS]; exact q_nw_l
  rw [fr.2.2 a0 ha]
  refine ⟨rfl, ⟨by show σ.2.2 ≤ S.2.2; omega, fun c k h => ?_, fun c h => fr.2.2 c h⟩, eN, eL, fun k h3 h4 => ?_⟩
  · show (if c = σ.2.2 ∧ _ then _ else S.1 c k) = _
    rw [if_neg (fun q => by omega)]
    exact fr.2.1 c k h
  · show (if σ.2.2 = σ.2.2 ∧ _ ∧ k < _ then S.1 a0 _ else _) = _
    have c0 : (Int32.ofInt 0).toNatClampNeg = 0 := rfl
    rw [c0, if_pos]
    · rw [show 0 + (k - 0) = k by omega]
      exact fr.2.1 a0 k ha
    · refine ⟨rfl, Nat.zero_le _, ?_⟩
      rw [Nat.zero_add]
      split
      · exact h3
      · rw [o32n hl]; exact h4
theorem sp_314_ef (a0 : Nat) (a1 : Int32) (σ : zSg) (h1 : a1.toInt = (Int32.ofNat (σ.2.1 a0)).toInt) :
    p_314 (a0) (a1) σ σ.2.2 (q_nw σ (σ.1 a0) (σ.2.1 a0)) := by
  intro ha hl
  rw [o32 hl] at h1
  have e : a1.toNatClampNeg = σ.2.1 a0 := znat (by omega)
  exact ⟨rfl, qFr.nw, rfl, by rw [e]; exact q_nw_l, fun k _ _ => q_nw_at⟩
noncomputable def qP_314 : zPp := fun as σ o σ' => match as with
  | [a0, a1] => ∃ r, o = .inl (some (.ref r)) ∧ p_314 (q_r a0) (q_i a1) σ r σ'
  | _ => True
set_option maxRecDepth 100000 in
theorem sp_314 {sx : zX}  : zEe sx 314 2 qP_314 := by
  refine zfle zJ_314 (sps := []) (fun q hq => absurd hq List.not_mem_nil) (fun as σ hl => ?_)
  match as, hl with
  | [a0, a1], _ =>
  refine ⟨[], 400, ?_, ?_⟩
  · exact fun q hq => absurd hq List.not_mem_nil
  · refine And.intro (fun h1 => ?_) (fun h1 => ?_)
    · refine fun h2 => ?_
      exact ⟨_, rfl, sp_314_et (q_r a0) (q_i a1) σ (cm1t h1) h2⟩
    · exact ⟨_, rfl, sp_314_ef (q_r a0) (q_i a1) σ (cm1f h1)⟩
/-- the cells that were there have stayed, but one -/
noncomputable def qFx (σ σ' : zSg) (t : Nat) : Prop := σ.2.2 ≤ σ'.2.2 ∧ (∀ c k, c < σ.2.2 → c ≠ t → σ'.1 c k = σ.1 c k) ∧ ∀ c, c < σ.2.2 → σ'.2.1 c = σ.2.1 c
theorem qFx.of {σ σ' : zSg} {t : Nat} (h : qFr σ σ') : qFx σ σ' t := ⟨h.1, fun c k q _ => h.2.1 c k q, h.2.2⟩
theorem qFx.w {σ : zSg} {t k : Nat} {v : Value} : qFx σ (q_w σ t k v) t := ⟨Nat.le_refl _, fun c i _ q => q_w_ne (fun e _ => q e), fun _ _ => rfl⟩
theorem qFx.tr {σ τ υ : zSg} {t : Nat} (h1 : qFx σ τ t) (h2 : qFx τ υ t) : qFx σ υ t := ⟨Nat.le_trans h1.1 h2.1, fun c k h q => (h2.2.1 c k (Nat.lt_of_lt_of_le h h1.1) q).trans (h1.2.1 c k h q), fun c h => (h2.2.2 c (Nat.lt_of_lt_of_le h h1.1)).trans (h1.2.2 c h)⟩
/-- a row copied into a new cell -/
noncomputable def qCy (σ σ' : zSg) (a r : Nat) (n : Int32) : Prop := σ'.2.1 r = n.toNatClampNeg ∧ ∀ k, k < n.toNatClampNeg → k < σ.2.1 a → σ'.1 r k = σ.1 a k
noncomputable def p_41 (t : Nat) (n : Int32) (a1 a2 a3 a4 : Nat) (σ σ' : zSg) : Prop := t < σ.2.2 → a1 < σ.2.2 → a2 < σ.2.2 → a3 < σ.2.2 → a1 ≠ t → a2 ≠ t → a3 ≠ t → σ.2.1 a1 ≤ 1000 → σ.2.1 a2 ≤ 1000 → σ.2.1 a3 ≤ 1000 → qFx σ σ' t ∧ σ'.1 t 0 = .int n ∧ σ'.1 t 4 = .ref a4 ∧ ∃ r1 r2 r3 r5 : Nat, σ'.1 t 1 = .ref r1 ∧ σ'.1 t 2 = .ref r2 ∧ σ'.1 t 3 = .ref r3 ∧ σ'.1 t 5 = .ref r5 ∧ (σ.2.2 = r5 ∧ σ.2.2 + 1 = r1 ∧ σ.2.2 + 2 = r2 ∧ σ.2.2 + 3 = r3 ∧ σ'.2.2 = σ.2.2 + 4) ∧ qCy σ σ' a1 r1 n ∧ qCy σ σ' a2 r2 n ∧ qCy σ σ' a3 r3 n
theorem sp_41_e (a0 : Nat) (a1 : Int32) (a2 : Nat) (a3 : Nat) (a4 : Nat) (a5 : Nat) (σ : zSg) (τ2 : zSg) (r2 : Nat) (τ3 : zSg) (r3 : Nat) (τ4 : zSg) (r4 : Nat) (h1 : ¬ (Int32.ofInt (32)) < 0) (g2 : p_314 a2 a1 (q_w (q_w (q_nw σ (fun j => (z_rd (z_new 0 (Int32.ofInt (32)).toNatClampNeg) j).getD .null) (Int32.ofInt (32)).toNatClampNeg) a0 5 (.ref σ.2.2)) a0 0 (.int a1)) r2 τ2) (g3 : p_314 a3 a1 (q_w τ2 a0 1 (.ref r2)) r3 τ3) (g4 : p_314 a4 a1 (q_w τ3 a0 2 (.ref r3)) r4 τ4) :
    p_41 (a0) (a1) (a2) (a3) (a4) (a5) σ (q_w (q_w τ4 a0 3 (.ref r4)) a0 4 (.ref a5)) := by
  intro ht hk1 hk2 hk3 n1 n2 n3 l1 l2 l3
  generalize hS0 : q_nw σ (fun j => (z_rd (z_new 0 (Int32.ofInt 32).toNatClampNeg) j).getD .null) (Int32.ofInt 32).toNatClampNeg = S0 at g2
  have f0 : qFr σ S0 := by rw [← hS0]; exact qFr.nw
  have e0 : S0.2.2 = σ.2.2 + 1 := by rw [← hS0]; rfl
  have fS : qFx σ (q_w (q_w S0 a0 5 (.ref σ.2.2)) a0 0 (.int a1)) a0 := ((qFx.of f0).tr qFx.w).tr qFx.w
  have eS : (q_w (q_w S0 a0 5 (.ref σ.2.2)) a0 0 (.int a1)).2.2 = σ.2.2 + 1 := e0
  obtain ⟨q1, g1, m1, y1, z1⟩ := g2 (by rw [eS]; omega) (by rw [fS.2.2 a2 hk1]; exact l1)
  have f1 : qFx σ (q_w τ2 a0 1 (.ref r2)) a0 := (fS.tr (qFx.of g1)).tr qFx.w
  have e1 : (q_w τ2 a0 1 (.ref r2)).2.2 = σ.2.2 + 2 := by rw [q_w_2, m1, eS]
  obtain ⟨q2, g2, m2, y2, z2⟩ := g3 (by rw [e1]; omega) (by rw [f1.2.2 a3 hk2]; exact l2)
  have f2 : qFx σ (q_w τ3 a0 2 (.ref r3)) a0 := (f1.tr (qFx.of g2)).tr qFx.w
  have e2 : (q_w τ3 a0 2 (.ref r3)).2.2 = σ.2.2 + 3 := by rw [q_w_2, m2, e1]
  obtain ⟨q3, g3', m3, y3, z3⟩ := g4 (by rw [e2]; omega) (by rw [f2.2.2 a4 hk3]; exact l3)
  have w3 : qFx (q_w τ3 a0 2 (.ref r3)) (q_w (q_w τ4 a0 3 (.ref r4)) a0 4 (.ref a5)) a0 := ((qFx.of g3').tr qFx.w).tr qFx.w
  have w2 : qFx (q_w τ2 a0 1 (.ref r2)) (q_w (q_w τ4 a0 3 (.ref r4)) a0 4 (.ref a5)) a0 := ((qFx.of g2).tr qFx.w).tr w3
  have f3 : qFx σ (q_w (q_w τ4 a0 3 (.ref r4)) a0 4 (.ref a5)) a0 := f2.tr w3
  rw [eS] at q1
  rw [e1] at q2
  rw [e2] at q3
  have k0 : ∀ k, k ≠ 3 → k ≠ 4 → (q_w (q_w τ4 a0 3 (.ref r4)) a0 4 (.ref a5)).1 a0 k = (q_w τ3 a0 2 (.ref r3)).1 a0 k := by
    intro k h1 h2
    rw [q_w_ne (fun _ q => h2 q), q_w_ne (fun _ q => h1 q), g3'.2.1 a0 k (by rw [e2]; omega)]
  have k1 : ∀ k, k ≠ 2 → (q_w τ3 a0 2 (.ref r3)).1 a0 k = (q_w τ2 a0 1 (.ref r2)).1 a0 k := by
    intro k h1
    rw [q_w_ne (fun _ q => h1 q), g2.2.1 a0 k (by rw [e1]; omega)]
  have k2 : ∀ k, k ≠ 1 → (q_w τ2 a0 1 (.ref r2)).1 a0 k = (q_w (q_w S0 a0 5 (.ref σ.2.2)) a0 0 (.int a1)).1 a0 k := by
    intro k h1
    rw [q_w_ne (fun _ q => h1 q), g1.2.1 a0 k (by rw [eS]; omega)]
  refine ⟨f3, ?_, q_w_at _ _ _ _, r2, r3, r4, σ.2.2, ?_, ?_, ?_, ?_, ⟨rfl, by omega, by omega, by omega, ?_⟩, ⟨?_, fun k h1 h2 => ?_⟩, ⟨?_, fun k h1 h2 => ?_⟩, ⟨?_, fun k h1 h2 => ?_⟩⟩
  · rw [k0 0 (by omega) (by omega), k1 0 (by omega), k2 0 (by omega), q_w_at]
  · rw [k0 1 (by omega) (by omega), k1 1 (by omega), q_w_at]
  · rw [k0 2 (by omega) (by omega), q_w_at]
  · rw [q_w_ne (fun _ q => by omega), q_w_at]
  · rw [k0 5 (by omega) (by omega), k1 5 (by omega), k2 5 (by omega), q_w_ne (fun _ q => by omega), q_w_at]
  · rw [q_w_2, q_w_2, m3, e2]
  · rw [w2.2.2 r2 (by rw [e1]; omega)]; exact y1
  · rw [w2.2.1 r2 k (by rw [e1]; omega) (by omega), q_w_ne (fun q _ => by omega), z1 k h1 (by rw [fS.2.2 a2 hk1]; exact h2)]
    exact fS.2.1 a2 k hk1 n1
  · rw [w3.2.2 r3 (by rw [e2]; omega)]; exact y2
  · rw [w3.2.1 r3 k (by rw [e2]; omega) (by omega), q_w_ne (fun q _ => by omega), z2 k h1 (by rw [f1.2.2 a3 hk2]; exact h2)]
    exact f1.2.1 a3 k hk2 n2
  · exact y3
  · rw [q_w_ne (fun q _ => by omega), q_w_ne (fun q _ => by omega), z3 k h1 (by rw [f2.2.2 a4 hk3]; exact h2)]
    exact f2.2.1 a4 k hk3 n3
noncomputable def qP_41 : zPp := fun as σ o σ' => match as with
  | [a0, a1, a2, a3, a4, a5] => o = .inl none ∧ p_41 (q_r a0) (q_i a1) (q_r a2) (q_r a3) (q_r a4) (q_r a5) σ σ'
  | _ => True
set_option maxRecDepth 100000 in
theorem sp_41 {sx : zX} (S314 : zEe sx 314 2 qP_314) : zEe sx 41 6 qP_41 := by
  refine zfle zJ_41 (sps := [(314, 2, qP_314)]) (fun q hq => by
    simp only [List.mem_cons, List.not_mem_nil, or_false] at hq
    rcases hq with rfl
    · exact S314) (fun as σ hl => ?_)
  match as, hl with
  | [a0, a1, a2, a3, a4, a5], _ =>
  refine ⟨[], 400, ?_, ?_⟩
  · exact fun q hq => absurd hq List.not_mem_nil
  · refine fun h1 => ?_
    refine fun o2 τ2 g2 => ?_
    obtain ⟨r2, rfl, g2⟩ := g2
    refine fun o3 τ3 g3 => ?_
    obtain ⟨r3, rfl, g3⟩ := g3
    refine fun o4 τ4 g4 => ?_
    obtain ⟨r4, rfl, g4⟩ := g4
    exact ⟨rfl, sp_41_e (q_r a0) (q_i a1) (q_r a2) (q_r a3) (q_r a4) (q_r a5) σ τ2 r2 τ3 r3 τ4 r4 h1 g2 g3 g4⟩
noncomputable def p_48 (r : Nat) (σ : zSg) (q : Nat) (σ' : zSg) : Prop := r < σ.2.2 → q_r (σ.1 r 0) < σ.2.2 → q_r (σ.1 r 1) < σ.2.2 → q_r (σ.1 r 2) < σ.2.2 → q_r (σ.1 r 3) < σ.2.2 → σ.2.1 (q_r (σ.1 r 0)) ≤ 1000 → σ.2.1 (q_r (σ.1 r 1)) ≤ 1000 → σ.2.1 (q_r (σ.1 r 2)) ≤ 1000 → σ.2.1 (q_r (σ.1 r 3)) ≤ 1000 → q = σ.2.2 ∧ qFr σ σ' ∧ σ'.2.2 = σ.2.2 + 6 ∧ σ'.1 q 0 = .int (q_i (σ.1 r 4)) ∧ σ'.1 q 1 = .ref (q + 3) ∧ σ'.1 q 2 = .ref (q + 4) ∧ σ'.1 q 3 = .ref (q + 5) ∧ σ'.1 q 4 = .ref (q + 1) ∧ σ'.1 q 5 = .ref (q + 2) ∧ qCy σ σ' (q_r (σ.1 r 0)) (q + 3) (q_i (σ.1 r 4)) ∧ qCy σ σ' (q_r (σ.1 r 1)) (q + 4) (q_i (σ.1 r 4)) ∧ qCy σ σ' (q_r (σ.1 r 2)) (q + 5) (q_i (σ.1 r 4)) ∧ qCy σ σ' (q_r (σ.1 r 3)) (q + 1) (q_i (σ.1 r 5))
theorem sp_48_e (a0 : Nat) (σ : zSg) (τ1 : zSg) (r1 : Nat) (τ2 : zSg) (g1 : p_314 (q_r ((q_nw σ (fun j => ((z_df.getD 2 [])[j]?).getD .null) 0).1 a0 3)) (q_i ((q_nw σ (fun j => ((z_df.getD 2 [])[j]?).getD .null) 0).1 a0 5)) (q_nw σ (fun j => ((z_df.getD 2 [])[j]?).getD .null) 0) r1 τ1) (g2 : p_41 σ.2.2 (q_i ((q_nw σ (fun j => ((z_df.getD 2 [])[j]?).getD .null) 0).1 a0 4)) (q_r ((q_nw σ (fun j => ((z_df.getD 2 [])[j]?).getD .null) 0).1 a0 0)) (q_r ((q_nw σ (fun j => ((z_df.getD 2 [])[j]?).getD .null) 0).1 a0 1)) (q_r ((q_nw σ (fun j => ((z_df.getD 2 [])[j]?).getD .null) 0).1 a0 2)) r1 τ1 τ2) :
    p_48 (a0) σ σ.2.2 τ2 := by
  intro hr h0 h1 h2 h3 l0 l1 l2 l3
  generalize hS : q_nw σ (fun j => ((z_df.getD 2 [])[j]?).getD .null) 0 = S at *
  have fr : qFr σ S := by rw [← hS]; exact qFr.nw
  have eN : S.2.2 = σ.2.2 + 1 := by rw [← hS]; rfl
  rw [fr.2.1 a0 0 hr, fr.2.1 a0 1 hr, fr.2.1 a0 2 hr, fr.2.1 a0 4 hr] at g2
  rw [fr.2.1 a0 3 hr, fr.2.1 a0 5 hr] at g1
  obtain ⟨q1, g1, m1, y1, z1⟩ := g1 (by rw [eN]; omega) (by rw [fr.2.2 _ h3]; exact l3)
  have fr2 := fr.tr g1
  rw [eN] at q1 m1
  subst q1
  obtain ⟨f3, w0, w4, u1, u2, u3, u5, w1, w2, w3, w5, ⟨e5, e1, e2, e3, e6⟩, c1, c2, c3⟩ := g2 (by omega) (by omega) (by omega) (by omega) (by omega) (by omega) (by omega) (by rw [fr2.2.2 _ h0]; exact l0) (by rw [fr2.2.2 _ h1]; exact l1) (by rw [fr2.2.2 _ h2]; exact l2)
  rw [m1] at e5 e1 e2 e3 e6
  have o1 : u1 = σ.2.2 + 3 := by omega
  have o2 : u2 = σ.2.2 + 4 := by omega
  have o3 : u3 = σ.2.2 + 5 := by omega
  have o5 : u5 = σ.2.2 + 2 := by omega
  subst o1
  subst o2
  subst o3
  subst o5
  have cy : ∀ a r n, a < σ.2.2 → qCy τ1 τ2 a r n → qCy σ τ2 a r n := by
    intro a r n ha hc
    exact ⟨hc.1, fun k k1 k2 => (hc.2 k k1 (by rw [fr2.2.2 a ha]; exact k2)).trans (fr2.2.1 a k ha)⟩
  refine ⟨rfl, ⟨by omega, fun c k h => ?_, fun c h => ?_⟩, by omega, w0, w1, w2, w3, w4, w5, cy _ _ _ h0 c1, cy _ _ _ h1 c2, cy _ _ _ h2 c3, ?_, fun k k1 k2 => ?_⟩
  · rw [f3.2.1 c k (by omega) (by omega)]; exact fr2.2.1 c k h
  · rw [f3.2.2 c (by omega)]; exact fr2.2.2 c h
  · rw [f3.2.2 _ (by omega)]; exact y1
  · rw [f3.2.1 _ k (by omega) (by omega), z1 k k1 (by rw [fr.2.2 _ h3]; exact k2)]
    exact fr.2.1 _ k h3
noncomputable def qP_48 : zPp := fun as σ o σ' => match as with
  | [a0] => ∃ r, o = .inl (some (.ref r)) ∧ p_48 (q_r a0) σ r σ'
  | _ => True
set_option maxRecDepth 100000 in
theorem sp_48 {sx : zX} (S314 : zEe sx 314 2 qP_314) (S41 : zEe sx 41 6 qP_41) : zEe sx 48 1 qP_48 := by
  refine zfle zJ_48 (sps := [(314, 2, qP_314), (41, 6, qP_41)]) (fun q hq => by
    simp only [List.mem_cons, List.not_mem_nil, or_false] at hq
    rcases hq with rfl | rfl
    · exact S314
    · exact S41) (fun as σ hl => ?_)
  match as, hl with
  | [a0], _ =>
  refine ⟨[], 400, ?_, ?_⟩
  · exact fun q hq => absurd hq List.not_mem_nil
  · refine fun o1 τ1 g1 => ?_
    obtain ⟨r1, rfl, g1⟩ := g1
    refine fun o2 τ2 g2 => ?_
    obtain ⟨rfl, g2⟩ := g2
    exact ⟨_, rfl, sp_48_e (q_r a0) σ τ1 r1 τ2 g1 g2⟩
noncomputable def p_64 (m : Nat) (σ σ' : zSg) : Prop := σ' = q_w σ m 2 (.int (Int32.ofInt 0))
theorem zJ_64 : zJ3 64 z_m64 z_c64 z_h64 := ⟨rfl, rfl, rfl⟩
theorem sp_64_e (a0 : Nat) (σ : zSg)  :
    p_64 (a0) σ (q_w σ a0 2 (.int (Int32.ofInt (0)))) := by
  rfl
noncomputable def qP_64 : zPp := fun as σ o σ' => match as with
  | [a0] => o = .inl none ∧ p_64 (q_r a0) σ σ'
  | _ => True
set_option maxRecDepth 100000 in
theorem sp_64 {sx : zX}  : zEe sx 64 1 qP_64 := by
  refine zfle zJ_64 (sps := []) (fun q hq => absurd hq List.not_mem_nil) (fun as σ hl => ?_)
  match as, hl with
  | [a0], _ =>
  refine ⟨[], 400, ?_, ?_⟩
  · exact fun q hq => absurd hq List.not_mem_nil
  · exact ⟨rfl, sp_64_e (q_r a0) σ ⟩
noncomputable def cLaw (σ : zSg) (L : Nat) (ls : List gLn4) (l : zSs) : Prop := σ.1 L 0 = .int (Int32.ofNat ls.length) ∧ σ.1 L 1 = .ref (L + 3) ∧ σ.1 L 2 = .ref (L + 4) ∧ σ.1 L 3 = .ref (L + 5) ∧ σ.1 L 4 = .ref (L + 1) ∧ σ.1 L 5 = .ref (L + 2) ∧ cLn σ (L + 3) (L + 4) (L + 5) ls ∧ σ.2.1 (L + 1) = l.length ∧ ∀ i x, l[i]? = some x → σ.1 (L + 1) i = .int (enc x)
noncomputable def cLw (σ : zSg) (x t r nw me C K0 K1 K2 B : Nat) (b : Nat → Int) (E : Nat) : Prop := σ.1 x 0 = .ref t ∧ σ.1 x 1 = .ref r ∧ σ.1 x 2 = .ref nw ∧ σ.1 x 5 = .ref me ∧ σ.1 t 0 = .ref B ∧ cA σ t r C K0 K1 K2 b E ∧ (σ.2.1 K0 = 12 ∧ σ.2.1 K1 = 12 ∧ σ.2.1 K2 = 12) ∧ (x < σ.2.2 ∧ t < σ.2.2 ∧ r < σ.2.2 ∧ nw < σ.2.2 ∧ me < σ.2.2 ∧ C < σ.2.2 ∧ K0 < σ.2.2 ∧ K1 < σ.2.2 ∧ K2 < σ.2.2) ∧ (x ≠ t ∧ x ≠ r ∧ x ≠ nw ∧ x ≠ me ∧ x ≠ C ∧ x ≠ K0 ∧ x ≠ K1 ∧ x ≠ K2) ∧ (nw ≠ t ∧ nw ≠ r ∧ nw ≠ me ∧ nw ≠ C ∧ nw ≠ K0 ∧ nw ≠ K1 ∧ nw ≠ K2) ∧ (me ≠ t ∧ me ≠ r ∧ me ≠ C ∧ me ≠ K0 ∧ me ≠ K1 ∧ me ≠ K2)
noncomputable def cFL (σ σ' : zSg) (x t r nw me C K0 K1 K2 : Nat) : Prop := σ.2.2 ≤ σ'.2.2 ∧ (∀ c, c < σ.2.2 → σ'.2.1 c = σ.2.1 c) ∧ ∀ c k, c < σ.2.2 → ¬ (c = x ∧ k = 7) → ¬ (c = t ∧ (k = 1 ∨ k = 2 ∨ k = 3)) → ¬ (c = r ∧ (k = 4 ∨ k = 5)) → c ≠ C → c ≠ K0 → c ≠ K1 → c ≠ K2 → ¬ (c = nw ∧ k = 5) → ¬ (c = me ∧ k = 2) → σ'.1 c k = σ.1 c k
abbrev cLo (σ' : zSg) (x nw me L : Nat) (e : Int32 ⊕ Nat) (R : (List gLn4 × zSs) ⊕ Nat) : Prop := match R with
  | .inl (ls, l) => e = .inl (Int32.ofNat ls.length) ∧ ls.length ≤ 12 ∧ l.length ≤ 400 ∧ σ'.1 x 7 = .int (Int32.ofInt (-1)) ∧ σ'.1 nw 5 = .ref L ∧ σ'.1 me 2 = .int (Int32.ofInt 0) ∧ cLaw σ' L ls l
  | .inr F => e = .inr 0 ∧ F ≤ 400 ∧ σ'.1 x 7 = .int (Int32.ofNat F) ∧ σ'.2.2 = L
noncomputable def p_121 (x : Nat) (σ : zSg) (e : Int32 ⊕ Nat) (σ' : zSg) : Prop := ∀ t r nw me C K0 K1 K2 B b E, cLw σ x t r nw me C K0 K1 K2 B b E → cFL σ σ' x t r nw me C K0 K1 K2 ∧ σ'.1 t 1 = .int (Int32.ofInt 0) ∧ ∃ R, GLaw b E R ∧ cLo σ' x nw me σ.2.2 e R
theorem sp_121_et (a0 : Nat) (σ : zSg) (τ1 : zSg) (r1 : Int32) (τ3 : zSg) (r3 : Nat) (τ4 : zSg) (g1 : p_47 (q_r (σ.1 a0 1)) (q_r (σ.1 a0 0)) σ r1 τ1) (h2 : (q_i ((q_w (q_w τ1 a0 7 (.int r1)) (q_r ((q_w τ1 a0 7 (.int r1)).1 a0 0)) 1 (.int (Int32.ofInt (0)))).1 a0 7)).toInt = (-1 : Int)) (g3 : p_48 (q_r ((q_w (q_w τ1 a0 7 (.int r1)) (q_r ((q_w τ1 a0 7 (.int r1)).1 a0 0)) 1 (.int (Int32.ofInt (0)))).1 a0 1)) (q_w (q_w τ1 a0 7 (.int r1)) (q_r ((q_w τ1 a0 7 (.int r1)).1 a0 0)) 1 (.int (Int32.ofInt (0)))) r3 τ3) (g4 : p_64 (q_r ((q_w τ3 (q_r (τ3.1 a0 2)) 5 (.ref r3)).1 a0 5)) (q_w τ3 (q_r (τ3.1 a0 2)) 5 (.ref r3)) τ4) :
    p_121 (a0) σ (.inl (q_i (τ4.1 r3 0))) τ4 := by
  intro t r nw me C K0 K1 K2 B b E H
  obtain ⟨x0, x1, x2, x5, t0, hA, ⟨l0, l1, l2⟩, ⟨n0, n1, n2, n3, n4, n5, n6, n7, n8⟩, ⟨d1, d2, d3, d4, d5, d6, d7, d8⟩, ⟨w1, w2, w3, w4, w5, w6, w7⟩, ⟨v1, v2, v3, v4, v5, v6⟩⟩ := H
  have qt : q_r (σ.1 a0 0) = t := by rw [x0]; rfl
  have qr : q_r (σ.1 a0 1) = r := by rw [x1]; rfl
  rw [qt, qr] at g1
  obtain ⟨hH, R, hR, hT⟩ := g1 C K0 K1 K2 b E hA
  have hN : τ1.2.2 = σ.2.2 := by rw [hH.1]
  have hx : ∀ k, τ1.1 a0 k = σ.1 a0 k := fun k => hH.2 a0 k (fun q => d1 q.1) (fun q => d2 q.1) d5 d6 d7 d8
  have hn : ∀ k, τ1.1 nw k = σ.1 nw k := fun k => hH.2 nw k (fun q => w1 q.1) (fun q => w2 q.1) w4 w5 w6 w7
  have hm : ∀ k, τ1.1 me k = σ.1 me k := fun k => hH.2 me k (fun q => v1 q.1) (fun q => v2 q.1) v3 v4 v5 v6
  have qt2 : q_r ((q_w τ1 a0 7 (.int r1)).1 a0 0) = t := by rw [q_w_ne (fun _ q => by omega), hx, x0]; rfl
  simp only [qt2] at *
  have e7 : (q_w (q_w τ1 a0 7 (.int r1)) t 1 (.int (Int32.ofInt 0))).1 a0 7 = .int r1 := by rw [q_w_ne (fun q _ => d1 q), q_w_at]
  rw [e7] at h2
  have hv : (r1).toInt = -1 := h2
  cases R with
  | inr F =>
    exfalso
    obtain ⟨eF, hF⟩ := hT
    rw [eF, o32 (by omega)] at hv
    omega
  | inl q =>
  obtain ⟨ls, l⟩ := q
  obtain ⟨-, hls, hl4, hl, hl5, hLn, hCd⟩ := hT
  generalize hS : q_w (q_w τ1 a0 7 (.int r1)) t 1 (.int (Int32.ofInt 0)) = S at *
  have eN : S.2.2 = σ.2.2 := by rw [← hS]; exact hN
  have eL : ∀ c, S.2.1 c = σ.2.1 c := by intro c; rw [← hS]; show τ1.2.1 c = σ.2.1 c; rw [hH.1]
  have gS : ∀ c k, c ≠ a0 → c ≠ t → S.1 c k = τ1.1 c k := by
    intro c k q1 q2
    rw [← hS, q_w_ne (fun e _ => q2 e), q_w_ne (fun e _ => q1 e)]
  obtain ⟨S9, hb, hD, hE⟩ := hA
  obtain ⟨hk0, hk1, hk2, -⟩ := hE.of hD.1 hD.2.2.2.1 hD.2.2.1 hH
  have hrt : r ≠ t := hD.1
  have qr2 : q_r (S.1 a0 1) = r := by rw [← hS, q_w_ne (fun q _ => d1 q), q_w_ne (fun _ q => by omega), hx, x1]; rfl
  rw [qr2] at g3
  have r0 : q_r (S.1 r 0) = K0 := by rw [gS r 0 (fun q => d2 q.symm) hrt]; exact hk0
  have r1 : q_r (S.1 r 1) = K1 := by rw [gS r 1 (fun q => d2 q.symm) hrt]; exact hk1
  have r2 : q_r (S.1 r 2) = K2 := by rw [gS r 2 (fun q => d2 q.symm) hrt]; exact hk2
  have r3 : q_r (S.1 r 3) = C := by
    rw [gS r 3 (fun q => d2 q.symm) hrt, hH.2 r 3 (fun q => hrt q.1) (fun q => by omega) (fun q => hD.2.2.2.1 q.symm) (fun q => hE.2.2.2.1.2.1 q.symm) (fun q => hE.2.2.2.2.1.2.1 q.symm) (fun q => hE.2.2.2.2.2.1.2.1 q.symm)]
    exact hD.2.1
  have r4 : q_i (S.1 r 4) = Int32.ofNat ls.length := by rw [gS r 4 (fun q => d2 q.symm) hrt, hl]; rfl
  have r5 : q_i (S.1 r 5) = Int32.ofNat l.length := by rw [gS r 5 (fun q => d2 q.symm) hrt, hl5]; rfl
  have hC4 : σ.2.1 C = 400 := hD.2.2.2.2.2.2
  have h48 := g3 (by rw [eN]; exact n2) (by rw [r0, eN]; exact n6) (by rw [r1, eN]; exact n7) (by rw [r2, eN]; exact n8) (by rw [r3, eN]; exact n5) (by rw [r0, eL, l0]; omega) (by rw [r1, eL, l1]; omega) (by rw [r2, eL, l2]; omega) (by rw [r3, eL, hC4]; omega)
  rw [r0, r1, r2, r3, r4, r5, eN] at h48
  obtain ⟨eq, fr, eN2, m0, m1, m2, m3, m4, m5, y0, y1, y2, y3⟩ := h48
  subst eq
  have qn : q_r (τ3.1 a0 2) = nw := by rw [fr.2.1 a0 2 (by rw [eN]; exact n0), ← hS, q_w_ne (fun q _ => d1 q), q_w_ne (fun _ q => by omega), hx, x2]; rfl
  rw [qn] at g4
  have qm : q_r ((q_w τ3 nw 5 (.ref σ.2.2)).1 a0 5) = me := by rw [q_w_ne (fun q _ => d3 q), fr.2.1 a0 5 (by rw [eN]; exact n0), ← hS, q_w_ne (fun q _ => d1 q), q_w_ne (fun _ q => by omega), hx, x5]; rfl
  rw [qm] at g4
  have eT : τ4 = q_w (q_w τ3 nw 5 (.ref σ.2.2)) me 2 (.int (Int32.ofInt 0)) := g4
  have hi : ∀ c k, σ.2.2 ≤ c → τ4.1 c k = τ3.1 c k := by
    intro c k hc
    rw [eT, q_w_ne (fun q _ => by omega), q_w_ne (fun q _ => by omega)]
  have hl9 : τ4.2 = τ3.2 := by rw [eT]; rfl
  have o12 : (Int32.ofNat ls.length).toNatClampNeg = ls.length := o32n (by omega)
  have o400 : (Int32.ofNat l.length).toNatClampNeg = l.length := o32n (by omega)
  have hlaw : cLaw τ4 σ.2.2 ls l := by
    refine ⟨by rw [hi _ _ (by omega)]; exact m0, by rw [hi _ _ (by omega)]; exact m1, by rw [hi _ _ (by omega)]; exact m2, by rw [hi _ _ (by omega)]; exact m3, by rw [hi _ _ (by omega)]; exact m4, by rw [hi _ _ (by omega)]; exact m5, fun i x hx' => ?_, ?_, fun i x hx' => ?_⟩
    · have hi9 : i < ls.length := (List.getElem?_eq_some_iff.mp hx').1
      obtain ⟨z0, z1, z2⟩ := hLn i x hx'
      rw [hi _ _ (by omega), hi _ _ (by omega), hi _ _ (by omega), y0.2 i (by omega) (by rw [eL, l0]; omega), y1.2 i (by omega) (by rw [eL, l1]; omega), y2.2 i (by omega) (by rw [eL, l2]; omega), gS K0 i (fun q => d6 q.symm) hE.2.2.2.1.1, gS K1 i (fun q => d7 q.symm) hE.2.2.2.2.1.1, gS K2 i (fun q => d8 q.symm) hE.2.2.2.2.2.1.1]
      exact ⟨z0, z1, z2⟩
    · rw [hl9, y3.1, o400]
    · have hi9 : i < l.length := (List.getElem?_eq_some_iff.mp hx').1
      rw [hi _ _ (by omega), y3.2 i (by omega) (by rw [eL, hC4]; omega), gS C i (fun q => d5 q.symm) hD.2.2.1]
      exact hCd i x hx'
  have ert : q_i (τ4.1 σ.2.2 0) = Int32.ofNat ls.length := by rw [hlaw.1]; rfl
  rw [ert]
  refine ⟨⟨by rw [hl9]; omega, fun c h => ?_, fun c k h q1 q2 q3 q4 q5 q6 q7 q8 q9 => ?_⟩, ?_, _, hR, rfl, hls, hl4, ?_, ?_, ?_, hlaw⟩
  · rw [hl9, fr.2.2 c (by rw [eN]; exact h)]; exact eL c
  · rw [eT, q_w_ne (fun e1 e2 => q9 ⟨e1, e2⟩), q_w_ne (fun e1 e2 => q8 ⟨e1, e2⟩), fr.2.1 c k (by rw [eN]; exact h), ← hS, q_w_ne (fun e1 e2 => q2 ⟨e1, by omega⟩), q_w_ne (fun e1 e2 => q1 ⟨e1, e2⟩)]
    exact hH.2 c k (fun q => q2 ⟨q.1, by omega⟩) (fun q => q3 ⟨q.1, by omega⟩) q4 q5 q6 q7
  · rw [eT, q_w_ne (fun q _ => v1 q.symm), q_w_ne (fun q _ => w1 q.symm), fr.2.1 t 1 (by rw [eN]; exact n1), ← hS, q_w_at]
  · rw [eT, q_w_ne (fun q _ => d4 q), q_w_ne (fun q _ => d3 q), fr.2.1 a0 7 (by rw [eN]; exact n0), e7]
    exact congrArg Value.int (Int32.toInt_inj.mp (hv.trans rfl))
  · rw [eT, q_w_ne (fun q _ => w3 q), q_w_at]
  · rw [eT, q_w_at]
theorem sp_121_ef (a0 : Nat) (σ : zSg) (τ1 : zSg) (r1 : Int32) (g1 : p_47 (q_r (σ.1 a0 1)) (q_r (σ.1 a0 0)) σ r1 τ1) (h2 : (q_i ((q_w (q_w τ1 a0 7 (.int r1)) (q_r ((q_w τ1 a0 7 (.int r1)).1 a0 0)) 1 (.int (Int32.ofInt (0)))).1 a0 7)).toInt ≠ (-1 : Int)) :
    p_121 (a0) σ (.inr 0) (q_w (q_w τ1 a0 7 (.int r1)) (q_r ((q_w τ1 a0 7 (.int r1)).1 a0 0)) 1 (.int (Int32.ofInt (0)))) := by
  intro t r nw me C K0 K1 K2 B b E H
  obtain ⟨x0, x1, x2, x5, t0, hA, ⟨l0, l1, l2⟩, ⟨n0, n1, n2, n3, n4, n5, n6, n7, n8⟩, ⟨d1, d2, d3, d4, d5, d6, d7, d8⟩, ⟨w1, w2, w3, w4, w5, w6, w7⟩, ⟨v1, v2, v3, v4, v5, v6⟩⟩ := H
  have qt : q_r (σ.1 a0 0) = t := by rw [x0]; rfl
  have qr : q_r (σ.1 a0 1) = r := by rw [x1]; rfl
  rw [qt, qr] at g1
  obtain ⟨hH, R, hR, hT⟩ := g1 C K0 K1 K2 b E hA
  have hN : τ1.2.2 = σ.2.2 := by rw [hH.1]
  have hx : ∀ k, τ1.1 a0 k = σ.1 a0 k := fun k => hH.2 a0 k (fun q => d1 q.1) (fun q => d2 q.1) d5 d6 d7 d8
  have hn : ∀ k, τ1.1 nw k = σ.1 nw k := fun k => hH.2 nw k (fun q => w1 q.1) (fun q => w2 q.1) w4 w5 w6 w7
  have hm : ∀ k, τ1.1 me k = σ.1 me k := fun k => hH.2 me k (fun q => v1 q.1) (fun q => v2 q.1) v3 v4 v5 v6
  have qt2 : q_r ((q_w τ1 a0 7 (.int r1)).1 a0 0) = t := by rw [q_w_ne (fun _ q => by omega), hx, x0]; rfl
  simp only [qt2] at *
  have e7 : (q_w (q_w τ1 a0 7 (.int r1)) t 1 (.int (Int32.ofInt 0))).1 a0 7 = .int r1 := by rw [q_w_ne (fun q _ => d1 q), q_w_at]
  rw [e7] at h2
  have hv : (r1).toInt ≠ -1 := h2
  cases R with
  | inl q => exact absurd hT.1 hv
  | inr F =>
    obtain ⟨eF, hF⟩ := hT
    refine ⟨⟨by show σ.2.2 ≤ τ1.2.2; omega, fun c h => by show τ1.2.1 c = σ.2.1 c; rw [hH.1], fun c k h q1 q2 q3 q4 q5 q6 q7 q8 q9 => ?_⟩, q_w_at _ _ _ _, _, hR, rfl, hF, by rw [e7, eF], hN⟩
    rw [q_w_ne (fun e1 e2 => q2 ⟨e1, by omega⟩), q_w_ne (fun e1 e2 => q1 ⟨e1, e2⟩)]
    exact hH.2 c k (fun q => q2 ⟨q.1, by omega⟩) (fun q => q3 ⟨q.1, by omega⟩) q4 q5 q6 q7
end
section
/-! a byte, as both sides cut it out of a number -/
theorem byS (x : Int32) : vp_nar .byte x = x.toInt8.toInt32 := rfl
theorem byT (y : BitVec 8) : y.toInt = if 128 ≤ (y.toNat : Int) then (y.toNat : Int) - 256 else (y.toNat : Int) := by
  rw [BitVec.toInt_eq_toNat_cond]
  have := y.isLt
  split <;> split <;> omega
theorem byC (a : BitVec 32) : ((a &&& 255#32).toInt) = (((a.setWidth 8).toNat : Nat) : Int) := by
  have h1 : (a &&& 255#32).toNat = a.toNat % 256 := by
    rw [BitVec.toNat_and]
    exact Nat.and_two_pow_sub_one_eq_mod a.toNat 8
  have h2 : (a.setWidth 8).toNat = a.toNat % 256 := BitVec.toNat_setWidth 8 a
  rw [BitVec.toInt_eq_toNat_cond, h1, h2]
  have := Nat.mod_lt a.toNat (show 256 > 0 by omega)
  split <;> omega
theorem byR (x : Int32) : (vp_nar .byte x.toInt8.toInt32).toInt = (x.toBitVec.setWidth 8).toInt := by
  rw [byS, Int8.toInt8_toInt32, Int8.toInt_toInt32]
  show x.toInt8.toBitVec.toInt = _
  rw [Int32.toBitVec_toInt8, BitVec.signExtend_eq_setWidth_of_le _ (by omega)]
theorem byH (x : BitVec 32) (n : Nat) (h : n ≤ 24) : (x.sshiftRight n).setWidth 8 = (x >>> n).setWidth 8 := by
  apply BitVec.eq_of_getLsbD_eq
  intro i hi
  rw [BitVec.getLsbD_setWidth, BitVec.getLsbD_setWidth, BitVec.getLsbD_sshiftRight, BitVec.getLsbD_ushiftRight]
  rw [if_pos (by omega), decide_eq_false (show ¬ 32 ≤ i by omega)]
  simp
/-- the shifts that occur -/
noncomputable def byN (n : Nat) : Prop := n = 0 ∨ n = 8 ∨ n = 16 ∨ n = 24
theorem byc {n : Nat} (v : Int32) (h : byN n) : (((v.toUInt32 >>> ((Int32.ofNat n).toUInt32 &&& Int32.toUInt32 31)).toInt32) &&& Int32.ofInt 255).toInt = (((v.toBitVec >>> n).setWidth 8).toNat : Int) := by
  rw [← byC]
  rcases h with rfl | rfl | rfl | rfl <;> rfl
theorem byr {n : Nat} (v : Int32) (h : byN n) : (vp_nar .byte (v >>> (Int32.ofNat n &&& 31)).toInt8.toInt32).toInt = ((v.toBitVec >>> n).setWidth 8).toInt := by
  rw [byR, ← byH _ _ (by rcases h with rfl | rfl | rfl | rfl <;> omega)]
  rcases h with rfl | rfl | rfl | rfl <;> rfl
/-- the one is the other, signed -/
theorem byQ {n : Nat} (v : Int32) (h : byN n) : (vp_nar .byte (v >>> (Int32.ofNat n &&& 31)).toInt8.toInt32).toInt = if 128 ≤ (((v.toUInt32 >>> ((Int32.ofNat n).toUInt32 &&& Int32.toUInt32 31)).toInt32) &&& Int32.ofInt 255).toInt then (((v.toUInt32 >>> ((Int32.ofNat n).toUInt32 &&& Int32.toUInt32 31)).toInt32) &&& Int32.ofInt 255).toInt - 256 else (((v.toUInt32 >>> ((Int32.ofNat n).toUInt32 &&& Int32.toUInt32 31)).toInt32) &&& Int32.ofInt 255).toInt := by
  rw [byr v h, byc v h, byT]
theorem byB {n : Nat} (v : Int32) (h : byN n) : 0 ≤ (((v.toUInt32 >>> ((Int32.ofNat n).toUInt32 &&& Int32.toUInt32 31)).toInt32) &&& Int32.ofInt 255).toInt ∧ (((v.toUInt32 >>> ((Int32.ofNat n).toUInt32 &&& Int32.toUInt32 31)).toInt32) &&& Int32.ofInt 255).toInt ≤ 255 := by
  rw [byc v h]
  have := ((v.toBitVec >>> n).setWidth 8).isLt
  omega
end
section
/-! feed, exact; printed with wip/gen/gen_ta.py -/
noncomputable def cby (v : Int32) (n : Nat) : Int32 := ((v.toUInt32 >>> ((Int32.ofNat n).toUInt32 &&& Int32.toUInt32 31)).toInt32) &&& Int32.ofInt 255
noncomputable def rby (v : Int32) (n : Nat) : Int32 := vp_nar .byte (v >>> (Int32.ofNat n &&& 31)).toInt8.toInt32
theorem cby_rby {n : Nat} (v : Int32) (h : byN n) : (rby v n).toInt = if 128 ≤ (cby v n).toInt then (cby v n).toInt - 256 else (cby v n).toInt := byQ v h
theorem cby_le {n : Nat} (v : Int32) (h : byN n) : 0 ≤ (cby v n).toInt ∧ (cby v n).toInt ≤ 255 := byB v h
noncomputable def cAp (σ : zSg) (t B E : Nat) (f : Nat → Int32) (j : Nat) : zSg := (fun c k => if c = B ∧ E ≤ k ∧ k < E + j then .int (f (k - E)) else if c = t ∧ k = 1 then .int (Int32.ofNat (E + j)) else σ.1 c k, σ.2)
theorem cAp_0 {σ : zSg} {t B E : Nat} {f : Nat → Int32} (h : σ.1 t 1 = .int (Int32.ofNat E)) : cAp σ t B E f 0 = σ := by
  refine Prod.ext ?_ rfl
  funext c k
  show (if c = B ∧ E ≤ k ∧ k < E + 0 then _ else if c = t ∧ k = 1 then _ else σ.1 c k) = _
  rw [if_neg (fun q => by omega)]
  by_cases hq : c = t ∧ k = 1
  · rw [if_pos hq, hq.1, hq.2, h]; rfl
  · rw [if_neg hq]
theorem cAp_s {σ : zSg} {t B E j : Nat} {f : Nat → Int32} (hB : B ≠ t) : q_w (q_w (cAp σ t B E f j) B (E + j) (.int (f j))) t 1 (.int (Int32.ofNat (E + j + 1))) = cAp σ t B E f (j + 1) := by
  refine Prod.ext ?_ rfl
  funext c k
  show _ = (if c = B ∧ E ≤ k ∧ k < E + (j + 1) then Value.int (f (k - E)) else if c = t ∧ k = 1 then .int (Int32.ofNat (E + (j + 1))) else σ.1 c k)
  by_cases h1 : c = t ∧ k = 1
  · obtain ⟨rfl, rfl⟩ := h1
    rw [q_w_at, if_neg (fun q => hB q.1.symm), if_pos ⟨rfl, rfl⟩]
    rfl
  · rw [q_w_ne (fun e1 e2 => h1 ⟨e1, e2⟩)]
    by_cases h2 : c = B ∧ k = E + j
    · obtain ⟨rfl, rfl⟩ := h2
      rw [q_w_at, if_pos ⟨rfl, by omega, by omega⟩, show E + j - E = j by omega]
    · rw [q_w_ne (fun e1 e2 => h2 ⟨e1, e2⟩)]
      show (if c = B ∧ E ≤ k ∧ k < E + j then Value.int (f (k - E)) else if c = t ∧ k = 1 then _ else σ.1 c k) = _
      rw [if_neg h1, if_neg h1]
      by_cases h3 : c = B ∧ E ≤ k ∧ k < E + j
      · rw [if_pos h3, if_pos ⟨h3.1, h3.2.1, by omega⟩]
      · rw [if_neg h3, if_neg (fun q => h3 ⟨q.1, q.2.1, by have := fun e => h2 ⟨q.1, e⟩; omega⟩)]
theorem cAp_t {σ : zSg} {t B E j : Nat} {f : Nat → Int32} (hB : B ≠ t) : (cAp σ t B E f j).1 t 1 = .int (Int32.ofNat (E + j)) := by
  show (if t = B ∧ _ then _ else if t = t ∧ 1 = 1 then _ else _) = _
  rw [if_neg (fun q => hB q.1.symm), if_pos ⟨rfl, rfl⟩]
theorem cAp_ne {σ : zSg} {t B E j c k : Nat} {f : Nat → Int32} (h1 : ¬ (c = B ∧ E ≤ k ∧ k < E + j)) (h2 : ¬ (c = t ∧ k = 1)) : (cAp σ t B E f j).1 c k = σ.1 c k := by
  show (if c = B ∧ E ≤ k ∧ k < E + j then _ else if c = t ∧ k = 1 then _ else σ.1 c k) = _
  rw [if_neg h1, if_neg h2]
theorem cAp_at {σ : zSg} {t B E j i : Nat} {f : Nat → Int32} (h : i < j) : (cAp σ t B E f j).1 B (E + i) = .int (f i) := by
  show (if B = B ∧ E ≤ E + i ∧ E + i < E + j then Value.int (f (E + i - E)) else _) = _
  rw [if_pos ⟨rfl, by omega, by omega⟩, show E + i - E = i by omega]
noncomputable def p_85 (t : Nat) (v : Int32) (σ σ' : zSg) : Prop := ∀ B E : Nat, σ.1 t 0 = .ref B → B ≠ t → σ.1 t 1 = .int (Int32.ofNat E) → E + 4 ≤ 400 → σ' = cAp σ t B E (fun i => cby v (24 - 8 * i)) 4
noncomputable def i_85 (t : Nat) (v : Int32) (σ : zSg) (l0 : Nat) (l1 s : Int32) (τ : zSg) : Prop := l0 = t ∧ l1 = v ∧ ∀ B E : Nat, σ.1 t 0 = .ref B → B ≠ t → σ.1 t 1 = .int (Int32.ofNat E) → E + 4 ≤ 400 → ∃ j : Nat, j ≤ 4 ∧ s.toInt = 24 - 8 * (j : Int) ∧ τ = cAp σ t B E (fun i => cby v (24 - 8 * i)) j
theorem sp_85_e (a0 : Nat) (a1 : Int32) (σ : zSg)  :
    i_85 a0 a1 σ a0 a1 (Int32.ofInt (24)) σ := by
  exact ⟨rfl, rfl, fun B E h0 hB h1 hE => ⟨0, by omega, rfl, (cAp_0 h1).symm⟩⟩
theorem sp_85_c2_t (a0 : Nat) (a1 : Int32) (σ : zSg) (l0 : Nat) (l1 : Int32) (l2 : Int32) (τ : zSg) (hI : i_85 a0 a1 σ l0 l1 l2 τ) (h1 : l2.toInt < (0 : Int)) :
    p_85 (a0) (a1) σ τ := by
  obtain ⟨rfl, rfl, G⟩ := hI
  intro B E h0 hB h1' hE
  obtain ⟨j, hj, hs, rfl⟩ := G B E h0 hB h1' hE
  have : j = 4 := by omega
  rw [this]
theorem sp_85_c2_ft (a0 : Nat) (a1 : Int32) (σ : zSg) (l0 : Nat) (l1 : Int32) (l2 : Int32) (τ : zSg) (hI : i_85 a0 a1 σ l0 l1 l2 τ) (h1 : l2.toInt ≥ (0 : Int)) (h2 : (q_i (τ.1 l0 1)).toInt ≥ (400 : Int)) :
    p_85 (a0) (a1) σ τ := by
  obtain ⟨rfl, rfl, G⟩ := hI
  intro B E h0 hB h1' hE
  obtain ⟨j, hj, hs, rfl⟩ := G B E h0 hB h1' hE
  exfalso
  rw [cAp_t hB] at h2
  have h9 : (Int32.ofNat (E + j)).toInt ≥ 400 := h2
  rw [o32 (by omega)] at h9
  omega
theorem sp_85_c2_ff (a0 : Nat) (a1 : Int32) (σ : zSg) (l0 : Nat) (l1 : Int32) (l2 : Int32) (τ : zSg) (hI : i_85 a0 a1 σ l0 l1 l2 τ) (h1 : l2.toInt ≥ (0 : Int)) (h2 : (q_i (τ.1 l0 1)).toInt < (400 : Int)) (h3 : 0 ≤ (q_i (τ.1 l0 1)).toInt ∧ (q_i (τ.1 l0 1)).toInt < (τ.2.1 (q_r (τ.1 l0 0)) : Int)) :
    i_85 a0 a1 σ l0 l1 (l2 + Int32.ofInt (-8)) (q_w (q_w τ (q_r (τ.1 l0 0)) (q_i (τ.1 l0 1)).toNatClampNeg (.int (((l1.toUInt32 >>> (l2.toUInt32 &&& Int32.toUInt32 31)).toInt32) &&& (Int32.ofInt (255))))) l0 1 (.int ((q_i ((q_w τ (q_r (τ.1 l0 0)) (q_i (τ.1 l0 1)).toNatClampNeg (.int (((l1.toUInt32 >>> (l2.toUInt32 &&& Int32.toUInt32 31)).toInt32) &&& (Int32.ofInt (255))))).1 l0 1)) + (Int32.ofInt (1))))) := by
  obtain ⟨rfl, rfl, G⟩ := hI
  refine ⟨rfl, rfl, fun B E h0 hB h1' hE => ?_⟩
  obtain ⟨j, hj, hs, rfl⟩ := G B E h0 hB h1' hE
  have hj4 : j < 4 := by omega
  have q0 : q_r ((cAp σ l0 B E (fun i => cby l1 (24 - 8 * i)) j).1 l0 0) = B := by
    rw [cAp_ne (fun q => hB q.1.symm) (fun q => by omega), h0]; rfl
  have q1 : q_i ((cAp σ l0 B E (fun i => cby l1 (24 - 8 * i)) j).1 l0 1) = Int32.ofNat (E + j) := by rw [cAp_t hB]; rfl
  have el : l2 = Int32.ofNat (24 - 8 * j) := Int32.toInt_inj.mp (by rw [hs, o32 (by omega)]; omega)
  have q2 : ∀ v, q_i ((q_w (cAp σ l0 B E (fun i => cby l1 (24 - 8 * i)) j) B (E + j) v).1 l0 1) = Int32.ofNat (E + j) := fun v => by rw [q_w_ne (fun q _ => hB q.symm)]; exact q1
  refine ⟨j + 1, by omega, ?_, ?_⟩
  · rw [zI_add hs (zI_c (n := -8) (by omega) (by omega)) (by omega) (by omega)]
    omega
  · rw [q0, q1, o32n (by omega), q2, o32i (by omega), ← cAp_s hB, el]
    rfl
noncomputable def qP_85 : zPp := fun as σ o σ' => match as with
  | [a0, a1] => o = .inl none ∧ p_85 (q_r a0) (q_i a1) σ σ'
  | _ => True
set_option maxRecDepth 100000 in
theorem sp_85 {sx : zX}  : zEe sx 85 2 qP_85 := by
  refine zfle zJ_85 (sps := []) (fun q hq => absurd hq List.not_mem_nil) (fun as σ hl => ?_)
  match as, hl with
  | [a0, a1], _ =>
  refine ⟨[(2, fun lo st τ => st = [] ∧ i_85 (q_r a0) (q_i a1) σ (q_r (lo 0)) (q_i (lo 1)) (q_i (lo 2)) τ)], 400, ?_, ?_⟩
  · intro q hq
    simp only [List.mem_cons, List.not_mem_nil, or_false] at hq
    rcases hq with rfl
    · rintro lo st τ ⟨rfl, hI⟩
      refine ⟨400, ?_⟩
      refine And.intro (fun h1 => ?_) (fun h1 => ?_)
      · exact ⟨rfl, sp_85_c2_t (q_r a0) (q_i a1) σ (q_r (lo 0)) (q_i (lo 1)) (q_i (lo 2)) τ hI (cm2t h1)⟩
      · refine And.intro (fun h2 => ?_) (fun h2 => ?_)
        · exact ⟨rfl, sp_85_c2_ft (q_r a0) (q_i a1) σ (q_r (lo 0)) (q_i (lo 1)) (q_i (lo 2)) τ hI (cm2f h1) (cm3t h2)⟩
        · refine fun h3 => ?_
          exact ⟨rfl, sp_85_c2_ff (q_r a0) (q_i a1) σ (q_r (lo 0)) (q_i (lo 1)) (q_i (lo 2)) τ hI (cm2f h1) (cm3f h2) (q_inp h3)⟩
  · exact ⟨rfl, sp_85_e (q_r a0) (q_i a1) σ ⟩
noncomputable def vf (a b c d e : Int32) (k : Nat) : Int32 := [a, b, c, d, e].getD (k / 4) 0
theorem cAp_c {σ : zSg} {t B E m n : Nat} {f g : Nat → Int32} (hB : B ≠ t) : cAp (cAp σ t B E f m) t B (E + m) g n = cAp σ t B E (fun i => if i < m then f i else g (i - m)) (m + n) := by
  refine Prod.ext ?_ rfl
  funext c k
  show (if c = B ∧ E + m ≤ k ∧ k < E + m + n then Value.int (g (k - (E + m))) else if c = t ∧ k = 1 then .int (Int32.ofNat (E + m + n)) else if c = B ∧ E ≤ k ∧ k < E + m then .int (f (k - E)) else if c = t ∧ k = 1 then _ else σ.1 c k) = if c = B ∧ E ≤ k ∧ k < E + (m + n) then Value.int (if k - E < m then f (k - E) else g (k - E - m)) else if c = t ∧ k = 1 then .int (Int32.ofNat (E + (m + n))) else σ.1 c k
  by_cases hc : c = B
  · subst hc
    have ht : ¬ (c = t ∧ k = 1) := fun q => hB q.1
    rw [if_neg ht, if_neg ht, if_neg ht]
    by_cases h1 : E + m ≤ k ∧ k < E + m + n
    · rw [if_pos ⟨rfl, h1⟩, if_pos ⟨rfl, by omega, by omega⟩, if_neg (by omega), show k - (E + m) = k - E - m by omega]
    · rw [if_neg (fun q => h1 q.2)]
      by_cases h2 : E ≤ k ∧ k < E + m
      · rw [if_pos ⟨rfl, h2⟩, if_pos ⟨rfl, by omega, by omega⟩, if_pos (by omega)]
      · rw [if_neg (fun q => h2 q.2), if_neg (fun q => by omega)]
  · have n1 : ∀ p : Prop, ¬ (c = B ∧ p) := fun p q => hc q.1
    rw [if_neg (n1 _), if_neg (n1 _), if_neg (n1 _)]
    by_cases ht : c = t ∧ k = 1
    · rw [if_pos ht, if_pos ht, Nat.add_assoc]
    · rw [if_neg ht, if_neg ht, if_neg ht]
noncomputable def cFv (a b c d e : Int32) (k : Nat) : Int32 := cby (vf a b c d e k) (24 - 8 * (k % 4))
noncomputable def p_118 (x : Nat) (a b c d e : Int32) (σ : zSg) (r : Int32) (σ' : zSg) : Prop := ∀ t B E : Nat, σ.1 x 0 = .ref t → σ.1 t 0 = .ref B → B ≠ t → x ≠ t → x ≠ B → σ.1 t 1 = .int (Int32.ofNat E) → E ≤ 400 → (E + 20 ≤ 400 → r = Int32.ofNat (E + 20) ∧ σ' = cAp σ t B E (cFv a b c d e) 20) ∧ (400 < E + 20 → r.toInt = -1 ∧ σ' = σ)
theorem cAp_x {σ : zSg} {t B E j : Nat} {f g : Nat → Int32} (h : ∀ i, i < j → f i = g i) : cAp σ t B E f j = cAp σ t B E g j := by
  refine Prod.ext ?_ rfl
  funext c k
  show (if c = B ∧ E ≤ k ∧ k < E + j then Value.int (f (k - E)) else _) = if c = B ∧ E ≤ k ∧ k < E + j then Value.int (g (k - E)) else _
  by_cases h1 : c = B ∧ E ≤ k ∧ k < E + j
  · rw [if_pos h1, if_pos h1, h _ (by omega)]
  · rw [if_neg h1, if_neg h1]
theorem sp_118_et (a0 : Nat) (a1 : Int32) (a2 : Int32) (a3 : Int32) (a4 : Int32) (a5 : Int32) (σ : zSg) (τ2 : zSg) (τ3 : zSg) (τ4 : zSg) (τ5 : zSg) (τ6 : zSg) (h1 : ((q_i (σ.1 (q_r (σ.1 a0 0)) 1)) + (Int32.ofInt (20))).toInt ≤ (400 : Int)) (g2 : p_85 (q_r (σ.1 a0 0)) a1 σ τ2) (g3 : p_85 (q_r (τ2.1 a0 0)) a2 τ2 τ3) (g4 : p_85 (q_r (τ3.1 a0 0)) a3 τ3 τ4) (g5 : p_85 (q_r (τ4.1 a0 0)) a4 τ4 τ5) (g6 : p_85 (q_r (τ5.1 a0 0)) a5 τ5 τ6) :
    p_118 (a0) (a1) (a2) (a3) (a4) (a5) σ (q_i (τ6.1 (q_r (τ6.1 a0 0)) 1)) τ6 := by
  intro t B E hx ht hB hxt hxB hl hE
  have e0 : q_r (σ.1 a0 0) = t := by rw [hx]; rfl
  rw [e0, hl] at h1
  have e1 : (Int32.ofNat E + Int32.ofInt 20).toInt = (E : Int) + 20 := zI_add (o32 (by omega)) (zI_c (by omega) (by omega)) (by omega) (by omega)
  have HX : (Int32.ofNat E + Int32.ofInt 20).toInt ≤ 400 := h1
  rw [e1] at HX
  refine ⟨fun _ => ?_, fun q => by omega⟩
  rw [e0] at g2
  obtain rfl := g2 B E ht hB hl (by omega)
  have kx : ∀ E' f j, q_r ((cAp σ t B E' f j).1 a0 0) = t := fun E' f j => by rw [cAp_ne (fun q => hxB q.1) (fun q => hxt q.1)]; exact e0
  have kt : ∀ E' f j, (cAp σ t B E' f j).1 t 0 = .ref B := fun E' f j => by rw [cAp_ne (fun q => hB q.1.symm) (fun q => by omega)]; exact ht
  rw [kx] at g3
  obtain rfl := g3 B (E + 4) (kt _ _ _) hB (cAp_t hB) (by omega)
  rw [cAp_c hB] at g4
  rw [kx] at g4
  obtain rfl := g4 B (E + 8) (kt _ _ _) hB (cAp_t hB) (by omega)
  rw [cAp_c hB] at g5
  rw [kx] at g5
  obtain rfl := g5 B (E + 12) (kt _ _ _) hB (cAp_t hB) (by omega)
  rw [cAp_c hB] at g6
  rw [kx] at g6
  obtain rfl := g6 B (E + 16) (kt _ _ _) hB (cAp_t hB) (by omega)
  rw [cAp_c hB]
  have q1 : ∀ f, q_i ((cAp σ t B E f (4 + 4 + 4 + 4 + 4)).1 (q_r ((cAp σ t B E f (4 + 4 + 4 + 4 + 4)).1 a0 0)) 1) = Int32.ofNat (E + 20) := fun f => by
    rw [kx]
    rw [cAp_t hB]
    rfl
  refine ⟨q1 _, cAp_x (fun i hi => ?_)⟩
  match i, hi with
  | 0, _ => rfl
  | 1, _ => rfl
  | 2, _ => rfl
  | 3, _ => rfl
  | 4, _ => rfl
  | 5, _ => rfl
  | 6, _ => rfl
  | 7, _ => rfl
  | 8, _ => rfl
  | 9, _ => rfl
  | 10, _ => rfl
  | 11, _ => rfl
  | 12, _ => rfl
  | 13, _ => rfl
  | 14, _ => rfl
  | 15, _ => rfl
  | 16, _ => rfl
  | 17, _ => rfl
  | 18, _ => rfl
  | 19, _ => rfl
  | i + 20, h => omega
theorem sp_118_ef (a0 : Nat) (a1 : Int32) (a2 : Int32) (a3 : Int32) (a4 : Int32) (a5 : Int32) (σ : zSg) (h1 : ((q_i (σ.1 (q_r (σ.1 a0 0)) 1)) + (Int32.ofInt (20))).toInt > (400 : Int)) :
    p_118 (a0) (a1) (a2) (a3) (a4) (a5) σ (Int32.ofInt (-1)) σ := by
  intro t B E hx ht hB hxt hxB hl hE
  have e0 : q_r (σ.1 a0 0) = t := by rw [hx]; rfl
  rw [e0, hl] at h1
  have e1 : (Int32.ofNat E + Int32.ofInt 20).toInt = (E : Int) + 20 := zI_add (o32 (by omega)) (zI_c (by omega) (by omega)) (by omega) (by omega)
  have HX : (Int32.ofNat E + Int32.ofInt 20).toInt > 400 := h1
  rw [e1] at HX
  exact ⟨fun q => by omega, fun _ => ⟨rfl, rfl⟩⟩
noncomputable def qP_118 : zPp := fun as σ o σ' => match as with
  | [a0, a1, a2, a3, a4, a5] => ∃ r, o = .inl (some (.int r)) ∧ p_118 (q_r a0) (q_i a1) (q_i a2) (q_i a3) (q_i a4) (q_i a5) σ r σ'
  | _ => True
set_option maxRecDepth 100000 in
theorem sp_118 {sx : zX} (S85 : zEe sx 85 2 qP_85) : zEe sx 118 6 qP_118 := by
  refine zfle zJ_118 (sps := [(85, 2, qP_85)]) (fun q hq => by
    simp only [List.mem_cons, List.not_mem_nil, or_false] at hq
    rcases hq with rfl
    · exact S85) (fun as σ hl => ?_)
  match as, hl with
  | [a0, a1, a2, a3, a4, a5], _ =>
  refine ⟨[], 400, ?_, ?_⟩
  · exact fun q hq => absurd hq List.not_mem_nil
  · refine And.intro (fun h1 => ?_) (fun h1 => ?_)
    · refine fun o2 τ2 g2 => ?_
      obtain ⟨rfl, g2⟩ := g2
      refine fun o3 τ3 g3 => ?_
      obtain ⟨rfl, g3⟩ := g3
      refine fun o4 τ4 g4 => ?_
      obtain ⟨rfl, g4⟩ := g4
      refine fun o5 τ5 g5 => ?_
      obtain ⟨rfl, g5⟩ := g5
      refine fun o6 τ6 g6 => ?_
      obtain ⟨rfl, g6⟩ := g6
      exact ⟨_, rfl, sp_118_et (q_r a0) (q_i a1) (q_i a2) (q_i a3) (q_i a4) (q_i a5) σ τ2 τ3 τ4 τ5 τ6 (cm5t h1) g2 g3 g4 g5 g6⟩
    · exact ⟨_, rfl, sp_118_ef (q_r a0) (q_i a1) (q_i a2) (q_i a3) (q_i a4) (q_i a5) σ (cm5f h1)⟩
noncomputable def rFv (a b c d e : Int32) (k : Nat) : Int32 := rby (vf a b c d e k) (24 - 8 * (k % 4))
theorem rK20 : (List.range 20).all (fun K => decide ((Int32.ofNat K / Int32.ofInt 4).toNatClampNeg = K / 4) && decide ((Int32.ofInt 24 - Int32.ofInt 8 * (Int32.ofNat K - Int32.ofNat K / Int32.ofInt 4 * Int32.ofInt 4)) = Int32.ofNat (24 - 8 * (K % 4)))) = true := by decide +kernel
theorem rK {K : Nat} (h : K < 20) : (Int32.ofNat K / Int32.ofInt 4).toNatClampNeg = K / 4 ∧ (Int32.ofInt 24 - Int32.ofInt 8 * (Int32.ofNat K - Int32.ofNat K / Int32.ofInt 4 * Int32.ofInt 4)) = Int32.ofNat (24 - 8 * (K % 4)) := by
  have := List.all_eq_true.mp rK20 K (List.mem_range.mpr h)
  rw [Bool.and_eq_true, decide_eq_true_eq, decide_eq_true_eq] at this
  exact this
noncomputable def rFd (σ : zSg) (a B F E : Nat) : Prop := σ.1 a 8 = .ref B ∧ σ.1 a 15 = .ref F ∧ B ≠ a ∧ F ≠ a ∧ F ≠ B ∧ σ.1 a 9 = .int (Int32.ofNat E) ∧ E ≤ 400
noncomputable def rFf (σ σ' : zSg) (a B F E K : Nat) : Prop := σ'.2 = σ.2 ∧ ∀ c k, ¬ (c = a ∧ (k = 0 ∨ k = 9)) → ¬ (c = B ∧ E ≤ k ∧ k < E + K) → c ≠ F → σ'.1 c k = σ.1 c k
noncomputable def p_199 (a : Nat) (v1 v2 v3 v4 v5 : Int32) (σ : zSg) (r : Int32) (σ' : zSg) : Prop := ∀ B F E, rFd σ a B F E → (E + 20 ≤ 400 → r = Int32.ofNat (E + 20) ∧ rFf σ σ' a B F E 20 ∧ σ'.1 a 0 = .int (Int32.ofInt 0) ∧ σ'.1 a 9 = .int (Int32.ofNat (E + 20)) ∧ ∀ k, k < 20 → σ'.1 B (E + k) = .int (rFv v1 v2 v3 v4 v5 k)) ∧ (400 < E + 20 → r.toInt = -1 ∧ σ' = q_w σ a 0 (.int (Int32.ofInt 0)))
noncomputable def i_199 (a : Nat) (v1 v2 v3 v4 v5 : Int32) (σ : zSg) (l0 : Nat) (l6 : Int32) (τ : zSg) : Prop := l0 = a ∧ ∀ B F E, rFd σ a B F E → E + 20 ≤ 400 ∧ ∃ K, K ≤ 20 ∧ l6 = Int32.ofNat K ∧ rFf σ τ a B F E K ∧ τ.1 a 0 = .int (Int32.ofInt 0) ∧ τ.1 a 9 = .int (Int32.ofNat E) ∧ (∀ i, i < 5 → τ.1 F i = .int (vf v1 v2 v3 v4 v5 (4 * i))) ∧ ∀ k, k < K → τ.1 B (E + k) = .int (rFv v1 v2 v3 v4 v5 k)
theorem vf_d {a b c d e : Int32} {k : Nat} : vf a b c d e (4 * (k / 4)) = vf a b c d e k := by
  unfold vf
  rw [Nat.mul_div_cancel_left _ (by omega)]
theorem sp_199_et (a0 : Nat) (a1 : Int32) (a2 : Int32) (a3 : Int32) (a4 : Int32) (a5 : Int32) (σ : zSg) (h1 : ((q_i ((q_w σ a0 0 (.int (Int32.ofInt (0)))).1 a0 9)) + (Int32.ofInt (20))).toInt ≤ (400 : Int)) (h2 : 0 ≤ (Int32.ofInt (0)).toInt ∧ (Int32.ofInt (0)).toInt < ((q_w σ a0 0 (.int (Int32.ofInt (0)))).2.1 (q_r ((q_w σ a0 0 (.int (Int32.ofInt (0)))).1 a0 15)) : Int)) (h3 : 0 ≤ (Int32.ofInt (1)).toInt ∧ (Int32.ofInt (1)).toInt < ((q_w (q_w σ a0 0 (.int (Int32.ofInt (0)))) (q_r ((q_w σ a0 0 (.int (Int32.ofInt (0)))).1 a0 15)) (Int32.ofInt (0)).toNatClampNeg (.int a1)).2.1 (q_r ((q_w (q_w σ a0 0 (.int (Int32.ofInt (0)))) (q_r ((q_w σ a0 0 (.int (Int32.ofInt (0)))).1 a0 15)) (Int32.ofInt (0)).toNatClampNeg (.int a1)).1 a0 15)) : Int)) (h4 : 0 ≤ (Int32.ofInt (2)).toInt ∧ (Int32.ofInt (2)).toInt < ((q_w (q_w (q_w σ a0 0 (.int (Int32.ofInt (0)))) (q_r ((q_w σ a0 0 (.int (Int32.ofInt (0)))).1 a0 15)) (Int32.ofInt (0)).toNatClampNeg (.int a1)) (q_r ((q_w (q_w σ a0 0 (.int (Int32.ofInt (0)))) (q_r ((q_w σ a0 0 (.int (Int32.ofInt (0)))).1 a0 15)) (Int32.ofInt (0)).toNatClampNeg (.int a1)).1 a0 15)) (Int32.ofInt (1)).toNatClampNeg (.int a2)).2.1 (q_r ((q_w (q_w (q_w σ a0 0 (.int (Int32.ofInt (0)))) (q_r ((q_w σ a0 0 (.int (Int32.ofInt (0)))).1 a0 15)) (Int32.ofInt (0)).toNatClampNeg (.int a1)) (q_r ((q_w (q_w σ a0 0 (.int (Int32.ofInt (0)))) (q_r ((q_w σ a0 0 (.int (Int32.ofInt (0)))).1 a0 15)) (Int32.ofInt (0)).toNatClampNeg (.int a1)).1 a0 15)) (Int32.ofInt (1)).toNatClampNeg (.int a2)).1 a0 15)) : Int)) (h5 : 0 ≤ (Int32.ofInt (3)).toInt ∧ (Int32.ofInt (3)).toInt < ((q_w (q_w (q_w (q_w σ a0 0 (.int (Int32.ofInt (0)))) (q_r ((q_w σ a0 0 (.int (Int32.ofInt (0)))).1 a0 15)) (Int32.ofInt (0)).toNatClampNeg (.int a1)) (q_r ((q_w (q_w σ a0 0 (.int (Int32.ofInt (0)))) (q_r ((q_w σ a0 0 (.int (Int32.ofInt (0)))).1 a0 15)) (Int32.ofInt (0)).toNatClampNeg (.int a1)).1 a0 15)) (Int32.ofInt (1)).toNatClampNeg (.int a2)) (q_r ((q_w (q_w (q_w σ a0 0 (.int (Int32.ofInt (0)))) (q_r ((q_w σ a0 0 (.int (Int32.ofInt (0)))).1 a0 15)) (Int32.ofInt (0)).toNatClampNeg (.int a1)) (q_r ((q_w (q_w σ a0 0 (.int (Int32.ofInt (0)))) (q_r ((q_w σ a0 0 (.int (Int32.ofInt (0)))).1 a0 15)) (Int32.ofInt (0)).toNatClampNeg (.int a1)).1 a0 15)) (Int32.ofInt (1)).toNatClampNeg (.int a2)).1 a0 15)) (Int32.ofInt (2)).toNatClampNeg (.int a3)).2.1 (q_r ((q_w (q_w (q_w (q_w σ a0 0 (.int (Int32.ofInt (0)))) (q_r ((q_w σ a0 0 (.int (Int32.ofInt (0)))).1 a0 15)) (Int32.ofInt (0)).toNatClampNeg (.int a1)) (q_r ((q_w (q_w σ a0 0 (.int (Int32.ofInt (0)))) (q_r ((q_w σ a0 0 (.int (Int32.ofInt (0)))).1 a0 15)) (Int32.ofInt (0)).toNatClampNeg (.int a1)).1 a0 15)) (Int32.ofInt (1)).toNatClampNeg (.int a2)) (q_r ((q_w (q_w (q_w σ a0 0 (.int (Int32.ofInt (0)))) (q_r ((q_w σ a0 0 (.int (Int32.ofInt (0)))).1 a0 15)) (Int32.ofInt (0)).toNatClampNeg (.int a1)) (q_r ((q_w (q_w σ a0 0 (.int (Int32.ofInt (0)))) (q_r ((q_w σ a0 0 (.int (Int32.ofInt (0)))).1 a0 15)) (Int32.ofInt (0)).toNatClampNeg (.int a1)).1 a0 15)) (Int32.ofInt (1)).toNatClampNeg (.int a2)).1 a0 15)) (Int32.ofInt (2)).toNatClampNeg (.int a3)).1 a0 15)) : Int)) (h6 : 0 ≤ (Int32.ofInt (4)).toInt ∧ (Int32.ofInt (4)).toInt < ((q_w (q_w (q_w (q_w (q_w σ a0 0 (.int (Int32.ofInt (0)))) (q_r ((q_w σ a0 0 (.int (Int32.ofInt (0)))).1 a0 15)) (Int32.ofInt (0)).toNatClampNeg (.int a1)) (q_r ((q_w (q_w σ a0 0 (.int (Int32.ofInt (0)))) (q_r ((q_w σ a0 0 (.int (Int32.ofInt (0)))).1 a0 15)) (Int32.ofInt (0)).toNatClampNeg (.int a1)).1 a0 15)) (Int32.ofInt (1)).toNatClampNeg (.int a2)) (q_r ((q_w (q_w (q_w σ a0 0 (.int (Int32.ofInt (0)))) (q_r ((q_w σ a0 0 (.int (Int32.ofInt (0)))).1 a0 15)) (Int32.ofInt (0)).toNatClampNeg (.int a1)) (q_r ((q_w (q_w σ a0 0 (.int (Int32.ofInt (0)))) (q_r ((q_w σ a0 0 (.int (Int32.ofInt (0)))).1 a0 15)) (Int32.ofInt (0)).toNatClampNeg (.int a1)).1 a0 15)) (Int32.ofInt (1)).toNatClampNeg (.int a2)).1 a0 15)) (Int32.ofInt (2)).toNatClampNeg (.int a3)) (q_r ((q_w (q_w (q_w (q_w σ a0 0 (.int (Int32.ofInt (0)))) (q_r ((q_w σ a0 0 (.int (Int32.ofInt (0)))).1 a0 15)) (Int32.ofInt (0)).toNatClampNeg (.int a1)) (q_r ((q_w (q_w σ a0 0 (.int (Int32.ofInt (0)))) (q_r ((q_w σ a0 0 (.int (Int32.ofInt (0)))).1 a0 15)) (Int32.ofInt (0)).toNatClampNeg (.int a1)).1 a0 15)) (Int32.ofInt (1)).toNatClampNeg (.int a2)) (q_r ((q_w (q_w (q_w σ a0 0 (.int (Int32.ofInt (0)))) (q_r ((q_w σ a0 0 (.int (Int32.ofInt (0)))).1 a0 15)) (Int32.ofInt (0)).toNatClampNeg (.int a1)) (q_r ((q_w (q_w σ a0 0 (.int (Int32.ofInt (0)))) (q_r ((q_w σ a0 0 (.int (Int32.ofInt (0)))).1 a0 15)) (Int32.ofInt (0)).toNatClampNeg (.int a1)).1 a0 15)) (Int32.ofInt (1)).toNatClampNeg (.int a2)).1 a0 15)) (Int32.ofInt (2)).toNatClampNeg (.int a3)).1 a0 15)) (Int32.ofInt (3)).toNatClampNeg (.int a4)).2.1 (q_r ((q_w (q_w (q_w (q_w (q_w σ a0 0 (.int (Int32.ofInt (0)))) (q_r ((q_w σ a0 0 (.int (Int32.ofInt (0)))).1 a0 15)) (Int32.ofInt (0)).toNatClampNeg (.int a1)) (q_r ((q_w (q_w σ a0 0 (.int (Int32.ofInt (0)))) (q_r ((q_w σ a0 0 (.int (Int32.ofInt (0)))).1 a0 15)) (Int32.ofInt (0)).toNatClampNeg (.int a1)).1 a0 15)) (Int32.ofInt (1)).toNatClampNeg (.int a2)) (q_r ((q_w (q_w (q_w σ a0 0 (.int (Int32.ofInt (0)))) (q_r ((q_w σ a0 0 (.int (Int32.ofInt (0)))).1 a0 15)) (Int32.ofInt (0)).toNatClampNeg (.int a1)) (q_r ((q_w (q_w σ a0 0 (.int (Int32.ofInt (0)))) (q_r ((q_w σ a0 0 (.int (Int32.ofInt (0)))).1 a0 15)) (Int32.ofInt (0)).toNatClampNeg (.int a1)).1 a0 15)) (Int32.ofInt (1)).toNatClampNeg (.int a2)).1 a0 15)) (Int32.ofInt (2)).toNatClampNeg (.int a3)) (q_r ((q_w (q_w (q_w (q_w σ a0 0 (.int (Int32.ofInt (0)))) (q_r ((q_w σ a0 0 (.int (Int32.ofInt (0)))).1 a0 15)) (Int32.ofInt (0)).toNatClampNeg (.int a1)) (q_r ((q_w (q_w σ a0 0 (.int (Int32.ofInt (0)))) (q_r ((q_w σ a0 0 (.int (Int32.ofInt (0)))).1 a0 15)) (Int32.ofInt (0)).toNatClampNeg (.int a1)).1 a0 15)) (Int32.ofInt (1)).toNatClampNeg (.int a2)) (q_r ((q_w (q_w (q_w σ a0 0 (.int (Int32.ofInt (0)))) (q_r ((q_w σ a0 0 (.int (Int32.ofInt (0)))).1 a0 15)) (Int32.ofInt (0)).toNatClampNeg (.int a1)) (q_r ((q_w (q_w σ a0 0 (.int (Int32.ofInt (0)))) (q_r ((q_w σ a0 0 (.int (Int32.ofInt (0)))).1 a0 15)) (Int32.ofInt (0)).toNatClampNeg (.int a1)).1 a0 15)) (Int32.ofInt (1)).toNatClampNeg (.int a2)).1 a0 15)) (Int32.ofInt (2)).toNatClampNeg (.int a3)).1 a0 15)) (Int32.ofInt (3)).toNatClampNeg (.int a4)).1 a0 15)) : Int)) :
    i_199 a0 a1 a2 a3 a4 a5 σ a0 (Int32.ofInt (0)) (q_w (q_w (q_w (q_w (q_w (q_w σ a0 0 (.int (Int32.ofInt (0)))) (q_r ((q_w σ a0 0 (.int (Int32.ofInt (0)))).1 a0 15)) (Int32.ofInt (0)).toNatClampNeg (.int a1)) (q_r ((q_w (q_w σ a0 0 (.int (Int32.ofInt (0)))) (q_r ((q_w σ a0 0 (.int (Int32.ofInt (0)))).1 a0 15)) (Int32.ofInt (0)).toNatClampNeg (.int a1)).1 a0 15)) (Int32.ofInt (1)).toNatClampNeg (.int a2)) (q_r ((q_w (q_w (q_w σ a0 0 (.int (Int32.ofInt (0)))) (q_r ((q_w σ a0 0 (.int (Int32.ofInt (0)))).1 a0 15)) (Int32.ofInt (0)).toNatClampNeg (.int a1)) (q_r ((q_w (q_w σ a0 0 (.int (Int32.ofInt (0)))) (q_r ((q_w σ a0 0 (.int (Int32.ofInt (0)))).1 a0 15)) (Int32.ofInt (0)).toNatClampNeg (.int a1)).1 a0 15)) (Int32.ofInt (1)).toNatClampNeg (.int a2)).1 a0 15)) (Int32.ofInt (2)).toNatClampNeg (.int a3)) (q_r ((q_w (q_w (q_w (q_w σ a0 0 (.int (Int32.ofInt (0)))) (q_r ((q_w σ a0 0 (.int (Int32.ofInt (0)))).1 a0 15)) (Int32.ofInt (0)).toNatClampNeg (.int a1)) (q_r ((q_w (q_w σ a0 0 (.int (Int32.ofInt (0)))) (q_r ((q_w σ a0 0 (.int (Int32.ofInt (0)))).1 a0 15)) (Int32.ofInt (0)).toNatClampNeg (.int a1)).1 a0 15)) (Int32.ofInt (1)).toNatClampNeg (.int a2)) (q_r ((q_w (q_w (q_w σ a0 0 (.int (Int32.ofInt (0)))) (q_r ((q_w σ a0 0 (.int (Int32.ofInt (0)))).1 a0 15)) (Int32.ofInt (0)).toNatClampNeg (.int a1)) (q_r ((q_w (q_w σ a0 0 (.int (Int32.ofInt (0)))) (q_r ((q_w σ a0 0 (.int (Int32.ofInt (0)))).1 a0 15)) (Int32.ofInt (0)).toNatClampNeg (.int a1)).1 a0 15)) (Int32.ofInt (1)).toNatClampNeg (.int a2)).1 a0 15)) (Int32.ofInt (2)).toNatClampNeg (.int a3)).1 a0 15)) (Int32.ofInt (3)).toNatClampNeg (.int a4)) (q_r ((q_w (q_w (q_w (q_w (q_w σ a0 0 (.int (Int32.ofInt (0)))) (q_r ((q_w σ a0 0 (.int (Int32.ofInt (0)))).1 a0 15)) (Int32.ofInt (0)).toNatClampNeg (.int a1)) (q_r ((q_w (q_w σ a0 0 (.int (Int32.ofInt (0)))) (q_r ((q_w σ a0 0 (.int (Int32.ofInt (0)))).1 a0 15)) (Int32.ofInt (0)).toNatClampNeg (.int a1)).1 a0 15)) (Int32.ofInt (1)).toNatClampNeg (.int a2)) (q_r ((q_w (q_w (q_w σ a0 0 (.int (Int32.ofInt (0)))) (q_r ((q_w σ a0 0 (.int (Int32.ofInt (0)))).1 a0 15)) (Int32.ofInt (0)).toNatClampNeg (.int a1)) (q_r ((q_w (q_w σ a0 0 (.int (Int32.ofInt (0)))) (q_r ((q_w σ a0 0 (.int (Int32.ofInt (0)))).1 a0 15)) (Int32.ofInt (0)).toNatClampNeg (.int a1)).1 a0 15)) (Int32.ofInt (1)).toNatClampNeg (.int a2)).1 a0 15)) (Int32.ofInt (2)).toNatClampNeg (.int a3)) (q_r ((q_w (q_w (q_w (q_w σ a0 0 (.int (Int32.ofInt (0)))) (q_r ((q_w σ a0 0 (.int (Int32.ofInt (0)))).1 a0 15)) (Int32.ofInt (0)).toNatClampNeg (.int a1)) (q_r ((q_w (q_w σ a0 0 (.int (Int32.ofInt (0)))) (q_r ((q_w σ a0 0 (.int (Int32.ofInt (0)))).1 a0 15)) (Int32.ofInt (0)).toNatClampNeg (.int a1)).1 a0 15)) (Int32.ofInt (1)).toNatClampNeg (.int a2)) (q_r ((q_w (q_w (q_w σ a0 0 (.int (Int32.ofInt (0)))) (q_r ((q_w σ a0 0 (.int (Int32.ofInt (0)))).1 a0 15)) (Int32.ofInt (0)).toNatClampNeg (.int a1)) (q_r ((q_w (q_w σ a0 0 (.int (Int32.ofInt (0)))) (q_r ((q_w σ a0 0 (.int (Int32.ofInt (0)))).1 a0 15)) (Int32.ofInt (0)).toNatClampNeg (.int a1)).1 a0 15)) (Int32.ofInt (1)).toNatClampNeg (.int a2)).1 a0 15)) (Int32.ofInt (2)).toNatClampNeg (.int a3)).1 a0 15)) (Int32.ofInt (3)).toNatClampNeg (.int a4)).1 a0 15)) (Int32.ofInt (4)).toNatClampNeg (.int a5)) := by
  refine ⟨rfl, fun B F E H => ?_⟩
  obtain ⟨x8, x15, hB, hFa, hFB, x9, hE⟩ := H
  rw [q_w_ne (fun _ q => by omega), x9] at h1
  have e1 : (Int32.ofNat E + Int32.ofInt 20).toInt = (E : Int) + 20 := zI_add (o32 (by omega)) (zI_c (by omega) (by omega)) (by omega) (by omega)
  have HX : (Int32.ofNat E + Int32.ofInt 20).toInt ≤ 400 := h1
  rw [e1] at HX
  refine ⟨by omega, 0, by omega, rfl, ?_⟩
  have s0 : (q_w σ a0 0 (.int (Int32.ofInt (0)))).1 a0 15 = .ref F := by rw [q_w_ne (fun _ q => by omega)]; exact x15
  have s1 : (q_w (q_w σ a0 0 (.int (Int32.ofInt (0)))) F (Int32.ofInt (0)).toNatClampNeg (.int a1)).1 a0 15 = .ref F := by rw [q_w_ne (fun q _ => hFa q.symm)]; exact s0
  have s2 : (q_w (q_w (q_w σ a0 0 (.int (Int32.ofInt (0)))) F (Int32.ofInt (0)).toNatClampNeg (.int a1)) F (Int32.ofInt (1)).toNatClampNeg (.int a2)).1 a0 15 = .ref F := by rw [q_w_ne (fun q _ => hFa q.symm)]; exact s1
  have s3 : (q_w (q_w (q_w (q_w σ a0 0 (.int (Int32.ofInt (0)))) F (Int32.ofInt (0)).toNatClampNeg (.int a1)) F (Int32.ofInt (1)).toNatClampNeg (.int a2)) F (Int32.ofInt (2)).toNatClampNeg (.int a3)).1 a0 15 = .ref F := by rw [q_w_ne (fun q _ => hFa q.symm)]; exact s2
  have s4 : (q_w (q_w (q_w (q_w (q_w σ a0 0 (.int (Int32.ofInt (0)))) F (Int32.ofInt (0)).toNatClampNeg (.int a1)) F (Int32.ofInt (1)).toNatClampNeg (.int a2)) F (Int32.ofInt (2)).toNatClampNeg (.int a3)) F (Int32.ofInt (3)).toNatClampNeg (.int a4)).1 a0 15 = .ref F := by rw [q_w_ne (fun q _ => hFa q.symm)]; exact s3
  have s5 : (q_w (q_w (q_w (q_w (q_w (q_w σ a0 0 (.int (Int32.ofInt (0)))) F (Int32.ofInt (0)).toNatClampNeg (.int a1)) F (Int32.ofInt (1)).toNatClampNeg (.int a2)) F (Int32.ofInt (2)).toNatClampNeg (.int a3)) F (Int32.ofInt (3)).toNatClampNeg (.int a4)) F (Int32.ofInt (4)).toNatClampNeg (.int a5)).1 a0 15 = .ref F := by rw [q_w_ne (fun q _ => hFa q.symm)]; exact s4
  have r0 : q_r ((q_w σ a0 0 (.int (Int32.ofInt (0)))).1 a0 15) = F := by rw [s0]; rfl
  have r1 : q_r ((q_w (q_w σ a0 0 (.int (Int32.ofInt (0)))) F (Int32.ofInt (0)).toNatClampNeg (.int a1)).1 a0 15) = F := by rw [s1]; rfl
  have r2 : q_r ((q_w (q_w (q_w σ a0 0 (.int (Int32.ofInt (0)))) F (Int32.ofInt (0)).toNatClampNeg (.int a1)) F (Int32.ofInt (1)).toNatClampNeg (.int a2)).1 a0 15) = F := by rw [s2]; rfl
  have r3 : q_r ((q_w (q_w (q_w (q_w σ a0 0 (.int (Int32.ofInt (0)))) F (Int32.ofInt (0)).toNatClampNeg (.int a1)) F (Int32.ofInt (1)).toNatClampNeg (.int a2)) F (Int32.ofInt (2)).toNatClampNeg (.int a3)).1 a0 15) = F := by rw [s3]; rfl
  have r4 : q_r ((q_w (q_w (q_w (q_w (q_w σ a0 0 (.int (Int32.ofInt (0)))) F (Int32.ofInt (0)).toNatClampNeg (.int a1)) F (Int32.ofInt (1)).toNatClampNeg (.int a2)) F (Int32.ofInt (2)).toNatClampNeg (.int a3)) F (Int32.ofInt (3)).toNatClampNeg (.int a4)).1 a0 15) = F := by rw [s4]; rfl
  rw [r0, r1, r2, r3, r4]
  have k0 : (Int32.ofInt (0)).toNatClampNeg = 0 := rfl
  have k1 : (Int32.ofInt (1)).toNatClampNeg = 1 := rfl
  have k2 : (Int32.ofInt (2)).toNatClampNeg = 2 := rfl
  have k3 : (Int32.ofInt (3)).toNatClampNeg = 3 := rfl
  have k4 : (Int32.ofInt (4)).toNatClampNeg = 4 := rfl
  rw [k0, k1, k2, k3, k4]
  have go : ∀ c k, c ≠ F → (q_w (q_w (q_w (q_w (q_w (q_w σ a0 0 (.int (Int32.ofInt (0)))) F 0 (.int a1)) F 1 (.int a2)) F 2 (.int a3)) F 3 (.int a4)) F 4 (.int a5)).1 c k = (q_w σ a0 0 (.int (Int32.ofInt (0)))).1 c k := by
    intro c k q
    rw [q_w_ne (fun e _ => q e), q_w_ne (fun e _ => q e), q_w_ne (fun e _ => q e), q_w_ne (fun e _ => q e), q_w_ne (fun e _ => q e)]
  refine ⟨⟨rfl, fun c k q1 q2 q3 => ?_⟩, ?_, ?_, ?_, fun k hk => by omega⟩
  · rw [go c k q3, q_w_ne (fun e1 e2 => q1 ⟨e1, by omega⟩)]
  · rw [go _ _ (fun q => hFa q.symm), q_w_at]
  · rw [go _ _ (fun q => hFa q.symm), q_w_ne (fun _ q => by omega)]; exact x9
  · intro i hi
    match i, hi with
    | 0, _ => rw [q_w_ne (fun _ q => by omega), q_w_ne (fun _ q => by omega), q_w_ne (fun _ q => by omega), q_w_ne (fun _ q => by omega), q_w_at]; rfl
    | 1, _ => rw [q_w_ne (fun _ q => by omega), q_w_ne (fun _ q => by omega), q_w_ne (fun _ q => by omega), q_w_at]; rfl
    | 2, _ => rw [q_w_ne (fun _ q => by omega), q_w_ne (fun _ q => by omega), q_w_at]; rfl
    | 3, _ => rw [q_w_ne (fun _ q => by omega), q_w_at]; rfl
    | 4, _ => rw [q_w_at]; rfl
    | i + 5, h => omega
theorem sp_199_ef (a0 : Nat) (a1 : Int32) (a2 : Int32) (a3 : Int32) (a4 : Int32) (a5 : Int32) (σ : zSg) (h1 : ((q_i ((q_w σ a0 0 (.int (Int32.ofInt (0)))).1 a0 9)) + (Int32.ofInt (20))).toInt > (400 : Int)) :
    p_199 (a0) (a1) (a2) (a3) (a4) (a5) σ (Int32.ofInt (-1)) (q_w σ a0 0 (.int (Int32.ofInt (0)))) := by
  intro B F E H
  obtain ⟨x8, x15, hB, hFa, hFB, x9, hE⟩ := H
  rw [q_w_ne (fun _ q => by omega), x9] at h1
  have e1 : (Int32.ofNat E + Int32.ofInt 20).toInt = (E : Int) + 20 := zI_add (o32 (by omega)) (zI_c (by omega) (by omega)) (by omega) (by omega)
  have HX : (Int32.ofNat E + Int32.ofInt 20).toInt > 400 := h1
  rw [e1] at HX
  exact ⟨fun q => by omega, fun _ => ⟨rfl, rfl⟩⟩
theorem sp_199_c38_t (a0 : Nat) (a1 : Int32) (a2 : Int32) (a3 : Int32) (a4 : Int32) (a5 : Int32) (σ : zSg) (l0 : Nat) (l6 : Int32) (τ : zSg) (hI : i_199 a0 a1 a2 a3 a4 a5 σ l0 l6 τ) (h7 : l6.toInt ≥ (20 : Int)) :
    p_199 (a0) (a1) (a2) (a3) (a4) (a5) σ (q_i ((q_w τ l0 9 (.int ((q_i (τ.1 l0 9)) + (Int32.ofInt (20))))).1 l0 9)) (q_w τ l0 9 (.int ((q_i (τ.1 l0 9)) + (Int32.ofInt (20))))) := by
  obtain ⟨rfl, G⟩ := hI
  intro B F E H
  obtain ⟨hE, K, hK, rfl, ⟨f1, f2⟩, z0, z9, hf, hb⟩ := G B F E H
  obtain ⟨x8, x15, hB, hFa, hFB, x9, hE4⟩ := H
  rw [o32 (by omega)] at h7
  have hK2 : K = 20 := by omega
  subst hK2
  have e9 : q_i (τ.1 l0 9) + Int32.ofInt 20 = Int32.ofNat (E + 20) := by
    rw [z9]
    exact Int32.toInt_inj.mp (by rw [show q_i (.int (Int32.ofNat E)) = Int32.ofNat E from rfl, zI_add (o32 (by omega)) (zI_c (by omega) (by omega)) (by omega) (by omega), o32 (by omega)]; omega)
  rw [e9, q_w_at]
  refine ⟨fun _ => ⟨rfl, ⟨f1, fun c k q1 q2 q3 => ?_⟩, ?_, rfl, fun k hk => ?_⟩, fun q => by omega⟩
  · rw [q_w_ne (fun e1 e2 => q1 ⟨e1, by omega⟩)]; exact f2 c k q1 q2 q3
  · rw [q_w_ne (fun _ q => by omega)]; exact z0
  · rw [q_w_ne (fun q _ => hB q)]; exact hb k hk
theorem sp_199_c38_f (a0 : Nat) (a1 : Int32) (a2 : Int32) (a3 : Int32) (a4 : Int32) (a5 : Int32) (σ : zSg) (l0 : Nat) (l6 : Int32) (τ : zSg) (hI : i_199 a0 a1 a2 a3 a4 a5 σ l0 l6 τ) (h7 : l6.toInt < (20 : Int)) (h8 : 0 ≤ (l6 / (Int32.ofInt (4))).toInt ∧ (l6 / (Int32.ofInt (4))).toInt < (τ.2.1 (q_r (τ.1 l0 15)) : Int)) (h9 : 0 ≤ ((q_i (τ.1 l0 9)) + l6).toInt ∧ ((q_i (τ.1 l0 9)) + l6).toInt < (τ.2.1 (q_r (τ.1 l0 8)) : Int)) :
    i_199 a0 a1 a2 a3 a4 a5 σ l0 (l6 + Int32.ofInt (1)) (q_w τ (q_r (τ.1 l0 8)) ((q_i (τ.1 l0 9)) + l6).toNatClampNeg (.int (vp_nar .byte (((q_i (τ.1 (q_r (τ.1 l0 15)) (l6 / (Int32.ofInt (4))).toNatClampNeg)) >>> (((Int32.ofInt (24)) - ((Int32.ofInt (8)) * (l6 - l6 / (Int32.ofInt (4)) * (Int32.ofInt (4))))) &&& 31)).toInt8.toInt32)))) := by
  obtain ⟨rfl, G⟩ := hI
  refine ⟨rfl, fun B F E H => ?_⟩
  obtain ⟨hE, K, hK, rfl, ⟨f1, f2⟩, z0, z9, hf, hb⟩ := G B F E H
  obtain ⟨x8, x15, hB, hFa, hFB, x9, hE4⟩ := H
  rw [o32 (by omega)] at h7
  obtain ⟨c1, c2⟩ := rK (K := K) (by omega)
  have q8 : q_r (τ.1 l0 8) = B := by rw [f2 l0 8 (fun q => by omega) (fun q => hB q.1.symm) (fun q => hFa q.symm), x8]; rfl
  have q15 : q_r (τ.1 l0 15) = F := by rw [f2 l0 15 (fun q => by omega) (fun q => hB q.1.symm) (fun q => hFa q.symm), x15]; rfl
  have e9 : q_i (τ.1 l0 9) + Int32.ofNat K = Int32.ofNat (E + K) := by
    rw [z9]
    exact o32a (by omega)
  have ev : q_i (τ.1 F (K / 4)) = vf a1 a2 a3 a4 a5 K := by
    rw [hf (K / 4) (by omega), vf_d]; rfl
  rw [q8, q15, e9, o32n (by omega), c1, c2, ev]
  refine ⟨hE, K + 1, by omega, o32i (by omega), ⟨f1, fun c k q1 q2 q3 => ?_⟩, ?_, ?_, fun i hi => ?_, fun k hk => ?_⟩
  · rw [q_w_ne (fun e1 e2 => q2 ⟨e1, by omega⟩)]; exact f2 c k q1 (fun q => q2 ⟨q.1, by omega⟩) q3
  · rw [q_w_ne (fun q _ => hB q.symm)]; exact z0
  · rw [q_w_ne (fun q _ => hB q.symm)]; exact z9
  · rw [q_w_ne (fun q _ => hFB q)]; exact hf i hi
  · by_cases hk2 : k = K
    · subst hk2
      rw [q_w_at]
      rfl
    · rw [q_w_ne (fun _ q => by omega)]; exact hb k (by omega)
noncomputable def qP_199 : zPp := fun as σ o σ' => match as with
  | [a0, a1, a2, a3, a4, a5] => ∃ r, o = .inl (some (.int r)) ∧ p_199 (q_r a0) (q_i a1) (q_i a2) (q_i a3) (q_i a4) (q_i a5) σ r σ'
  | _ => True
set_option maxRecDepth 100000 in
theorem sp_199 {sx : zX}  : zEe sx 199 6 qP_199 := by
  refine zfle zJ_199 (sps := []) (fun q hq => absurd hq List.not_mem_nil) (fun as σ hl => ?_)
  match as, hl with
  | [a0, a1, a2, a3, a4, a5], _ =>
  refine ⟨[(38, fun lo st τ => st = [] ∧ i_199 (q_r a0) (q_i a1) (q_i a2) (q_i a3) (q_i a4) (q_i a5) σ (q_r (lo 0)) (q_i (lo 6)) τ)], 400, ?_, ?_⟩
  · intro q hq
    simp only [List.mem_cons, List.not_mem_nil, or_false] at hq
    rcases hq with rfl
    · rintro lo st τ ⟨rfl, hI⟩
      refine ⟨400, ?_⟩
      refine And.intro (fun h7 => ?_) (fun h7 => ?_)
      · exact ⟨_, rfl, sp_199_c38_t (q_r a0) (q_i a1) (q_i a2) (q_i a3) (q_i a4) (q_i a5) σ (q_r (lo 0)) (q_i (lo 6)) τ hI (cm3t h7)⟩
      · refine fun h8 => ?_
        refine fun h9 => ?_
        exact ⟨rfl, sp_199_c38_f (q_r a0) (q_i a1) (q_i a2) (q_i a3) (q_i a4) (q_i a5) σ (q_r (lo 0)) (q_i (lo 6)) τ hI (cm3f h7) (q_inp h8) (q_inp h9)⟩
  · refine And.intro (fun h1 => ?_) (fun h1 => ?_)
    · refine fun h2 => ?_
      refine fun h3 => ?_
      refine fun h4 => ?_
      refine fun h5 => ?_
      refine fun h6 => ?_
      exact ⟨rfl, sp_199_et (q_r a0) (q_i a1) (q_i a2) (q_i a3) (q_i a4) (q_i a5) σ (cm5t h1) (q_inp h2) (q_inp h3) (q_inp h4) (q_inp h5) (q_inp h6)⟩
    · exact ⟨_, rfl, sp_199_ef (q_r a0) (q_i a1) (q_i a2) (q_i a3) (q_i a4) (q_i a5) σ (cm5f h1)⟩
end
section
/-! a typed heap is well kinded -/
noncomputable def q_tck (t : Nat) : Bool := !decide ((z_tt t).1 = 0) || (List.range (z_tt t).2.2.1).all (fun b => match q_kd (z_tt t).2.1 b with
  | 0 => (match zrg (z_tt t).2.2.2 (b : Int) (b : Int) with | some (0, _, _) => true | _ => false)
  | 1 => (match zrg (z_tt t).2.2.2 (b : Int) (b : Int) with | some (2, _, _) => true | _ => false)
  | _ => true)
theorem q_tck_35 : (List.range 35).all q_tck = true := by decide +kernel
theorem zsh_obj {T : zTy} {c : Nat} {fs : List Value} (h : z_sh T (.inr (c, fs))) : T.1 = 0 ∧ c = T.2.1 ∧ fs.length = T.2.2.1 := by
  obtain ⟨k, c', n, rs⟩ := T
  match k, h with
  | 0, h => exact ⟨rfl, h.1, h.2⟩
  | 1, h => exact False.elim h
  | 2, h => exact False.elim h
  | 3, h => exact False.elim h
  | 4, h => exact False.elim h
  | k + 5, h => exact False.elim h
theorem zsh_ref {T : zTy} {n : Nat} {f : Nat → Option Nat} (h : z_sh T (.inl (3, (n, .inr (.inr (.inr (.inr f))))))) : T.1 = 4 ∧ n = T.2.2.1 := by
  obtain ⟨k, c', m, rs⟩ := T
  match k, h with
  | 0, h => exact False.elim h
  | 1, h => exact False.elim h
  | 2, h => exact False.elim h
  | 3, h => exact False.elim h
  | 4, h => exact ⟨rfl, h⟩
  | k + 5, h => exact False.elim h
theorem q_t18 : (List.range 35).all (fun t => decide ((z_tt t).1 ≠ 4) || decide (t = 18)) = true := by decide +kernel
theorem zTY_kh {ty : List Nat} {h : zH} (T : zTY z_tt ty h) : zKh h := by
  refine ⟨fun i c fs b v he hv => ?_, fun i n f he j hj => ?_⟩
  · have hi := (List.getElem?_eq_some_iff.mp he).1
    have ht : ty[i]? = some (ty[i]'(by rw [T.1]; exact hi)) := List.getElem?_eq_getElem _
    generalize ty[i]'(by rw [T.1]; exact hi) = t at ht
    obtain ⟨s1, s2, s3⟩ := zsh_obj (T.2.2 i t _ ht he).1
    have hb := (List.getElem?_eq_some_iff.mp hv).1
    by_cases h35 : t < 35
    · have key := List.all_eq_true.mp q_tck_35 t (List.mem_range.mpr h35)
      unfold q_tck at key
      rw [s1] at key
      have key := List.all_eq_true.mp key b (List.mem_range.mpr (by omega))
      rw [← s2] at key
      cases hk : q_kd c b with
      | zero =>
        rw [hk] at key
        cases hr : zrg (z_tt t).2.2.2 (b : Int) (b : Int) with
        | none => rw [hr] at key; cases key
        | some A =>
          obtain ⟨tg, lo, hi9⟩ := A
          rw [hr] at key
          match tg, key, hr with
          | 0, _, hr =>
          obtain ⟨w, hw, g⟩ := zfd (b := b) T ht he hb hr
          rw [hv] at hw
          cases hw
          obtain ⟨x, rfl, -⟩ := g
          rfl
          | tg + 1, key, _ => cases key
      | succ n =>
        cases n with
        | zero =>
          rw [hk] at key
          cases hr : zrg (z_tt t).2.2.2 (b : Int) (b : Int) with
          | none => rw [hr] at key; cases key
          | some A =>
            obtain ⟨tg, lo, hi9⟩ := A
            rw [hr] at key
            match tg, key, hr with
            | 0, key, _ => cases key
            | 1, key, _ => cases key
            | tg + 3, key, _ => cases key
            | 2, _, hr =>
            obtain ⟨w, hw, g⟩ := zfd (b := b) T ht he hb hr
            rw [hv] at hw
            cases hw
            obtain ⟨x, t9, rfl, -⟩ := g
            rfl
        | succ n => rfl
    · -- the laws' objects, else none
      by_cases h100 : 100 ≤ t ∧ t ≤ 112
      · have e : z_tt t = (0, 2, 6, [(0, 0, (0, ((t - 100 : Nat) : Int), ((t - 100 : Nat) : Int))), (1, 2, (2, ((t + 40 : Nat) : Int), ((t + 40 : Nat) : Int))), (3, 3, (2, ((t + 20 : Nat) : Int), ((t + 20 : Nat) : Int))), (4, 4, (2, 1000, 1400)), (5, 5, (2, 34, 34))]) := by
          unfold z_tt
          rw [if_neg h35, if_pos h100]
        rw [e] at s2
        have s2 : c = 2 := s2
        subst s2
        match b, hv with
        | 0, hv =>
          have h9 := (T.2.2 i t _ ht he).2 0 v hv
          rw [e] at h9
          obtain ⟨x, rfl, -⟩ := h9 (0, 0, (0, ((t - 100 : Nat) : Int), ((t - 100 : Nat) : Int))) List.mem_cons_self (Int.le_refl _) (Int.le_refl _)
          rfl
        | b + 1, hv =>
          have h2 : q_kd 2 (b + 1) = 2 := by
            match b with
            | 0 => rfl
            | 1 => rfl
            | 2 => rfl
            | 3 => rfl
            | 4 => rfl
            | b + 5 => rfl
          rw [h2]
          rfl
      · exfalso
        have e : (z_tt t).1 ≠ 0 := by
          unfold z_tt
          rw [if_neg h35, if_neg h100]
          split
          · exact (by decide : (1 : Nat) ≠ 0)
          · split
            · exact (by decide : (1 : Nat) ≠ 0)
            · split
              · exact (by decide : (1 : Nat) ≠ 0)
              · exact (by decide : (9 : Nat) ≠ 0)
        exact e s1
  · have hi := (List.getElem?_eq_some_iff.mp he).1
    have ht : ty[i]? = some (ty[i]'(by rw [T.1]; exact hi)) := List.getElem?_eq_getElem _
    generalize ty[i]'(by rw [T.1]; exact hi) = t at ht
    obtain ⟨hs, hr⟩ := T.2.2 i t _ ht he
    have h4 : (z_tt t).1 = 4 ∧ n = (z_tt t).2.2.1 := zsh_ref hs
    have h18 : t = 18 := by
      by_cases h35 : t < 35
      · have key := List.all_eq_true.mp q_t18 t (List.mem_range.mpr h35)
        rw [Bool.or_eq_true, decide_eq_true_eq, decide_eq_true_eq] at key
        rcases key with key | key
        · exact absurd h4.1 key
        · exact key
      · exfalso
        have e : (z_tt t).1 ≠ 4 := by
          unfold z_tt
          rw [if_neg h35]
          split
          · exact (by decide : (0 : Nat) ≠ 4)
          · split
            · exact (by decide : (1 : Nat) ≠ 4)
            · split
              · exact (by decide : (1 : Nat) ≠ 4)
              · split
                · exact (by decide : (1 : Nat) ≠ 4)
                · exact (by decide : (9 : Nat) ≠ 4)
        exact e h4.1
    subst h18
    have hn : n = 12 := h4.2
    obtain ⟨x, t9, e9, -⟩ := hr j (va_rf (f j)) (by rw [z_rd3, if_pos hj]) (0, 11, (2, 8, 8)) (by decide) (by show (0 : Int) ≤ j; omega) (by show (j : Int) ≤ 11; omega)
    cases hf : f j with
    | none => rw [hf] at e9; cases e9
    | some r => exact ⟨r, rfl⟩
end
section
/-! THE SKELETON: which cell each field of the two objects and of their houses holds; it stays as it was made -/
noncomputable def zHty : List Nat := [8, 16, 9, 10, 10, 10, 10, 11, 12, 12, 13, 14, 12]
noncomputable def zty1 : List Nat := [1, 2, 3, 4, 5, 5, 6, 7] ++ zHty ++ zHty ++ zHty ++ [17, 18] ++ zHty ++ zHty ++ zHty ++ zHty ++ zHty ++ zHty ++ zHty ++ zHty ++ zHty ++ zHty ++ zHty ++ zHty ++ [20, 21, 22, 23, 24, 25, 26, 27, 28, 29, 30, 31, 32, 33]
noncomputable def zHsk (b : Nat) : List (Nat × Nat × Nat) := [(b, 0, b + 1), (b, 1, b + 2), (b, 2, b + 7), (b, 3, b + 10), (b, 4, b + 12), (b + 2, 0, b + 3), (b + 2, 1, b + 4), (b + 2, 2, b + 5), (b + 2, 3, b + 6), (b + 7, 0, b + 8), (b + 7, 1, b + 9), (b + 10, 0, b + 11)]
noncomputable def zHbs : List Nat := [8, 21, 34, 49, 62, 75, 88, 101, 114, 127, 140, 153, 166, 179, 192]
noncomputable def zskl : List (Nat × Nat × Nat) := [(0, 0, 1), (0, 1, 3), (0, 2, 8), (0, 3, 21), (0, 4, 34), (0, 5, 47), (1, 0, 2), (3, 0, 4), (3, 1, 5), (3, 2, 6), (3, 3, 7), (47, 0, 48)] ++ (List.range 12).map (fun i => (48, i, 49 + 13 * i)) ++ zHbs.flatMap zHsk ++ [(205, 1, 206), (205, 2, 207), (205, 3, 208), (205, 4, 209), (205, 5, 210), (205, 8, 211), (205, 15, 212), (205, 17, 213), (205, 18, 214), (205, 19, 215), (205, 20, 216), (205, 21, 217)]
noncomputable def zSkl (h : zH) : Prop := ∀ q ∈ zskl, zv h q.1 q.2.1 = .ref q.2.2
noncomputable def zinB (ms : List zMod) (t i : Nat) : Bool := ms.any (fun m => decide (m.1 = t) && (decide (m.2.1 ≤ (i : Int)) && decide ((i : Int) ≤ m.2.2)))
theorem zinB_ok {ms : List zMod} {t i : Nat} (h : zinB ms t i = false) : ¬ zIn ms t i := by
  rintro ⟨m, hm, m1, m2, m3⟩
  have : zinB ms t i = true := List.any_eq_true.mpr ⟨m, hm, by rw [Bool.and_eq_true, Bool.and_eq_true, decide_eq_true_eq, decide_eq_true_eq, decide_eq_true_eq]; exact ⟨m1, m2, m3⟩⟩
  rw [this] at h
  cases h
/-- a place that is not among the changed ones -/
theorem zv_keep {ms : List zMod} {ty ty' : List Nat} {h h' : zH} {c t k : Nat} (T : zTY z_tt ty h) (T' : zTY z_tt ty' h') (F : zFm ms ty h h') (ht : ty[c]? = some t) (hn : ¬ zIn ms t k) : zv h' c k = zv h c k := by
  have hl : c < h.length := by rw [← T.1]; exact (List.getElem?_eq_some_iff.mp ht).1
  have hl' : c < h'.length := Nat.lt_of_lt_of_le hl F.1
  have e : h[c]? = some h[c] := List.getElem?_eq_getElem hl
  have e' : h'[c]? = some h'[c] := List.getElem?_eq_getElem hl'
  rw [zv_at e, zv_at e', F.2 c t _ _ ht e e' k hn]
noncomputable def zskOK (ms : List zMod) : Bool := zskl.all (fun q => !zinB ms (zty1.getD q.1 0) q.2.1)
theorem zskl_ty : zskl.all (fun q => decide (q.1 < zty1.length)) = true := by decide +kernel
theorem zSkl.keep {ms : List zMod} {ty ty' : List Nat} {h h' : zH} (H : zSkl h) (T : zTY z_tt ty h) (T' : zTY z_tt ty' h') (F : zFm ms ty h h') (X : zExt zty1 ty) (hm : zskOK ms = true) : zSkl h' := by
  intro q hq
  have h1 := List.all_eq_true.mp hm q hq
  have h2 := of_decide_eq_true (List.all_eq_true.mp zskl_ty q hq)
  have ht : ty[q.1]? = some (zty1.getD q.1 0) := X _ _ (by rw [List.getD_eq_getElem?_getD, List.getElem?_eq_getElem h2]; rfl)
  rw [zv_keep T T' F ht (zinB_ok (by simpa using h1))]
  exact H q hq
/-- bytes alike: the class's unsigned, the reference's signed -/
noncomputable def zByq (h : zH) : Prop := ∀ k, 0 ≤ cu (za h) 1 k ∧ cu (za h) 1 k ≤ 255 ∧ rb (za h) 205 k = cb (za h) 1 k
noncomputable def zby3 (ms : List zMod) : Bool := ms.all (fun m => decide (m.1 ≠ 3) && decide (m.1 ≠ 26))
theorem zNo {ms : List zMod} {t k : Nat} (h : ∀ m ∈ ms, m.1 ≠ t) : ¬ zIn ms t k := by
  rintro ⟨m, hm, m1, -⟩
  exact h m hm m1
theorem zSkl.at {h : zH} (H : zSkl h) (q : Nat × Nat × Nat) (hq : (zskl.elem q) = true) : zv h q.1 q.2.1 = .ref q.2.2 := H q (List.elem_iff.mp hq)
theorem zByq.keep {ms : List zMod} {ty ty' : List Nat} {h h' : zH} (H : zByq h) (S : zSkl h) (S' : zSkl h') (T : zTY z_tt ty h) (T' : zTY z_tt ty' h') (F : zFm ms ty h h') (X : zExt zty1 ty) (hm : zby3 ms = true) : zByq h' := by
  have hb := List.all_eq_true.mp hm
  have e2 : ∀ k, zv h' 2 k = zv h 2 k := fun k => zv_keep T T' F (X 2 3 (by decide +kernel)) (zNo (fun m h9 => by have := hb m h9; rw [Bool.and_eq_true, decide_eq_true_eq] at this; exact this.1))
  have e211 : ∀ k, zv h' 211 k = zv h 211 k := fun k => zv_keep T T' F (X 211 26 (by decide +kernel)) (zNo (fun m h9 => by have := hb m h9; rw [Bool.and_eq_true, decide_eq_true_eq, decide_eq_true_eq] at this; exact this.2))
  have c1 : ∀ k, cu (za h') 1 k = cu (za h) 1 k := by
    intro k
    show (q_i (zv h' (q_r (zv h' 1 0)) k)).toInt = (q_i (zv h (q_r (zv h 1 0)) k)).toInt
    rw [S.at (1, 0, 2) (by decide +kernel), S'.at (1, 0, 2) (by decide +kernel)]
    exact congrArg (fun v => (q_i v).toInt) (e2 k)
  have r1 : ∀ k, rb (za h') 205 k = rb (za h) 205 k := by
    intro k
    show (q_i (zv h' (q_r (zv h' 205 8)) k)).toInt = (q_i (zv h (q_r (zv h 205 8)) k)).toInt
    rw [S.at (205, 8, 211) (by decide +kernel), S'.at (205, 8, 211) (by decide +kernel)]
    exact congrArg (fun v => (q_i v).toInt) (e211 k)
  intro k
  have := H k
  unfold cb at this ⊢
  rw [c1 k, r1 k]
  exact this
end
section
/-! the law's two readers, from what holds at the loop's head -/
theorem zv_of {h : zH} {c k : Nat} {e : zE} {v : Value} (he : h[c]? = some e) (hv : z_rd e k = some v) : zv h c k = v := by rw [zv_at he, hv]; rfl
theorem zL5_of {ty : List Nat} {h : zH} {N : Int} (P : zTp ty h 0 N) (Q : zMp h 205 N) (h0 : 0 ≤ N) (S : zSkl h) : ∃ E : Nat, N = (E : Int) ∧ zv h 1 1 = .int (Int32.ofNat E) ∧ zv h 205 9 = .int (Int32.ofNat E) := by
  obtain ⟨e1, e2, t, x, a1, a2, a3, a4, a5, a6⟩ := P
  obtain ⟨e3, y, b1, b2, b3⟩ := Q
  have ht : t = 1 := by
    have := S.at (0, 0, 1) (by decide +kernel)
    rw [zv_of a1 a2] at this
    cases this
    rfl
  subst ht
  have hx : x = Int32.ofNat N.toNat := Int32.toInt_inj.mp (by rw [a6, Int32.toInt_ofNat_of_lt (by have := zb32 x; omega)]; omega)
  have hy : y = Int32.ofNat N.toNat := Int32.toInt_inj.mp (by rw [b3, Int32.toInt_ofNat_of_lt (by have := zb32 y; omega)]; omega)
  exact ⟨N.toNat, by omega, by rw [zv_of a4 a5, hx], by rw [zv_of b1 b2, hy]⟩
theorem zvl_of {ty : List Nat} {h : zH} {c t n : Nat} (T : zTY z_tt ty h) (ht : ty[c]? = some t) (hk : (z_tt t).1 = 1) (hn : (z_tt t).2.2.1 = n) : zvl h c = n := by
  obtain ⟨f, he⟩ := zcell1 T ht hk hn
  exact zvl_at he
theorem rA_of {ty : List Nat} {h : zH} {E : Nat} (T : zTY z_tt ty h) (X : zExt zty1 ty) (S : zSkl h) (hE : E ≤ 400) (h9 : zv h 205 9 = .int (Int32.ofNat E)) : rA (za h) 205 206 (rb (za h) 205) E := by
  have s1 : zv h 205 1 = .ref 206 := S.at (205, 1, 206) (by decide +kernel)
  have s8 : zv h 205 8 = .ref 211 := S.at (205, 8, 211) (by decide +kernel)
  have q8 : q_r ((za h).1 205 8) = 211 := by show q_r (zv h 205 8) = 211; rw [s8]; rfl
  have t205 : ty[205]? = some 20 := X 205 20 (by decide +kernel)
  obtain ⟨fs, he, hl⟩ := zcell0 (c := 9) (n := 23) T t205 rfl rfl rfl
  obtain ⟨x, hx, x1, x2⟩ := zfd0 (b := 13) (lo := 0) (hi := 6) T t205 he (by omega) (by decide +kernel)
  refine ⟨by rw [q8]; decide, rfl, s1, by decide, by rw [q8]; decide, zvl_of T (X 206 21 (by decide +kernel)) rfl rfl, h9, hE, x.toInt.toNat, by omega, ?_⟩
  show zv h 205 13 = _
  rw [zv_of he hx]
  exact congrArg Value.int (Int32.toInt_inj.mp (by rw [o32 (by omega)]; omega))
theorem cLw_of {ty : List Nat} {h : zH} {E : Nat} (T : zTY z_tt ty h) (X : zExt zty1 ty) (S : zSkl h) (hE : E ≤ 400) (h1 : zv h 1 1 = .int (Int32.ofNat E)) (Y : zByq h) : cLw (za h) 0 1 3 8 47 7 4 5 6 2 (rb (za h) 205) E := by
  have hN : 219 ≤ (za h).2.2 := by
    show 219 ≤ h.length
    rw [← T.1]
    exact (List.getElem?_eq_some_iff.mp (X 218 33 (by decide +kernel))).1
  have p10 : zv h 1 0 = .ref 2 := S.at (1, 0, 2) (by decide +kernel)
  have p30 : zv h 3 0 = .ref 4 := S.at (3, 0, 4) (by decide +kernel)
  have p31 : zv h 3 1 = .ref 5 := S.at (3, 1, 5) (by decide +kernel)
  have p32 : zv h 3 2 = .ref 6 := S.at (3, 2, 6) (by decide +kernel)
  have p33 : zv h 3 3 = .ref 7 := S.at (3, 3, 7) (by decide +kernel)
  have q10 : q_r ((za h).1 1 0) = 2 := by show q_r (zv h 1 0) = 2; rw [p10]; rfl
  have q30 : q_r ((za h).1 3 0) = 4 := by show q_r (zv h 3 0) = 4; rw [p30]; rfl
  have q31 : q_r ((za h).1 3 1) = 5 := by show q_r (zv h 3 1) = 5; rw [p31]; rfl
  have q32 : q_r ((za h).1 3 2) = 6 := by show q_r (zv h 3 2) = 6; rw [p32]; rfl
  have q33 : q_r ((za h).1 3 3) = 7 := by show q_r (zv h 3 3) = 7; rw [p33]; rfl
  refine ⟨S.at (0, 0, 1) (by decide +kernel), S.at (0, 1, 3) (by decide +kernel), S.at (0, 2, 8) (by decide +kernel), S.at (0, 5, 47) (by decide +kernel), p10, ⟨⟨by rw [q10]; decide, h1, hE, fun k => ⟨(Y k).1, (Y k).2.1⟩⟩, ?_, ⟨by decide, q33, by decide, by decide, by rw [q10]; decide, by rw [q10]; decide, zvl_of T (X 7 7 (by decide +kernel)) rfl rfl⟩, q30, q31, q32, ⟨by decide, by decide, by decide, by rw [q10]; decide⟩, ⟨by decide, by decide, by decide, by rw [q10]; decide⟩, ⟨by decide, by decide, by decide, by rw [q10]; decide⟩, by decide, by decide, by decide⟩, ⟨zvl_of T (X 4 5 (by decide +kernel)) rfl rfl, zvl_of T (X 5 5 (by decide +kernel)) rfl rfl, zvl_of T (X 6 6 (by decide +kernel)) rfl rfl⟩, ⟨by omega, by omega, by omega, by omega, by omega, by omega, by omega, by omega, by omega⟩, ⟨by decide, by decide, by decide, by decide, by decide, by decide, by decide, by decide⟩, ⟨by decide, by decide, by decide, by decide, by decide, by decide, by decide⟩, ⟨by decide, by decide, by decide, by decide, by decide, by decide⟩⟩
  funext k
  exact (Y k).2.2.symm
end
section
/-! every specification, closed; printed with wip/gen/gen_inst.py -/
theorem sq_201 {sx : zX} : zEe sx 201 3 qP_201 := sp_201 
theorem sq_202 {sx : zX} : zEe sx 202 1 qP_202 := sp_202 sq_201
theorem sq_203 {sx : zX} : zEe sx 203 1 qP_203 := sp_203 sq_202 sq_201
theorem sq_204 {sx : zX} : zEe sx 204 2 qP_204 := sp_204 
theorem sq_205 {sx : zX} : zEe sx 205 2 qP_205 := sp_205 sq_203 sq_204
theorem sq_206 {sx : zX} : zEe sx 206 2 qP_206 := sp_206 sq_202 sq_201
theorem sq_207 {sx : zX} : zEe sx 207 3 qP_207 := sp_207 sq_202 sq_201
theorem sq_86 {sx : zX} : zEe sx 86 2 qP_86 := sp_86 
theorem sq_97 {sx : zX} : zEe sx 97 1 qP_97 := sp_97 
theorem sq_87 {sx : zX} : zEe sx 87 1 qP_87 := sp_87 sq_97
theorem sq_88 {sx : zX} : zEe sx 88 1 qP_88 := sp_88 
theorem sq_89 {sx : zX} : zEe sx 89 1 qP_89 := sp_89 
theorem sq_90 {sx : zX} : zEe sx 90 1 qP_90 := sp_90 
theorem sq_98 {sx : zX} : zEe sx 98 1 qP_98 := sp_98 
theorem sq_99 {sx : zX} : zEe sx 99 1 qP_99 := sp_99 
theorem sq_91 {sx : zX} : zEe sx 91 2 qP_91 := sp_91 sq_86 sq_98 sq_97
theorem sq_92 {sx : zX} : zEe sx 92 2 qP_92 := sp_92 sq_91 sq_90
theorem sq_93 {sx : zX} : zEe sx 93 2 qP_93 := sp_93 sq_86 sq_97
theorem sq_94 {sx : zX} : zEe sx 94 2 qP_94 := sp_94 sq_93 sq_90
theorem sq_95 {sx : zX} : zEe sx 95 1 qP_95 := sp_95 sq_86 sq_99
theorem sq_96 {sx : zX} : zEe sx 96 3 qP_96 := sp_96 sq_86 sq_99 sq_90 sq_97
theorem sq_221 {sx : zX} : zEe sx 221 3 qP_221 := sp_221 
theorem sq_222 {sx : zX} : zEe sx 222 1 qP_222 := sp_222 sq_203 sq_204 sq_221 sq_207
theorem sq_223 {sx : zX} : zEe sx 223 1 qP_223 := sp_223 sq_222 sq_206 sq_221
theorem sq_224 {sx : zX} : zEe sx 224 1 qP_224 := sp_224 sq_203 sq_204 sq_221
theorem sq_227 {sx : zX} : zEe sx 227 1 qP_227 := fun m => (sp_atom sq_206 sq_205 sq_224 sq_223 sq_221 m).2.2
theorem sq_54 {sx : zX} : zEe sx 54 2 qP_54 := sp_54 
theorem sq_53 {sx : zX} : zEe sx 53 2 qP_53 := sp_53 sq_95 sq_91 sq_90 sq_54 sq_96
theorem sq_52 {sx : zX} : zEe sx 52 2 qP_52 := sp_52 sq_53 sq_93 sq_54
theorem sq_50 {sx : zX} : zEe sx 50 3 qP_50 := fun m => (sc_atom sq_91 sq_93 sq_94 sq_52 sq_54 m).2
theorem sq_228 {sx : zX} : zEe sx 228 2 qP_228 := sp_228 sq_204 sq_207 sq_205 sq_227
theorem sq_184 {sx : zX} : zEe sx 184 1 qP_184 := sp_184 
theorem sq_185 {sx : zX} : zEe sx 185 1 qP_185 := sp_185 
theorem sq_186 {sx : zX} : zEe sx 186 2 qP_186 := sp_186 
theorem sq_187 {sx : zX} : zEe sx 187 1 qP_187 := sp_187 
theorem sq_178 {sx : zX} : zEe sx 178 2 qP_178 := sp_178 
theorem sq_189 {sx : zX} : zEe sx 189 2 qP_189 := sp_189 
theorem sq_192 {sx : zX} : zEe sx 192 2 qP_192 := sp_192 
theorem sq_208 {sx : zX} : zEe sx 208 4 qP_208 := sp_208 sq_203 sq_204 sq_207
theorem sq_211 {sx : zX} : zEe sx 211 4 qP_211 := sp_211 sq_207
theorem sq_212 {sx : zX} : zEe sx 212 1 qP_212 := sp_212 sq_207 sq_208 sq_187
theorem sq_213 {sx : zX} : zEe sx 213 3 qP_213 := sp_213 sq_178 sq_186
theorem sq_215 {sx : zX} : zEe sx 215 1 qP_215 := sp_215 sq_184 sq_207
theorem sq_214 {sx : zX} : zEe sx 214 1 qP_214 := sp_214 sq_184 sq_208 sq_205 sq_189 sq_213 sq_212
theorem sq_216 {sx : zX} : zEe sx 216 1 qP_216 := sp_216 sq_215 sq_212 sq_213
theorem sq_217 {sx : zX} : zEe sx 217 1 qP_217 := sp_217 sq_212 sq_213
theorem sq_218 {sx : zX} : zEe sx 218 1 qP_218 := sp_218 sq_215 sq_212 sq_189
theorem sq_219 {sx : zX} : zEe sx 219 1 qP_219 := sp_219 sq_185 sq_215 sq_208 sq_192 sq_205
theorem sq_220 {sx : zX} : zEe sx 220 1 qP_220 := sp_220 sq_204 sq_211 sq_218 sq_219 sq_217 sq_216 sq_214
theorem sq_210 {sx : zX} : zEe sx 210 1 qP_210 := sp_210 
theorem sq_176 {sx : zX} : zEe sx 176 3 qP_176 := sp_176 
theorem sq_229 {sx : zX} : zEe sx 229 3 qP_229 := sp_229 sq_203 sq_228 sq_220
theorem sq_230 {sx : zX} : zEe sx 230 2 qP_230 := sp_230 sq_210 sq_202 sq_229 sq_201
theorem sq_232 {sx : zX} : zEe sx 232 1 qP_232 := sp_232 sq_230 sq_176
theorem sq_49 {sx : zX} : zEe sx 49 2 qP_49 := sp_49 sq_91 sq_92
theorem sq_47 {sx : zX} : zEe sx 47 2 qP_47 := sp_47 sq_87 sq_89 sq_88 sq_90 sq_49 sq_96 sq_91 sq_50 sq_94
theorem sq_314 {sx : zX} : zEe sx 314 2 qP_314 := sp_314 
theorem sq_41 {sx : zX} : zEe sx 41 6 qP_41 := sp_41 sq_314
theorem sq_48 {sx : zX} : zEe sx 48 1 qP_48 := sp_48 sq_314 sq_41
theorem sq_64 {sx : zX} : zEe sx 64 1 qP_64 := sp_64 
theorem sq_85 {sx : zX} : zEe sx 85 2 qP_85 := sp_85 
theorem sq_118 {sx : zX} : zEe sx 118 6 qP_118 := sp_118 sq_85
theorem sq_199 {sx : zX} : zEe sx 199 6 qP_199 := sp_199 
end
section
/-! feed keeps the bytes alike; both readers of a law end alike -/
theorem zfeed_by {ty ty1 ty2 : List Nat} {h h1 h2 : zH} {v1 v2 v3 v4 v5 c1 c2 : Int32} {E : Nat} (T : zTY z_tt ty h) (T1 : zTY z_tt ty1 h1) (T2 : zTY z_tt ty2 h2) (X : zExt zty1 ty) (X1 : zExt zty1 ty1) (S : zSkl h) (S1 : zSkl h1) (S2 : zSkl h2) (Y : zByq h) (F1 : zFm (zcM zC_ap) ty h h1) (F2 : zFm [(20, 0, 0), (20, 9, 9), (26, 0, 399), (27, 0, 4)] ty1 h1 h2) (w1 : zv h 1 1 = .int (Int32.ofNat E)) (w9 : zv h 205 9 = .int (Int32.ofNat E)) (hE : E ≤ 400) (P1 : p_118 0 v1 v2 v3 v4 v5 (za h) c1 (za h1)) (P2 : p_199 205 v1 v2 v3 v4 v5 (za h1) c2 (za h2)) : zByq h2 := by
  have e2 : ∀ k, zv h2 2 k = zv h1 2 k := fun k => zv_keep T1 T2 F2 (X1 2 3 (by decide +kernel)) (zNo (by decide +kernel))
  have e211 : ∀ k, zv h1 211 k = zv h 211 k := fun k => zv_keep T T1 F1 (X 211 26 (by decide +kernel)) (zNo (by decide +kernel))
  have e205 : zv h1 205 9 = zv h 205 9 := zv_keep T T1 F1 (X 205 20 (by decide +kernel)) (zNo (by decide +kernel))
  have q1 := P1 1 2 E (S.at (0, 0, 1) (by decide +kernel)) (S.at (1, 0, 2) (by decide +kernel)) (by decide) (by decide) (by decide) w1 hE
  have q2 := P2 211 212 E ⟨S1.at (205, 8, 211) (by decide +kernel), S1.at (205, 15, 212) (by decide +kernel), by decide, by decide, by decide, e205.trans w9, hE⟩
  intro k
  have cuE : cu (za h2) 1 k = (q_i (zv h1 2 k)).toInt := by
    show (q_i (zv h2 (q_r (zv h2 1 0)) k)).toInt = _
    rw [S2.at (1, 0, 2) (by decide +kernel)]
    exact congrArg (fun v => (q_i v).toInt) (e2 k)
  have rbE : rb (za h2) 205 k = (q_i (zv h2 211 k)).toInt := by
    show (q_i (zv h2 (q_r (zv h2 205 8)) k)).toInt = _
    rw [S2.at (205, 8, 211) (by decide +kernel)]
    rfl
  have cu0 : cu (za h) 1 k = (q_i (zv h 2 k)).toInt := by
    show (q_i (zv h (q_r (zv h 1 0)) k)).toInt = _
    rw [S.at (1, 0, 2) (by decide +kernel)]
    rfl
  have rb0 : rb (za h) 205 k = (q_i (zv h 211 k)).toInt := by
    show (q_i (zv h (q_r (zv h 205 8)) k)).toInt = _
    rw [S.at (205, 8, 211) (by decide +kernel)]
    rfl
  have hY := Y k
  unfold cb at hY ⊢
  rw [cu0, rb0] at hY
  rw [cuE, rbE]
  by_cases hr : E + 20 ≤ 400
  · obtain ⟨-, g1⟩ := q1.1 hr
    obtain ⟨-, g2, -, -, g3⟩ := q2.1 hr
    have hv1 : ∀ k, zv h1 2 k = (cAp (za h) 1 2 E (cFv v1 v2 v3 v4 v5) 20).1 2 k := fun k => by
      show (za h1).1 2 k = _
      rw [g1]
    by_cases hk : E ≤ k ∧ k < E + 20
    · have a1 : zv h1 2 k = .int (cFv v1 v2 v3 v4 v5 (k - E)) := by
        rw [hv1]
        have := cAp_at (σ := za h) (t := 1) (B := 2) (E := E) (j := 20) (i := k - E) (f := cFv v1 v2 v3 v4 v5) (by omega)
        rw [show E + (k - E) = k by omega] at this
        exact this
      have a2 : zv h2 211 k = .int (rFv v1 v2 v3 v4 v5 (k - E)) := by
        have := g3 (k - E) (by omega)
        rw [show E + (k - E) = k by omega] at this
        exact this
      rw [a1, a2]
      have hn : byN (24 - 8 * ((k - E) % 4)) := by unfold byN; omega
      exact ⟨(cby_le _ hn).1, (cby_le _ hn).2, cby_rby _ hn⟩
    · have a1 : zv h1 2 k = zv h 2 k := (hv1 k).trans (cAp_ne (fun q => hk q.2) (fun q => absurd q.1 (by decide)))
      have a2 : zv h2 211 k = zv h 211 k := (g2.2 211 k (fun q => absurd q.1 (by decide)) (fun q => hk q.2) (by decide)).trans (e211 k)
      rw [a1, a2]
      exact hY
  · have g1 := (q1.2 (by omega)).2
    have g2 := (q2.2 (by omega)).2
    have a1 : zv h1 2 k = zv h 2 k := by
      show (za h1).1 2 k = _
      rw [g1]
      rfl
    have a2 : zv h2 211 k = zv h 211 k := by
      show (za h2).1 211 k = _
      rw [g2]
      exact (q_w_ne (fun e _ => absurd e (by decide))).trans (e211 k)
    rw [a1, a2]
    exact hY
end
section
/-! the class's deed, image, back, undo, exact; printed with wip/gen/gen_db.py -/
noncomputable def xSk (σ : zSg) : Prop := σ.1 0 0 = .ref 1 ∧ σ.1 0 2 = .ref 8 ∧ σ.1 0 3 = .ref 21 ∧ σ.1 0 4 = .ref 34 ∧ σ.1 0 5 = .ref 47
theorem xSk.q {σ : zSg} (K : xSk σ) : q_r (σ.1 0 0) = 1 ∧ q_r (σ.1 0 2) = 8 ∧ q_r (σ.1 0 3) = 21 ∧ q_r (σ.1 0 4) = 34 ∧ q_r (σ.1 0 5) = 47 := by
  obtain ⟨h1, h2, h3, h4, h5⟩ := K
  rw [h1, h2, h3, h4, h5]
  exact ⟨rfl, rfl, rfl, rfl, rfl⟩
theorem xSk.of {σ τ : zSg} (K : xSk σ) (h : ∀ k, k ≤ 5 → τ.1 0 k = σ.1 0 k) : xSk τ := by
  obtain ⟨h1, h2, h3, h4, h5⟩ := K
  exact ⟨by rw [h 0 (by omega)]; exact h1, by rw [h 2 (by omega)]; exact h2, by rw [h 3 (by omega)]; exact h3, by rw [h 4 (by omega)]; exact h4, by rw [h 5 (by omega)]; exact h5⟩
theorem cS0.el {σ τ : zSg} {E : Nat} (K : cS0 σ 1 E) (h0 : σ.1 1 0 = .ref 2) (h1 : ∀ k, τ.1 1 k = σ.1 1 k) (h2 : ∀ k, τ.1 2 k = σ.1 2 k) : cS0 τ 1 E ∧ cb τ 1 = cb σ 1 := by
  have gb : cu τ 1 = cu σ 1 := by
    funext i
    unfold cu
    rw [h1 0, h0]
    show (q_i (τ.1 2 i)).toInt = (q_i (σ.1 2 i)).toInt
    rw [h2]
  refine ⟨?_, ?_⟩
  · unfold cS0 at K ⊢
    rw [h1 0, h1 1, gb]
    exact K
  · funext i
    unfold cb
    rw [gb]
/-- ahead of a deed -/
noncomputable def xD (σ : zSg) (b : Nat → Int) (E nf nt tx : Nat) (H D0 : Nat → Int32) : Prop := xSk σ ∧ cS0 σ 1 E ∧ cb σ 1 = b ∧ σ.1 1 0 = .ref 2 ∧ hH σ 8 H ∧ dC nf nt H ∧ H 2 = Int32.ofNat tx ∧ tx ≤ 12 ∧ hH σ 21 D0
noncomputable def xDF (σ σ' : zSg) : Prop := σ'.2 = σ.2 ∧ ∀ c k, ¬ (c = 0 ∧ k = 7) → ¬ (c = 1 ∧ (k = 1 ∨ k = 2 ∨ k = 3)) → ¬ (8 ≤ c ∧ c ≤ 33) → ¬ (c = 47 ∧ k = 2) → σ'.1 c k = σ.1 c k
abbrev xDo (σ σ' : zSg) (nf nt tx : Nat) (H : Nat → Int32) (e : Int32 ⊕ Nat) (R : List dOp ⊕ Nat) : Prop := match R with
  | .inl os => σ'.1 0 7 = .int (Int32.ofInt (-1)) ∧ (tx = 12 → e = .inr 1 ∧ hH σ' 8 H ∧ σ'.1 47 2 = σ.1 47 2) ∧ (tx < 12 → e = .inl (Int32.ofNat (tx + 1)) ∧ hH σ' 8 (aU (dApps os nf nt H) 2 (Int32.ofNat (tx + 1))) ∧ σ'.1 47 2 = .int (Int32.ofInt 0))
  | .inr F => e = .inr 0 ∧ σ'.1 0 7 = .int (Int32.ofNat F) ∧ hH σ' 8 H ∧ σ'.1 47 2 = σ.1 47 2
noncomputable def p_120 (a : Nat) (σ : zSg) (e : Int32 ⊕ Nat) (σ' : zSg) : Prop := a = 0 → ∀ b E nf nt tx H D0, xD σ b E nf nt tx H D0 → xDF σ σ' ∧ (∃ D', hH σ' 21 D') ∧ σ'.1 1 1 = .int (Int32.ofInt 0) ∧ σ'.1 8 5 = σ.1 8 5 ∧ xDo σ σ' nf nt tx H e (dDeed b E nf nt)
theorem sp_120_ett (a0 : Nat) (σ : zSg) (τ1 : zSg) (τ2 : zSg) (r2 : Int32) (τ5 : zSg) (τ6 : zSg) (g1 : p_23 (q_r (σ.1 a0 3)) (q_r (σ.1 a0 2)) σ τ1) (g2 : p_0 (q_r (τ1.1 a0 3)) (q_r (τ1.1 a0 0)) τ1 r2 τ2) (h3 : (q_i ((q_w (q_w τ2 a0 7 (.int r2)) (q_r ((q_w τ2 a0 7 (.int r2)).1 a0 0)) 1 (.int (Int32.ofInt (0)))).1 a0 7)).toInt = (-1 : Int)) (h4 : (q_i ((q_w (q_w τ2 a0 7 (.int r2)) (q_r ((q_w τ2 a0 7 (.int r2)).1 a0 0)) 1 (.int (Int32.ofInt (0)))).1 (q_r ((q_w (q_w τ2 a0 7 (.int r2)) (q_r ((q_w τ2 a0 7 (.int r2)).1 a0 0)) 1 (.int (Int32.ofInt (0)))).1 a0 2)) 6)).toInt < (12 : Int)) (g5 : p_23 (q_r ((q_w (q_w τ2 a0 7 (.int r2)) (q_r ((q_w τ2 a0 7 (.int r2)).1 a0 0)) 1 (.int (Int32.ofInt (0)))).1 a0 2)) (q_r ((q_w (q_w τ2 a0 7 (.int r2)) (q_r ((q_w τ2 a0 7 (.int r2)).1 a0 0)) 1 (.int (Int32.ofInt (0)))).1 a0 3)) (q_w (q_w τ2 a0 7 (.int r2)) (q_r ((q_w τ2 a0 7 (.int r2)).1 a0 0)) 1 (.int (Int32.ofInt (0)))) τ5) (g6 : p_64 (q_r ((q_w τ5 (q_r (τ5.1 a0 2)) 6 (.int ((q_i (τ5.1 (q_r (τ5.1 a0 2)) 6)) + (Int32.ofInt (1))))).1 a0 5)) (q_w τ5 (q_r (τ5.1 a0 2)) 6 (.int ((q_i (τ5.1 (q_r (τ5.1 a0 2)) 6)) + (Int32.ofInt (1))))) τ6) :
    p_120 (a0) σ (.inl (q_i (τ6.1 (q_r (τ6.1 a0 2)) 6))) τ6 := by
  rintro rfl b E nf nt tx H D0 ⟨K, s0, sb, s2, K8, hc, h2, ht, KD⟩
  have q0 := K.q
  rw [q0.2.1, q0.2.2.1] at g1
  have I1 := g1 (by unfold dsj; omega) KD.ks K8.ks K8.ii
  obtain ⟨G1, G5⟩ := I1.hH K8 KD
  have e1 : ∀ c k, ¬ (21 ≤ c ∧ c ≤ 33) → τ1.1 c k = σ.1 c k := fun c k q => I1.fr (by omega)
  have K1 : xSk τ1 := K.of (fun k _ => e1 0 k (by omega))
  have q1 := K1.q
  rw [q1.1, q1.2.2.1] at g2
  obtain ⟨t0, tb⟩ := s0.el s2 (fun k => e1 1 k (by omega)) (fun k => e1 2 k (by omega))
  obtain ⟨f2, R⟩ := g2 rfl rfl b E nf nt H ⟨t0, tb.trans sb, by rw [e1 1 0 (by omega)]; exact s2, G1, hc⟩
  have e2 : ∀ c k, ¬ (c = 1 ∧ (k = 2 ∨ k = 3)) → ¬ (21 ≤ c ∧ c ≤ 33 ∧ ¬ (c = 21 ∧ k = 5)) → τ2.1 c k = τ1.1 c k := f2.2
  have K2 : xSk τ2 := K1.of (fun k _ => e2 0 k (by omega) (by omega))
  have q2 : q_r ((q_w τ2 0 7 (.int r2)).1 0 0) = 1 := by rw [q_w_ne (fun _ q => by omega)]; exact K2.q.1
  have L8 : hH τ2 8 H := (K8.fr I1.1 (fun c j h1 h2 => e1 c j (by omega))).fr f2.1 (fun c j h1 h2 => e2 c j (by omega) (by omega))
  have M8 : hH (q_w (q_w τ2 0 7 (.int r2)) 1 1 (.int (Int32.ofInt 0))) 8 H := (L8.el (by omega)).el (by omega)
  have K3 : xSk (q_w (q_w τ2 0 7 (.int r2)) 1 1 (.int (Int32.ofInt 0))) := K2.of (fun k _ => by rw [q_w_ne (fun q _ => by omega), q_w_ne (fun _ q => by omega)])
  have q3 := K3.q
  have v7 : (q_w (q_w τ2 0 7 (.int r2)) 1 1 (.int (Int32.ofInt 0))).1 0 7 = .int r2 := by rw [q_w_ne (fun q _ => by omega), q_w_at]
  have v5 : (q_w (q_w τ2 0 7 (.int r2)) 1 1 (.int (Int32.ofInt 0))).1 8 5 = σ.1 8 5 := by rw [q_w_ne (fun q _ => by omega), q_w_ne (fun q _ => by omega), e2 8 5 (by omega) (by omega), e1 8 5 (by omega)]
  have v47 : (q_w (q_w τ2 0 7 (.int r2)) 1 1 (.int (Int32.ofInt 0))).1 47 2 = σ.1 47 2 := by rw [q_w_ne (fun q _ => by omega), q_w_ne (fun q _ => by omega), e2 47 2 (by omega) (by omega), e1 47 2 (by omega)]
  have ff : xDF σ (q_w (q_w τ2 0 7 (.int r2)) 1 1 (.int (Int32.ofInt 0))) := ⟨f2.1.trans I1.1, fun c k p1 p2 p3 p4 => by
    rw [q_w_ne (fun e8 e9 => p2 ⟨e8, by omega⟩), q_w_ne (fun e8 e9 => p1 ⟨e8, e9⟩), e2 c k (fun q => p2 ⟨q.1, by omega⟩) (by omega), e1 c k (by omega)]⟩
  simp only [q2, q3.2.1, q3.2.2.1, q3.2.2.2.2, v7, q_ii] at *
  have v7 : (q_w (q_w τ2 0 7 (.int r2)) 1 1 (.int (Int32.ofInt 0))).1 0 7 = .int r2 := by rw [q_w_ne (fun q _ => by omega), q_w_at]
  cases hD : dDeed b E nf nt with
  | inr F =>
    rw [hD] at R
    obtain ⟨eX, hF, -⟩ := R
    rw [eX, o32 (by omega)] at h3
    omega
  | inl os =>
    rw [hD] at R
    obtain ⟨eX, hD', -⟩ := R
    have p2 := (M8.p hp_2).trans h2
    rw [p2, o32 (by omega)] at h4
    have eX' : r2 = Int32.ofInt (-1) := Int32.toInt_inj.mp eX
    have M21 := (hD'.el (c := 0) (k := 7) (v := .int r2) (by omega)).el (c := 1) (k := 1) (v := .int (Int32.ofInt 0)) (by omega)
    have I3 := g5 (by unfold dsj; omega) M8.ks M21.ks M21.ii
    obtain ⟨g1, g2⟩ := I3.hH M21 M8
    have e3 : ∀ c k, ¬ (8 ≤ c ∧ c ≤ 20) → τ5.1 c k = (q_w (q_w τ2 0 7 (.int r2)) 1 1 (.int (Int32.ofInt 0))).1 c k := fun c k q => I3.fr (by omega)
    have K4 : xSk τ5 := K3.of (fun k _ => e3 0 k (by omega))
    have q4 := K4.q
    have i6 : q_i (τ5.1 8 6) = Int32.ofNat tx := by rw [g1.p hp_2, dApps_ne hD hc.2.1 hc.2.2.2.1 (by omega)]; exact h2
    have i7 : Int32.ofNat tx + Int32.ofInt 1 = Int32.ofNat (tx + 1) := o32i (by omega)
    have N8 := g1.ww (v := Int32.ofNat (tx + 1)) hp_2
    have K5 : xSk (q_w τ5 8 6 (.int (Int32.ofNat (tx + 1)))) := K4.of (fun k _ => by rw [q_w_ne (fun q _ => by omega)])
    simp only [q4.2.1, i6, i7, K5.q.2.2.2.2] at g6
    obtain rfl := g6
    have O8 := N8.el (c := 47) (k := 2) (v := .int (Int32.ofInt 0)) (by omega)
    have K6 : xSk (q_w (q_w τ5 8 6 (.int (Int32.ofNat (tx + 1)))) 47 2 (.int (Int32.ofInt 0))) := K5.of (fun k _ => by rw [q_w_ne (fun q _ => by omega)])
    have i8 := (O8.p hp_2).trans aU_at
    simp only [K6.q.2.1, i8]
    refine ⟨⟨I3.1.trans ff.1, fun c k p1 p2 p3 p4 => ?_⟩, ⟨_, ((M21.ho I3 (by unfold dsj; omega)).el (by omega)).el (by omega)⟩, ?_, ?_, ?_, fun h => absurd h (by omega), fun _ => ⟨rfl, O8, q_w_at _ _ _ _⟩⟩
    · rw [q_w_ne (fun e8 e9 => p4 ⟨e8, e9⟩), q_w_ne (fun e8 e9 => by omega), e3 c k (by omega)]; exact ff.2 c k p1 p2 p3 p4
    · rw [q_w_ne (fun q _ => by omega), q_w_ne (fun q _ => by omega), e3 1 1 (by omega), q_w_at]
    · rw [q_w_ne (fun q _ => by omega), q_w_ne (fun _ q => by omega), g2, q_w_ne (fun q _ => by omega), q_w_ne (fun q _ => by omega), e2 21 5 (by omega) (by omega)]; exact G5
    · rw [q_w_ne (fun q _ => by omega), q_w_ne (fun q _ => by omega), e3 0 7 (by omega), v7, eX']
theorem sp_120_etf (a0 : Nat) (σ : zSg) (τ1 : zSg) (τ2 : zSg) (r2 : Int32) (g1 : p_23 (q_r (σ.1 a0 3)) (q_r (σ.1 a0 2)) σ τ1) (g2 : p_0 (q_r (τ1.1 a0 3)) (q_r (τ1.1 a0 0)) τ1 r2 τ2) (h3 : (q_i ((q_w (q_w τ2 a0 7 (.int r2)) (q_r ((q_w τ2 a0 7 (.int r2)).1 a0 0)) 1 (.int (Int32.ofInt (0)))).1 a0 7)).toInt = (-1 : Int)) (h4 : (q_i ((q_w (q_w τ2 a0 7 (.int r2)) (q_r ((q_w τ2 a0 7 (.int r2)).1 a0 0)) 1 (.int (Int32.ofInt (0)))).1 (q_r ((q_w (q_w τ2 a0 7 (.int r2)) (q_r ((q_w τ2 a0 7 (.int r2)).1 a0 0)) 1 (.int (Int32.ofInt (0)))).1 a0 2)) 6)).toInt ≥ (12 : Int)) :
    p_120 (a0) σ (.inr 1) (q_w (q_w τ2 a0 7 (.int r2)) (q_r ((q_w τ2 a0 7 (.int r2)).1 a0 0)) 1 (.int (Int32.ofInt (0)))) := by
  rintro rfl b E nf nt tx H D0 ⟨K, s0, sb, s2, K8, hc, h2, ht, KD⟩
  have q0 := K.q
  rw [q0.2.1, q0.2.2.1] at g1
  have I1 := g1 (by unfold dsj; omega) KD.ks K8.ks K8.ii
  obtain ⟨G1, G5⟩ := I1.hH K8 KD
  have e1 : ∀ c k, ¬ (21 ≤ c ∧ c ≤ 33) → τ1.1 c k = σ.1 c k := fun c k q => I1.fr (by omega)
  have K1 : xSk τ1 := K.of (fun k _ => e1 0 k (by omega))
  have q1 := K1.q
  rw [q1.1, q1.2.2.1] at g2
  obtain ⟨t0, tb⟩ := s0.el s2 (fun k => e1 1 k (by omega)) (fun k => e1 2 k (by omega))
  obtain ⟨f2, R⟩ := g2 rfl rfl b E nf nt H ⟨t0, tb.trans sb, by rw [e1 1 0 (by omega)]; exact s2, G1, hc⟩
  have e2 : ∀ c k, ¬ (c = 1 ∧ (k = 2 ∨ k = 3)) → ¬ (21 ≤ c ∧ c ≤ 33 ∧ ¬ (c = 21 ∧ k = 5)) → τ2.1 c k = τ1.1 c k := f2.2
  have K2 : xSk τ2 := K1.of (fun k _ => e2 0 k (by omega) (by omega))
  have q2 : q_r ((q_w τ2 0 7 (.int r2)).1 0 0) = 1 := by rw [q_w_ne (fun _ q => by omega)]; exact K2.q.1
  have L8 : hH τ2 8 H := (K8.fr I1.1 (fun c j h1 h2 => e1 c j (by omega))).fr f2.1 (fun c j h1 h2 => e2 c j (by omega) (by omega))
  have M8 : hH (q_w (q_w τ2 0 7 (.int r2)) 1 1 (.int (Int32.ofInt 0))) 8 H := (L8.el (by omega)).el (by omega)
  have K3 : xSk (q_w (q_w τ2 0 7 (.int r2)) 1 1 (.int (Int32.ofInt 0))) := K2.of (fun k _ => by rw [q_w_ne (fun q _ => by omega), q_w_ne (fun _ q => by omega)])
  have q3 := K3.q
  have v7 : (q_w (q_w τ2 0 7 (.int r2)) 1 1 (.int (Int32.ofInt 0))).1 0 7 = .int r2 := by rw [q_w_ne (fun q _ => by omega), q_w_at]
  have v5 : (q_w (q_w τ2 0 7 (.int r2)) 1 1 (.int (Int32.ofInt 0))).1 8 5 = σ.1 8 5 := by rw [q_w_ne (fun q _ => by omega), q_w_ne (fun q _ => by omega), e2 8 5 (by omega) (by omega), e1 8 5 (by omega)]
  have v47 : (q_w (q_w τ2 0 7 (.int r2)) 1 1 (.int (Int32.ofInt 0))).1 47 2 = σ.1 47 2 := by rw [q_w_ne (fun q _ => by omega), q_w_ne (fun q _ => by omega), e2 47 2 (by omega) (by omega), e1 47 2 (by omega)]
  have ff : xDF σ (q_w (q_w τ2 0 7 (.int r2)) 1 1 (.int (Int32.ofInt 0))) := ⟨f2.1.trans I1.1, fun c k p1 p2 p3 p4 => by
    rw [q_w_ne (fun e8 e9 => p2 ⟨e8, by omega⟩), q_w_ne (fun e8 e9 => p1 ⟨e8, e9⟩), e2 c k (fun q => p2 ⟨q.1, by omega⟩) (by omega), e1 c k (by omega)]⟩
  simp only [q2, q3.2.1, q3.2.2.1, q3.2.2.2.2, v7, q_ii] at *
  have v7 : (q_w (q_w τ2 0 7 (.int r2)) 1 1 (.int (Int32.ofInt 0))).1 0 7 = .int r2 := by rw [q_w_ne (fun q _ => by omega), q_w_at]
  cases hD : dDeed b E nf nt with
  | inr F =>
    rw [hD] at R
    obtain ⟨eX, hF, -⟩ := R
    rw [eX, o32 (by omega)] at h3
    omega
  | inl os =>
    rw [hD] at R
    obtain ⟨eX, hD', -⟩ := R
    have p2 := (M8.p hp_2).trans h2
    rw [p2, o32 (by omega)] at h4
    have eX' : r2 = Int32.ofInt (-1) := Int32.toInt_inj.mp eX
    exact ⟨ff, ⟨_, (hD'.el (by omega)).el (by omega)⟩, q_w_at _ _ _ _, v5, by rw [v7, eX'], fun _ => ⟨rfl, M8, v47⟩, fun h => absurd h4 (by omega)⟩
theorem sp_120_ef (a0 : Nat) (σ : zSg) (τ1 : zSg) (τ2 : zSg) (r2 : Int32) (g1 : p_23 (q_r (σ.1 a0 3)) (q_r (σ.1 a0 2)) σ τ1) (g2 : p_0 (q_r (τ1.1 a0 3)) (q_r (τ1.1 a0 0)) τ1 r2 τ2) (h3 : (q_i ((q_w (q_w τ2 a0 7 (.int r2)) (q_r ((q_w τ2 a0 7 (.int r2)).1 a0 0)) 1 (.int (Int32.ofInt (0)))).1 a0 7)).toInt ≠ (-1 : Int)) :
    p_120 (a0) σ (.inr 0) (q_w (q_w τ2 a0 7 (.int r2)) (q_r ((q_w τ2 a0 7 (.int r2)).1 a0 0)) 1 (.int (Int32.ofInt (0)))) := by
  rintro rfl b E nf nt tx H D0 ⟨K, s0, sb, s2, K8, hc, h2, ht, KD⟩
  have q0 := K.q
  rw [q0.2.1, q0.2.2.1] at g1
  have I1 := g1 (by unfold dsj; omega) KD.ks K8.ks K8.ii
  obtain ⟨G1, G5⟩ := I1.hH K8 KD
  have e1 : ∀ c k, ¬ (21 ≤ c ∧ c ≤ 33) → τ1.1 c k = σ.1 c k := fun c k q => I1.fr (by omega)
  have K1 : xSk τ1 := K.of (fun k _ => e1 0 k (by omega))
  have q1 := K1.q
  rw [q1.1, q1.2.2.1] at g2
  obtain ⟨t0, tb⟩ := s0.el s2 (fun k => e1 1 k (by omega)) (fun k => e1 2 k (by omega))
  obtain ⟨f2, R⟩ := g2 rfl rfl b E nf nt H ⟨t0, tb.trans sb, by rw [e1 1 0 (by omega)]; exact s2, G1, hc⟩
  have e2 : ∀ c k, ¬ (c = 1 ∧ (k = 2 ∨ k = 3)) → ¬ (21 ≤ c ∧ c ≤ 33 ∧ ¬ (c = 21 ∧ k = 5)) → τ2.1 c k = τ1.1 c k := f2.2
  have K2 : xSk τ2 := K1.of (fun k _ => e2 0 k (by omega) (by omega))
  have q2 : q_r ((q_w τ2 0 7 (.int r2)).1 0 0) = 1 := by rw [q_w_ne (fun _ q => by omega)]; exact K2.q.1
  have L8 : hH τ2 8 H := (K8.fr I1.1 (fun c j h1 h2 => e1 c j (by omega))).fr f2.1 (fun c j h1 h2 => e2 c j (by omega) (by omega))
  have M8 : hH (q_w (q_w τ2 0 7 (.int r2)) 1 1 (.int (Int32.ofInt 0))) 8 H := (L8.el (by omega)).el (by omega)
  have K3 : xSk (q_w (q_w τ2 0 7 (.int r2)) 1 1 (.int (Int32.ofInt 0))) := K2.of (fun k _ => by rw [q_w_ne (fun q _ => by omega), q_w_ne (fun _ q => by omega)])
  have q3 := K3.q
  have v7 : (q_w (q_w τ2 0 7 (.int r2)) 1 1 (.int (Int32.ofInt 0))).1 0 7 = .int r2 := by rw [q_w_ne (fun q _ => by omega), q_w_at]
  have v5 : (q_w (q_w τ2 0 7 (.int r2)) 1 1 (.int (Int32.ofInt 0))).1 8 5 = σ.1 8 5 := by rw [q_w_ne (fun q _ => by omega), q_w_ne (fun q _ => by omega), e2 8 5 (by omega) (by omega), e1 8 5 (by omega)]
  have v47 : (q_w (q_w τ2 0 7 (.int r2)) 1 1 (.int (Int32.ofInt 0))).1 47 2 = σ.1 47 2 := by rw [q_w_ne (fun q _ => by omega), q_w_ne (fun q _ => by omega), e2 47 2 (by omega) (by omega), e1 47 2 (by omega)]
  have ff : xDF σ (q_w (q_w τ2 0 7 (.int r2)) 1 1 (.int (Int32.ofInt 0))) := ⟨f2.1.trans I1.1, fun c k p1 p2 p3 p4 => by
    rw [q_w_ne (fun e8 e9 => p2 ⟨e8, by omega⟩), q_w_ne (fun e8 e9 => p1 ⟨e8, e9⟩), e2 c k (fun q => p2 ⟨q.1, by omega⟩) (by omega), e1 c k (by omega)]⟩
  simp only [q2, q3.2.1, q3.2.2.1, q3.2.2.2.2, v7, q_ii] at *
  have v7 : (q_w (q_w τ2 0 7 (.int r2)) 1 1 (.int (Int32.ofInt 0))).1 0 7 = .int r2 := by rw [q_w_ne (fun q _ => by omega), q_w_at]
  cases hD : dDeed b E nf nt with
  | inl os => rw [hD] at R; exact absurd R.1 h3
  | inr F =>
    rw [hD] at R
    obtain ⟨eX, hF, D', hD'⟩ := R
    exact ⟨ff, ⟨D', (hD'.el (by omega)).el (by omega)⟩, q_w_at _ _ _ _, v5, rfl, by rw [v7, eX], M8, v47⟩
noncomputable def qP_120 : zPp := fun as σ o σ' => match as with
  | [a0] => (∃ r, o = .inl (some (.int r)) ∧ p_120 (q_r a0) σ (.inl r) σ') ∨ (o = .inr 0 ∧ p_120 (q_r a0) σ (.inr 0) σ') ∨ (o = .inr 1 ∧ p_120 (q_r a0) σ (.inr 1) σ')
  | _ => True
set_option maxRecDepth 100000 in
theorem sp_120 {sx : zX} (S23 : zEe sx 23 2 qP_23) (S0 : zEe sx 0 2 qP_0) (S64 : zEe sx 64 1 qP_64) : zEe sx 120 1 qP_120 := by
  refine zfle zJ_120 (sps := [(23, 2, qP_23), (0, 2, qP_0), (64, 1, qP_64)]) (fun q hq => by
    simp only [List.mem_cons, List.not_mem_nil, or_false] at hq
    rcases hq with rfl | rfl | rfl
    · exact S23
    · exact S0
    · exact S64) (fun as σ hl => ?_)
  match as, hl with
  | [a0], _ =>
  refine ⟨[], 400, ?_, ?_⟩
  · exact fun q hq => absurd hq List.not_mem_nil
  · refine fun o1 τ1 g1 => ?_
    obtain ⟨rfl, g1⟩ := g1
    refine fun o2 τ2 g2 => ?_
    obtain ⟨r2, rfl, g2⟩ := g2
    refine And.intro (fun h3 => ?_) (fun h3 => ?_)
    · refine And.intro (fun h4 => ?_) (fun h4 => ?_)
      · refine fun o5 τ5 g5 => ?_
        obtain ⟨rfl, g5⟩ := g5
        refine fun o6 τ6 g6 => ?_
        obtain ⟨rfl, g6⟩ := g6
        exact Or.inl ⟨_, rfl, sp_120_ett (q_r a0) σ τ1 τ2 r2 τ5 τ6 g1 g2 (cm0t h3) (cm2t h4) g5 g6⟩
      · exact Or.inr (Or.inr (⟨rfl, sp_120_etf (q_r a0) σ τ1 τ2 r2 g1 g2 (cm0t h3) (cm2f h4)⟩))
    · exact Or.inr (Or.inl (⟨rfl, sp_120_ef (q_r a0) σ τ1 τ2 r2 g1 g2 (cm0f h3)⟩))
theorem zJ_163 : zJ3 163 z_m163 z_c163 z_h163 := ⟨rfl, rfl, rfl⟩
noncomputable def p_163 (a : Nat) (σ σ' : zSg) : Prop := a = 0 → xSk σ → ∀ A B, hH σ 8 A → hH σ 34 B → (σ'.2 = σ.2 ∧ ∀ c k, ¬ (c = 0 ∧ k = 6) → ¬ (34 ≤ c ∧ c ≤ 46) → σ'.1 c k = σ.1 c k) ∧ hH σ' 34 A ∧ σ'.1 34 5 = σ.1 8 5 ∧ σ'.1 0 6 = .int (Int32.ofInt 1)
theorem sp_163_e (a0 : Nat) (σ : zSg) (τ1 : zSg) (g1 : p_23 (q_r (σ.1 a0 4)) (q_r (σ.1 a0 2)) σ τ1) :
    p_163 (a0) σ (q_w τ1 a0 6 (.int (Int32.ofInt (1)))) := by
  rintro rfl K A B K8 K34
  have q0 := K.q
  rw [q0.2.1, q0.2.2.2.1] at g1
  have I := g1 (by unfold dsj; omega) K34.ks K8.ks K8.ii
  obtain ⟨g1, g2⟩ := I.hH K8 K34
  refine ⟨⟨I.1, fun c k p1 p2 => ?_⟩, g1.el (by omega), ?_, q_w_at _ _ _ _⟩
  · rw [q_w_ne (fun e8 e9 => p1 ⟨e8, e9⟩)]; exact I.fr (by omega)
  · rw [q_w_ne (fun q _ => by omega)]; exact g2
noncomputable def qP_163 : zPp := fun as σ o σ' => match as with
  | [a0] => o = .inl none ∧ p_163 (q_r a0) σ σ'
  | _ => True
set_option maxRecDepth 100000 in
theorem sp_163 {sx : zX} (S23 : zEe sx 23 2 qP_23) : zEe sx 163 1 qP_163 := by
  refine zfle zJ_163 (sps := [(23, 2, qP_23)]) (fun q hq => by
    simp only [List.mem_cons, List.not_mem_nil, or_false] at hq
    rcases hq with rfl
    · exact S23) (fun as σ hl => ?_)
  match as, hl with
  | [a0], _ =>
  refine ⟨[], 400, ?_, ?_⟩
  · exact fun q hq => absurd hq List.not_mem_nil
  · refine fun o1 τ1 g1 => ?_
    obtain ⟨rfl, g1⟩ := g1
    exact ⟨rfl, sp_163_e (q_r a0) σ τ1 g1⟩
theorem zJ_164 : zJ3 164 z_m164 z_c164 z_h164 := ⟨rfl, rfl, rfl⟩
noncomputable def p_164 (a : Nat) (σ : zSg) (r : Int32) (σ' : zSg) : Prop := a = 0 → xSk σ → ∀ A B, hH σ 8 A → hH σ 34 B → ((q_i (σ.1 0 6)).toInt = 0 → r = Int32.ofInt 0 ∧ σ' = σ) ∧ ((q_i (σ.1 0 6)).toInt ≠ 0 → r = Int32.ofInt 1 ∧ (σ'.2 = σ.2 ∧ ∀ c k, ¬ (c = 47 ∧ k = 2) → ¬ (8 ≤ c ∧ c ≤ 20) → σ'.1 c k = σ.1 c k) ∧ hH σ' 8 B ∧ σ'.1 8 5 = σ.1 34 5 ∧ σ'.1 47 2 = .int (Int32.ofInt 0))
theorem sp_164_et (a0 : Nat) (σ : zSg) (τ2 : zSg) (τ3 : zSg) (h1 : (q_i (σ.1 a0 6)).toInt ≠ (0 : Int)) (g2 : p_23 (q_r (σ.1 a0 2)) (q_r (σ.1 a0 4)) σ τ2) (g3 : p_64 (q_r (τ2.1 a0 5)) τ2 τ3) :
    p_164 (a0) σ (Int32.ofInt (1)) τ3 := by
  rintro rfl K A B K8 K34
  refine ⟨fun h => absurd h h1, fun _ => ?_⟩
  have q0 := K.q
  rw [q0.2.1, q0.2.2.2.1] at g2
  have I := g2 (by unfold dsj; omega) K8.ks K34.ks K34.ii
  obtain ⟨g1, g2⟩ := I.hH K34 K8
  have K1 : xSk τ2 := K.of (fun k _ => I.fr (by omega))
  rw [K1.q.2.2.2.2] at g3
  obtain rfl := g3
  refine ⟨rfl, ⟨I.1, fun c k p1 p2 => ?_⟩, g1.el (by omega), ?_, q_w_at _ _ _ _⟩
  · rw [q_w_ne (fun e8 e9 => p1 ⟨e8, e9⟩)]; exact I.fr (by omega)
  · rw [q_w_ne (fun q _ => by omega)]; exact g2
theorem sp_164_ef (a0 : Nat) (σ : zSg) (h1 : (q_i (σ.1 a0 6)).toInt = (0 : Int)) :
    p_164 (a0) σ (Int32.ofInt (0)) σ := by
  rintro rfl K A B K8 K34
  exact ⟨fun _ => ⟨rfl, rfl⟩, fun h => absurd h1 h⟩
noncomputable def qP_164 : zPp := fun as σ o σ' => match as with
  | [a0] => ∃ r, o = .inl (some (.int r)) ∧ p_164 (q_r a0) σ r σ'
  | _ => True
set_option maxRecDepth 100000 in
theorem sp_164 {sx : zX} (S23 : zEe sx 23 2 qP_23) (S64 : zEe sx 64 1 qP_64) : zEe sx 164 1 qP_164 := by
  refine zfle zJ_164 (sps := [(23, 2, qP_23), (64, 1, qP_64)]) (fun q hq => by
    simp only [List.mem_cons, List.not_mem_nil, or_false] at hq
    rcases hq with rfl | rfl
    · exact S23
    · exact S64) (fun as σ hl => ?_)
  match as, hl with
  | [a0], _ =>
  refine ⟨[], 400, ?_, ?_⟩
  · exact fun q hq => absurd hq List.not_mem_nil
  · refine And.intro (fun h1 => ?_) (fun h1 => ?_)
    · refine fun o2 τ2 g2 => ?_
      obtain ⟨rfl, g2⟩ := g2
      refine fun o3 τ3 g3 => ?_
      obtain ⟨rfl, g3⟩ := g3
      exact ⟨_, rfl, sp_164_et (q_r a0) σ τ2 τ3 (cm1t h1) g2 g3⟩
    · exact ⟨_, rfl, sp_164_ef (q_r a0) σ (cm1f h1)⟩
theorem zJ_162 : zJ3 162 z_m162 z_c162 z_h162 := ⟨rfl, rfl, rfl⟩
noncomputable def p_162 (a : Nat) (σ : zSg) (r : Int32) (σ' : zSg) : Prop := a = 0 → xSk σ → p_63 47 8 σ r σ'
theorem sp_162_e (a0 : Nat) (σ : zSg) (τ1 : zSg) (r1 : Int32) (g1 : p_63 (q_r (σ.1 a0 5)) (q_r (σ.1 a0 2)) σ r1 τ1) :
    p_162 (a0) σ r1 τ1 := by
  rintro rfl K
  have q0 := K.q
  rw [q0.2.1, q0.2.2.2.2] at g1
  exact g1
noncomputable def qP_162 : zPp := fun as σ o σ' => match as with
  | [a0] => ∃ r, o = .inl (some (.int r)) ∧ p_162 (q_r a0) σ r σ'
  | _ => True
set_option maxRecDepth 100000 in
theorem sp_162 {sx : zX} (S63 : zEe sx 63 2 qP_63) : zEe sx 162 1 qP_162 := by
  refine zfle zJ_162 (sps := [(63, 2, qP_63)]) (fun q hq => by
    simp only [List.mem_cons, List.not_mem_nil, or_false] at hq
    rcases hq with rfl
    · exact S63) (fun as σ hl => ?_)
  match as, hl with
  | [a0], _ =>
  refine ⟨[], 400, ?_, ?_⟩
  · exact fun q hq => absurd hq List.not_mem_nil
  · refine fun o1 τ1 g1 => ?_
    obtain ⟨r1, rfl, g1⟩ := g1
    exact ⟨_, rfl, sp_162_e (q_r a0) σ τ1 r1 g1⟩
theorem zJ_161 : zJ3 161 z_m161 z_c161 z_h161 := ⟨rfl, rfl, rfl⟩
noncomputable def p_161 (a : Nat) (n : Int32) (σ : zSg) (r : Int32) (σ' : zSg) : Prop := a = 0 → xSk σ → r = q_i (σ.1 8 17) ∧ σ' = q_w σ 8 17 (.int n)
theorem sp_161_e (a0 : Nat) (a1 : Int32) (σ : zSg)  :
    p_161 (a0) (a1) σ (q_i (σ.1 (q_r (σ.1 a0 2)) 17)) (q_w σ (q_r (σ.1 a0 2)) 17 (.int a1)) := by
  rintro rfl K
  have q0 := K.q
  rw [q0.2.1]
  exact ⟨rfl, rfl⟩
noncomputable def qP_161 : zPp := fun as σ o σ' => match as with
  | [a0, a1] => ∃ r, o = .inl (some (.int r)) ∧ p_161 (q_r a0) (q_i a1) σ r σ'
  | _ => True
set_option maxRecDepth 100000 in
theorem sp_161 {sx : zX}  : zEe sx 161 2 qP_161 := by
  refine zfle zJ_161 (sps := []) (fun q hq => absurd hq List.not_mem_nil) (fun as σ hl => ?_)
  match as, hl with
  | [a0, a1], _ =>
  refine ⟨[], 400, ?_, ?_⟩
  · exact fun q hq => absurd hq List.not_mem_nil
  · exact ⟨_, rfl, sp_161_e (q_r a0) (q_i a1) σ ⟩
theorem zJ_166 : zJ3 166 z_m166 z_c166 z_h166 := ⟨rfl, rfl, rfl⟩
noncomputable def p_166 (a : Nat) (h : Int32) (σ : zSg) (e : Int32 ⊕ Nat) (σ' : zSg) : Prop := σ' = σ ∧ (e = .inl 0 → 0 ≤ h.toInt ∧ h.toInt < 24) ∧ (e = .inr 2 → ¬ (0 ≤ h.toInt ∧ h.toInt < 24))
theorem sp_166_et (a0 : Nat) (a1 : Int32) (σ : zSg) (h1 : a1.toInt < (0 : Int)) :
    p_166 (a0) (a1) σ (.inr 2) σ := by
  refine ⟨rfl, fun h => ?_, fun h => ?_⟩
  · first
    | (cases h; done)
    | omega
  · first
    | (cases h; done)
    | omega
theorem sp_166_eft (a0 : Nat) (a1 : Int32) (σ : zSg) (h1 : a1.toInt ≥ (0 : Int)) (h2 : a1.toInt < (24 : Int)) :
    p_166 (a0) (a1) σ (.inl 0) σ := by
  refine ⟨rfl, fun h => ?_, fun h => ?_⟩
  · first
    | (cases h; done)
    | omega
  · first
    | (cases h; done)
    | omega
theorem sp_166_eff (a0 : Nat) (a1 : Int32) (σ : zSg) (h1 : a1.toInt ≥ (0 : Int)) (h2 : a1.toInt ≥ (24 : Int)) :
    p_166 (a0) (a1) σ (.inr 2) σ := by
  refine ⟨rfl, fun h => ?_, fun h => ?_⟩
  · first
    | (cases h; done)
    | omega
  · first
    | (cases h; done)
    | omega
noncomputable def qP_166 : zPp := fun as σ o σ' => match as with
  | [a0, a1] => (o = .inl none ∧ p_166 (q_r a0) (q_i a1) σ (.inl 0) σ') ∨ (o = .inr 2 ∧ p_166 (q_r a0) (q_i a1) σ (.inr 2) σ')
  | _ => True
set_option maxRecDepth 100000 in
theorem sp_166 {sx : zX}  : zEe sx 166 2 qP_166 := by
  refine zfle zJ_166 (sps := []) (fun q hq => absurd hq List.not_mem_nil) (fun as σ hl => ?_)
  match as, hl with
  | [a0, a1], _ =>
  refine ⟨[], 400, ?_, ?_⟩
  · exact fun q hq => absurd hq List.not_mem_nil
  · refine And.intro (fun h1 => ?_) (fun h1 => ?_)
    · exact Or.inr (⟨rfl, sp_166_et (q_r a0) (q_i a1) σ (cm2t h1)⟩)
    · refine And.intro (fun h2 => ?_) (fun h2 => ?_)
      · exact Or.inl ⟨rfl, sp_166_eft (q_r a0) (q_i a1) σ (cm2f h1) (cm2t h2)⟩
      · exact Or.inr (⟨rfl, sp_166_eff (q_r a0) (q_i a1) σ (cm2f h1) (cm2f h2)⟩)
theorem zJ_169 : zJ3 169 z_m169 z_c169 z_h169 := ⟨rfl, rfl, rfl⟩
noncomputable def p_169 (a : Nat) (w t : Int32) (σ : zSg) (e : Int32 ⊕ Nat) (σ' : zSg) : Prop := σ' = σ ∧ (e = .inl 0 → 0 ≤ w.toInt ∧ w.toInt ≤ t.toInt) ∧ (e = .inr 3 → ¬ (0 ≤ w.toInt ∧ w.toInt ≤ t.toInt))
theorem sp_169_et (a0 : Nat) (a1 : Int32) (a2 : Int32) (σ : zSg) (h1 : a1.toInt < (0 : Int)) :
    p_169 (a0) (a1) (a2) σ (.inr 3) σ := by
  refine ⟨rfl, fun h => ?_, fun h => ?_⟩
  · first
    | (cases h; done)
    | omega
  · first
    | (cases h; done)
    | omega
theorem sp_169_eft (a0 : Nat) (a1 : Int32) (a2 : Int32) (σ : zSg) (h1 : a1.toInt ≥ (0 : Int)) (h2 : a1.toInt ≤ a2.toInt) :
    p_169 (a0) (a1) (a2) σ (.inl 0) σ := by
  refine ⟨rfl, fun h => ?_, fun h => ?_⟩
  · first
    | (cases h; done)
    | omega
  · first
    | (cases h; done)
    | omega
theorem sp_169_eff (a0 : Nat) (a1 : Int32) (a2 : Int32) (σ : zSg) (h1 : a1.toInt ≥ (0 : Int)) (h2 : a1.toInt > a2.toInt) :
    p_169 (a0) (a1) (a2) σ (.inr 3) σ := by
  refine ⟨rfl, fun h => ?_, fun h => ?_⟩
  · first
    | (cases h; done)
    | omega
  · first
    | (cases h; done)
    | omega
noncomputable def qP_169 : zPp := fun as σ o σ' => match as with
  | [a0, a1, a2] => (o = .inl none ∧ p_169 (q_r a0) (q_i a1) (q_i a2) σ (.inl 0) σ') ∨ (o = .inr 3 ∧ p_169 (q_r a0) (q_i a1) (q_i a2) σ (.inr 3) σ')
  | _ => True
set_option maxRecDepth 100000 in
theorem sp_169 {sx : zX}  : zEe sx 169 3 qP_169 := by
  refine zfle zJ_169 (sps := []) (fun q hq => absurd hq List.not_mem_nil) (fun as σ hl => ?_)
  match as, hl with
  | [a0, a1, a2], _ =>
  refine ⟨[], 400, ?_, ?_⟩
  · exact fun q hq => absurd hq List.not_mem_nil
  · refine And.intro (fun h1 => ?_) (fun h1 => ?_)
    · exact Or.inr (⟨rfl, sp_169_et (q_r a0) (q_i a1) (q_i a2) σ (cm2t h1)⟩)
    · refine And.intro (fun h2 => ?_) (fun h2 => ?_)
      · exact Or.inl ⟨rfl, sp_169_eft (q_r a0) (q_i a1) (q_i a2) σ (cm2f h1) (cm5t h2)⟩
      · exact Or.inr (⟨rfl, sp_169_eff (q_r a0) (q_i a1) (q_i a2) σ (cm2f h1) (cm5f h2)⟩)
theorem zJ_170 : zJ3 170 z_m170 z_c170 z_h170 := ⟨rfl, rfl, rfl⟩
noncomputable def p_170 (a : Nat) (n l t : Int32) (σ : zSg) (e : Int32 ⊕ Nat) (σ' : zSg) : Prop := σ' = σ ∧ (e = .inl 0 → l.toInt ≤ n.toInt ∧ n.toInt ≤ t.toInt) ∧ (e = .inr 0 → ¬ (l.toInt ≤ n.toInt ∧ n.toInt ≤ t.toInt))
theorem sp_170_et (a0 : Nat) (a1 : Int32) (a2 : Int32) (a3 : Int32) (σ : zSg) (h1 : a1.toInt < a2.toInt) :
    p_170 (a0) (a1) (a2) (a3) σ (.inr 0) σ := by
  refine ⟨rfl, fun h => ?_, fun h => ?_⟩
  · first
    | (cases h; done)
    | omega
  · first
    | (cases h; done)
    | omega
theorem sp_170_eft (a0 : Nat) (a1 : Int32) (a2 : Int32) (a3 : Int32) (σ : zSg) (h1 : a1.toInt ≥ a2.toInt) (h2 : a1.toInt ≤ a3.toInt) :
    p_170 (a0) (a1) (a2) (a3) σ (.inl 0) σ := by
  refine ⟨rfl, fun h => ?_, fun h => ?_⟩
  · first
    | (cases h; done)
    | omega
  · first
    | (cases h; done)
    | omega
theorem sp_170_eff (a0 : Nat) (a1 : Int32) (a2 : Int32) (a3 : Int32) (σ : zSg) (h1 : a1.toInt ≥ a2.toInt) (h2 : a1.toInt > a3.toInt) :
    p_170 (a0) (a1) (a2) (a3) σ (.inr 0) σ := by
  refine ⟨rfl, fun h => ?_, fun h => ?_⟩
  · first
    | (cases h; done)
    | omega
  · first
    | (cases h; done)
    | omega
noncomputable def qP_170 : zPp := fun as σ o σ' => match as with
  | [a0, a1, a2, a3] => (o = .inl none ∧ p_170 (q_r a0) (q_i a1) (q_i a2) (q_i a3) σ (.inl 0) σ') ∨ (o = .inr 0 ∧ p_170 (q_r a0) (q_i a1) (q_i a2) (q_i a3) σ (.inr 0) σ')
  | _ => True
set_option maxRecDepth 100000 in
theorem sp_170 {sx : zX}  : zEe sx 170 4 qP_170 := by
  refine zfle zJ_170 (sps := []) (fun q hq => absurd hq List.not_mem_nil) (fun as σ hl => ?_)
  match as, hl with
  | [a0, a1, a2, a3], _ =>
  refine ⟨[], 400, ?_, ?_⟩
  · exact fun q hq => absurd hq List.not_mem_nil
  · refine And.intro (fun h1 => ?_) (fun h1 => ?_)
    · exact Or.inr (⟨rfl, sp_170_et (q_r a0) (q_i a1) (q_i a2) (q_i a3) σ (cm2t h1)⟩)
    · refine And.intro (fun h2 => ?_) (fun h2 => ?_)
      · exact Or.inl ⟨rfl, sp_170_eft (q_r a0) (q_i a1) (q_i a2) (q_i a3) σ (cm2f h1) (cm5t h2)⟩
      · exact Or.inr (⟨rfl, sp_170_eff (q_r a0) (q_i a1) (q_i a2) (q_i a3) σ (cm2f h1) (cm5f h2)⟩)
theorem zJ_171 : zJ3 171 z_m171 z_c171 z_h171 := ⟨rfl, rfl, rfl⟩
noncomputable def p_171 (a : Nat) (x y : Int32) (σ : zSg) (e : Int32 ⊕ Nat) (σ' : zSg) : Prop := σ' = σ ∧ (e = .inl 0 → x.toInt ≠ y.toInt) ∧ (e = .inr 0 → x.toInt = y.toInt)
theorem sp_171_et (a0 : Nat) (a1 : Int32) (a2 : Int32) (σ : zSg) (h1 : a1.toInt ≠ a2.toInt) :
    p_171 (a0) (a1) (a2) σ (.inl 0) σ := by
  refine ⟨rfl, fun h => ?_, fun h => ?_⟩
  · first
    | (cases h; done)
    | omega
  · first
    | (cases h; done)
    | omega
theorem sp_171_ef (a0 : Nat) (a1 : Int32) (a2 : Int32) (σ : zSg) (h1 : a1.toInt = a2.toInt) :
    p_171 (a0) (a1) (a2) σ (.inr 0) σ := by
  refine ⟨rfl, fun h => ?_, fun h => ?_⟩
  · first
    | (cases h; done)
    | omega
  · first
    | (cases h; done)
    | omega
noncomputable def qP_171 : zPp := fun as σ o σ' => match as with
  | [a0, a1, a2] => (o = .inl none ∧ p_171 (q_r a0) (q_i a1) (q_i a2) σ (.inl 0) σ') ∨ (o = .inr 0 ∧ p_171 (q_r a0) (q_i a1) (q_i a2) σ (.inr 0) σ')
  | _ => True
set_option maxRecDepth 100000 in
theorem sp_171 {sx : zX}  : zEe sx 171 3 qP_171 := by
  refine zfle zJ_171 (sps := []) (fun q hq => absurd hq List.not_mem_nil) (fun as σ hl => ?_)
  match as, hl with
  | [a0, a1, a2], _ =>
  refine ⟨[], 400, ?_, ?_⟩
  · exact fun q hq => absurd hq List.not_mem_nil
  · refine And.intro (fun h1 => ?_) (fun h1 => ?_)
    · exact Or.inl ⟨rfl, sp_171_et (q_r a0) (q_i a1) (q_i a2) σ (cm1t h1)⟩
    · exact Or.inr (⟨rfl, sp_171_ef (q_r a0) (q_i a1) (q_i a2) σ (cm1f h1)⟩)
theorem zJ_172 : zJ3 172 z_m172 z_c172 z_h172 := ⟨rfl, rfl, rfl⟩
noncomputable def p_172 (a : Nat) (x : Int32) (σ : zSg) (e : Int32 ⊕ Nat) (σ' : zSg) : Prop := σ' = σ ∧ (e = .inl 0 → x.toInt ≠ 0) ∧ (e = .inr 4 → x.toInt = 0)
theorem sp_172_et (a0 : Nat) (a1 : Int32) (σ : zSg) (h1 : a1.toInt ≠ (0 : Int)) :
    p_172 (a0) (a1) σ (.inl 0) σ := by
  refine ⟨rfl, fun h => ?_, fun h => ?_⟩
  · first
    | (cases h; done)
    | omega
  · first
    | (cases h; done)
    | omega
theorem sp_172_ef (a0 : Nat) (a1 : Int32) (σ : zSg) (h1 : a1.toInt = (0 : Int)) :
    p_172 (a0) (a1) σ (.inr 4) σ := by
  refine ⟨rfl, fun h => ?_, fun h => ?_⟩
  · first
    | (cases h; done)
    | omega
  · first
    | (cases h; done)
    | omega
noncomputable def qP_172 : zPp := fun as σ o σ' => match as with
  | [a0, a1] => (o = .inl none ∧ p_172 (q_r a0) (q_i a1) σ (.inl 0) σ') ∨ (o = .inr 4 ∧ p_172 (q_r a0) (q_i a1) σ (.inr 4) σ')
  | _ => True
set_option maxRecDepth 100000 in
theorem sp_172 {sx : zX}  : zEe sx 172 2 qP_172 := by
  refine zfle zJ_172 (sps := []) (fun q hq => absurd hq List.not_mem_nil) (fun as σ hl => ?_)
  match as, hl with
  | [a0, a1], _ =>
  refine ⟨[], 400, ?_, ?_⟩
  · exact fun q hq => absurd hq List.not_mem_nil
  · refine And.intro (fun h1 => ?_) (fun h1 => ?_)
    · exact Or.inl ⟨rfl, sp_172_et (q_r a0) (q_i a1) σ (cm1t h1)⟩
    · exact Or.inr (⟨rfl, sp_172_ef (q_r a0) (q_i a1) σ (cm1f h1)⟩)
end
