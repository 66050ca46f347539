/-! the reference's copies, exact; printed with wip/gen/gen_d8.py -/
noncomputable def rCy (σ : zSg) (s d os od n : Nat) : zSg := (fun c k => if c = d ∧ od ≤ k ∧ k < od + n then .int (q_i (σ.1 s (os + (k - od)))) else σ.1 c k, σ.2)
theorem rCy_0 {σ : zSg} {s d os od : Nat} : rCy σ s d os od 0 = σ := by
  unfold rCy
  refine Prod.ext ?_ rfl
  funext c k
  show (if c = d ∧ od ≤ k ∧ k < od + 0 then _ else σ.1 c k) = σ.1 c k
  rw [if_neg (by omega)]
theorem rCy_ne {σ : zSg} {s d os od n c k : Nat} (h : ¬ (c = d ∧ od ≤ k ∧ k < od + n)) : (rCy σ s d os od n).1 c k = σ.1 c k := if_neg h
theorem rCy_at {σ : zSg} {s d os od n k : Nat} (h : k < n) : (rCy σ s d os od n).1 d (od + k) = .int (q_i (σ.1 s (os + k))) := by
  show (if d = d ∧ od ≤ od + k ∧ od + k < od + n then Value.int (q_i (σ.1 s (os + (od + k - od)))) else _) = _
  rw [if_pos ⟨rfl, by omega, by omega⟩, show od + k - od = k by omega]
theorem rCy_s {σ : zSg} {s d os od n : Nat} (h : s ≠ d ∨ ¬ (od ≤ os + n ∧ os + n < od + n)) : q_w (rCy σ s d os od n) d (od + n) (.int (q_i ((rCy σ s d os od n).1 s (os + n)))) = rCy σ s d os od (n + 1) := by
  rw [rCy_ne (fun q => by omega)]
  refine Prod.ext ?_ rfl
  funext c k
  show (if c = d ∧ k = od + n then _ else (rCy σ s d os od n).1 c k) = (if c = d ∧ od ≤ k ∧ k < od + (n + 1) then _ else σ.1 c k)
  by_cases h1 : c = d ∧ k = od + n
  · rw [if_pos h1, if_pos ⟨h1.1, by omega, by omega⟩, show k - od = n by omega]
  · rw [if_neg h1]
    by_cases h2 : c = d ∧ od ≤ k ∧ k < od + n
    · rw [if_pos ⟨h2.1, by omega, by omega⟩]
      exact if_pos h2
    · rw [if_neg (by omega)]
      exact if_neg h2
theorem o32J {n : Nat} (h : n ≤ 90000) : Int32.ofNat n + Int32.ofInt 1 = Int32.ofNat (n + 1) := by
  refine Int32.toInt_inj.mp ?_
  rw [zofNat2 (by omega), zI_add (zofNat2 (by omega)) (zI_c (by omega) (by omega)) (by omega) (by omega)]
  omega
theorem o32N {n : Nat} (h : n ≤ 90000) : (Int32.ofNat n).toNatClampNeg = n := znat (zofNat2 (by omega))
theorem zadd {m n : Nat} (h : m + n ≤ 90000) : Int32.ofNat m + Int32.ofNat n = Int32.ofNat (m + n) := by
  refine Int32.toInt_inj.mp ?_
  rw [zofNat2 (by omega), zI_add (zofNat2 (by omega)) (zofNat2 (by omega)) (by omega) (by omega)]
  omega
theorem zadd388 {k : Nat} (h : k ≤ 80000) : (Int32.ofNat k + Int32.ofInt 388).toNatClampNeg = 388 + k := by
  refine znat ?_
  rw [zI_add (zofNat2 (by omega)) (zI_c (by omega) (by omega)) (by omega) (by omega)]
  omega
theorem zm388_all : (List.range 13).all (fun m => decide (Int32.ofInt 388 * Int32.ofNat m = Int32.ofNat (388 * m))) = true := by decide +kernel
theorem zm388 {m : Nat} (h : m ≤ 12) : Int32.ofInt 388 * Int32.ofNat m = Int32.ofNat (388 * m) := of_decide_eq_true (List.all_eq_true.mp zm388_all m (List.mem_range.mpr (by omega)))
/-- the reference's rows -/
noncomputable def rSk (σ : zSg) : Prop := σ.1 205 1 = .ref 206 ∧ σ.1 205 2 = .ref 207 ∧ σ.1 205 3 = .ref 208 ∧ σ.1 205 4 = .ref 209 ∧ σ.1 205 5 = .ref 210
theorem rSk.q {σ : zSg} (H : rSk σ) : q_r (σ.1 205 1) = 206 ∧ q_r (σ.1 205 2) = 207 ∧ q_r (σ.1 205 3) = 208 ∧ q_r (σ.1 205 4) = 209 ∧ q_r (σ.1 205 5) = 210 := by
  obtain ⟨h1, h2, h3, h4, h5⟩ := H
  rw [h1, h2, h3, h4, h5]
  exact ⟨rfl, rfl, rfl, rfl, rfl⟩
theorem rSk.w {σ : zSg} {k : Nat} {v : Value} (H : rSk σ) (h : k = 0 ∨ 6 ≤ k) : rSk (q_w σ 205 k v) := by
  obtain ⟨h1, h2, h3, h4, h5⟩ := H
  exact ⟨by rw [q_w_ne (fun _ q => by omega)]; exact h1, by rw [q_w_ne (fun _ q => by omega)]; exact h2, by rw [q_w_ne (fun _ q => by omega)]; exact h3, by rw [q_w_ne (fun _ q => by omega)]; exact h4, by rw [q_w_ne (fun _ q => by omega)]; exact h5⟩
theorem rSk.cy {σ : zSg} {s d os od n : Nat} (H : rSk σ) (h : d ≠ 205) : rSk (rCy σ s d os od n) := by
  obtain ⟨h1, h2, h3, h4, h5⟩ := H
  exact ⟨by rw [rCy_ne (fun q => h q.1.symm)]; exact h1, by rw [rCy_ne (fun q => h q.1.symm)]; exact h2, by rw [rCy_ne (fun q => h q.1.symm)]; exact h3, by rw [rCy_ne (fun q => h q.1.symm)]; exact h4, by rw [rCy_ne (fun q => h q.1.symm)]; exact h5⟩
noncomputable def p_180 (a : Nat) (σ σ' : zSg) : Prop := a = 205 → rSk σ → σ' = q_w (rCy (q_w σ 205 0 (.int (Int32.ofInt 0))) 206 207 0 0 1237) 205 6 (.int (Int32.ofInt 1))
noncomputable def i_180 (a : Nat) (σ : zSg) (l0 : Nat) (l1 : Int32) (τ : zSg) : Prop := l0 = a ∧ (a = 205 → rSk σ → ∃ n, n ≤ 1237 ∧ l1 = Int32.ofNat n ∧ τ = rCy (q_w σ 205 0 (.int (Int32.ofInt 0))) 206 207 0 0 n)
theorem sp_180_e (a0 : Nat) (σ : zSg)  :
    i_180 a0 σ a0 (Int32.ofInt (0)) (q_w σ a0 0 (.int (Int32.ofInt (0)))) := by
  exact ⟨rfl, fun h _ => ⟨0, by omega, rfl, by rw [rCy_0, h]⟩⟩
theorem sp_180_c5_t (a0 : Nat) (σ : zSg) (l0 : Nat) (l1 : Int32) (τ : zSg) (hI : i_180 a0 σ l0 l1 τ) (h1 : l1.toInt ≥ (1237 : Int)) :
    p_180 (a0) σ (q_w τ l0 6 (.int (Int32.ofInt (1)))) := by
  obtain ⟨rfl, hI⟩ := hI
  rintro rfl H
  obtain ⟨n, hn, rfl, rfl⟩ := hI rfl H
  rw [zofNat2 (by omega)] at h1
  have : n = 1237 := by omega
  subst this
  rfl
theorem sp_180_c5_f (a0 : Nat) (σ : zSg) (l0 : Nat) (l1 : Int32) (τ : zSg) (hI : i_180 a0 σ l0 l1 τ) (h1 : l1.toInt < (1237 : Int)) (h2 : 0 ≤ l1.toInt ∧ l1.toInt < (τ.2.1 (q_r (τ.1 l0 1)) : Int)) (h3 : 0 ≤ l1.toInt ∧ l1.toInt < (τ.2.1 (q_r (τ.1 l0 2)) : Int)) :
    i_180 a0 σ l0 (l1 + Int32.ofInt (1)) (q_w τ (q_r (τ.1 l0 2)) l1.toNatClampNeg (.int (q_i (τ.1 (q_r (τ.1 l0 1)) l1.toNatClampNeg)))) := by
  obtain ⟨rfl, hI⟩ := hI
  refine ⟨rfl, ?_⟩
  rintro rfl H
  obtain ⟨n, hn, rfl, rfl⟩ := hI rfl H
  rw [zofNat2 (by omega)] at h1
  have q9 := ((H.w (v := .int (Int32.ofInt 0)) (Or.inl rfl)).cy (s := 206) (d := 207) (os := 0) (od := 0) (n := n) (by decide)).q
  have hx : (Int32.ofNat n).toNatClampNeg = 0 + n := (o32N (by omega)).trans (by omega)
  simp only [q9.1, q9.2.1, hx]
  exact ⟨n + 1, by omega, o32J (by omega), rCy_s (Or.inl (by decide))⟩
noncomputable def qP_180 : zPp := fun as σ o σ' => match as with
  | [a0] => o = .inl none ∧ p_180 (q_r a0) σ σ'
  | _ => True
set_option maxRecDepth 100000 in
theorem sp_180 {sx : zX}  : zEe sx 180 1 qP_180 := by
  refine zfle zJ_180 (sps := []) (fun q hq => absurd hq List.not_mem_nil) (fun as σ hl => ?_)
  match as, hl with
  | [a0], _ =>
  refine ⟨[(5, fun lo st τ => st = [] ∧ i_180 (q_r a0) σ (q_r (lo 0)) (q_i (lo 1)) τ)], 400, ?_, ?_⟩
  · intro q hq
    simp only [List.mem_cons, List.not_mem_nil, or_false] at hq
    rcases hq with rfl
    · rintro lo st τ ⟨rfl, hI⟩
      refine ⟨400, ?_⟩
      refine And.intro (fun h1 => ?_) (fun h1 => ?_)
      · exact ⟨rfl, sp_180_c5_t (q_r a0) σ (q_r (lo 0)) (q_i (lo 1)) τ hI (cm3t h1)⟩
      · refine fun h2 => ?_
        refine fun h3 => ?_
        exact ⟨rfl, sp_180_c5_f (q_r a0) σ (q_r (lo 0)) (q_i (lo 1)) τ hI (cm3f h1) (q_inp h2) (q_inp h3)⟩
  · exact ⟨rfl, sp_180_e (q_r a0) σ ⟩
noncomputable def p_181 (a : Nat) (σ : zSg) (r : Int32) (σ' : zSg) : Prop := a = 205 → rSk σ → ((q_i (σ.1 205 6)).toInt = 0 → r = Int32.ofInt 0 ∧ σ' = q_w σ 205 0 (.int (Int32.ofInt 0))) ∧ ((q_i (σ.1 205 6)).toInt ≠ 0 → r = Int32.ofInt 1 ∧ σ' = q_w (rCy (q_w σ 205 0 (.int (Int32.ofInt 0))) 207 206 0 0 1237) 205 7 (.int (Int32.ofInt 0)))
noncomputable def i_181 (a : Nat) (σ : zSg) (l0 : Nat) (l1 : Int32) (τ : zSg) : Prop := l0 = a ∧ (a = 205 → rSk σ → ∃ n, n ≤ 1237 ∧ l1 = Int32.ofNat n ∧ (q_i (σ.1 205 6)).toInt ≠ 0 ∧ τ = rCy (q_w σ 205 0 (.int (Int32.ofInt 0))) 207 206 0 0 n)
theorem sp_181_et (a0 : Nat) (σ : zSg) (h1 : (q_i ((q_w σ a0 0 (.int (Int32.ofInt (0)))).1 a0 6)).toInt ≠ (0 : Int)) :
    i_181 a0 σ a0 (Int32.ofInt (0)) (q_w σ a0 0 (.int (Int32.ofInt (0)))) := by
  refine ⟨rfl, ?_⟩
  rintro rfl H
  rw [q_w_ne (fun _ q => by omega)] at h1
  exact ⟨0, by omega, rfl, h1, by rw [rCy_0]⟩
theorem sp_181_ef (a0 : Nat) (σ : zSg) (h1 : (q_i ((q_w σ a0 0 (.int (Int32.ofInt (0)))).1 a0 6)).toInt = (0 : Int)) :
    p_181 (a0) σ (Int32.ofInt (0)) (q_w σ a0 0 (.int (Int32.ofInt (0)))) := by
  rintro rfl H
  rw [q_w_ne (fun _ q => by omega)] at h1
  exact ⟨fun _ => ⟨rfl, rfl⟩, fun h => absurd h1 h⟩
theorem sp_181_c10_t (a0 : Nat) (σ : zSg) (l0 : Nat) (l1 : Int32) (τ : zSg) (hI : i_181 a0 σ l0 l1 τ) (h2 : l1.toInt ≥ (1237 : Int)) :
    p_181 (a0) σ (Int32.ofInt (1)) (q_w τ l0 7 (.int (Int32.ofInt (0)))) := by
  obtain ⟨rfl, hI⟩ := hI
  rintro rfl H
  obtain ⟨n, hn, rfl, hz, rfl⟩ := hI rfl H
  rw [zofNat2 (by omega)] at h2
  have : n = 1237 := by omega
  subst this
  exact ⟨fun h => absurd h hz, fun _ => ⟨rfl, rfl⟩⟩
theorem sp_181_c10_f (a0 : Nat) (σ : zSg) (l0 : Nat) (l1 : Int32) (τ : zSg) (hI : i_181 a0 σ l0 l1 τ) (h2 : l1.toInt < (1237 : Int)) (h3 : 0 ≤ l1.toInt ∧ l1.toInt < (τ.2.1 (q_r (τ.1 l0 2)) : Int)) (h4 : 0 ≤ l1.toInt ∧ l1.toInt < (τ.2.1 (q_r (τ.1 l0 1)) : Int)) :
    i_181 a0 σ l0 (l1 + Int32.ofInt (1)) (q_w τ (q_r (τ.1 l0 1)) l1.toNatClampNeg (.int (q_i (τ.1 (q_r (τ.1 l0 2)) l1.toNatClampNeg)))) := by
  obtain ⟨rfl, hI⟩ := hI
  refine ⟨rfl, ?_⟩
  rintro rfl H
  obtain ⟨n, hn, rfl, hz, rfl⟩ := hI rfl H
  rw [zofNat2 (by omega)] at h2
  have q9 := ((H.w (v := .int (Int32.ofInt 0)) (Or.inl rfl)).cy (s := 207) (d := 206) (os := 0) (od := 0) (n := n) (by decide)).q
  have hx : (Int32.ofNat n).toNatClampNeg = 0 + n := (o32N (by omega)).trans (by omega)
  simp only [q9.2.1, q9.1, hx]
  exact ⟨n + 1, by omega, o32J (by omega), hz, rCy_s (Or.inl (by decide))⟩
noncomputable def qP_181 : zPp := fun as σ o σ' => match as with
  | [a0] => ∃ r, o = .inl (some (.int r)) ∧ p_181 (q_r a0) σ r σ'
  | _ => True
set_option maxRecDepth 100000 in
theorem sp_181 {sx : zX}  : zEe sx 181 1 qP_181 := by
  refine zfle zJ_181 (sps := []) (fun q hq => absurd hq List.not_mem_nil) (fun as σ hl => ?_)
  match as, hl with
  | [a0], _ =>
  refine ⟨[(10, fun lo st τ => st = [] ∧ i_181 (q_r a0) σ (q_r (lo 0)) (q_i (lo 1)) τ)], 400, ?_, ?_⟩
  · intro q hq
    simp only [List.mem_cons, List.not_mem_nil, or_false] at hq
    rcases hq with rfl
    · rintro lo st τ ⟨rfl, hI⟩
      refine ⟨400, ?_⟩
      refine And.intro (fun h2 => ?_) (fun h2 => ?_)
      · exact ⟨_, rfl, sp_181_c10_t (q_r a0) σ (q_r (lo 0)) (q_i (lo 1)) τ hI (cm3t h2)⟩
      · refine fun h3 => ?_
        refine fun h4 => ?_
        exact ⟨rfl, sp_181_c10_f (q_r a0) σ (q_r (lo 0)) (q_i (lo 1)) τ hI (cm3f h2) (q_inp h3) (q_inp h4)⟩
  · refine And.intro (fun h1 => ?_) (fun h1 => ?_)
    · exact ⟨rfl, sp_181_et (q_r a0) σ (cm1t h1)⟩
    · exact ⟨_, rfl, sp_181_ef (q_r a0) σ (cm1f h1)⟩
noncomputable def p_266 (a : Nat) (σ σ' : zSg) : Prop := a = 205 → rSk σ → σ' = rCy σ 206 209 0 0 388
noncomputable def i_266 (a : Nat) (σ : zSg) (l0 : Nat) (l1 : Int32) (τ : zSg) : Prop := l0 = a ∧ (a = 205 → rSk σ → ∃ n, n ≤ 388 ∧ l1 = Int32.ofNat n ∧ τ = rCy (σ) 206 209 0 0 n)
theorem sp_266_e (a0 : Nat) (σ : zSg)  :
    i_266 a0 σ a0 (Int32.ofInt (0)) σ := by
  exact ⟨rfl, fun h _ => ⟨0, by omega, rfl, by rw [rCy_0]⟩⟩
theorem sp_266_c2_t (a0 : Nat) (σ : zSg) (l0 : Nat) (l1 : Int32) (τ : zSg) (hI : i_266 a0 σ l0 l1 τ) (h1 : l1.toInt ≥ (388 : Int)) :
    p_266 (a0) σ τ := by
  obtain ⟨rfl, hI⟩ := hI
  rintro rfl H
  obtain ⟨n, hn, rfl, rfl⟩ := hI rfl H
  rw [zofNat2 (by omega)] at h1
  have : n = 388 := by omega
  subst this
  rfl
theorem sp_266_c2_f (a0 : Nat) (σ : zSg) (l0 : Nat) (l1 : Int32) (τ : zSg) (hI : i_266 a0 σ l0 l1 τ) (h1 : l1.toInt < (388 : Int)) (h2 : 0 ≤ l1.toInt ∧ l1.toInt < (τ.2.1 (q_r (τ.1 l0 1)) : Int)) (h3 : 0 ≤ l1.toInt ∧ l1.toInt < (τ.2.1 (q_r (τ.1 l0 4)) : Int)) :
    i_266 a0 σ l0 (l1 + Int32.ofInt (1)) (q_w τ (q_r (τ.1 l0 4)) l1.toNatClampNeg (.int (q_i (τ.1 (q_r (τ.1 l0 1)) l1.toNatClampNeg)))) := by
  obtain ⟨rfl, hI⟩ := hI
  refine ⟨rfl, ?_⟩
  rintro rfl H
  obtain ⟨n, hn, rfl, rfl⟩ := hI rfl H
  rw [zofNat2 (by omega)] at h1
  have q9 := (H.cy (s := 206) (d := 209) (os := 0) (od := 0) (n := n) (by decide)).q
  have hx : (Int32.ofNat n).toNatClampNeg = 0 + n := (o32N (by omega)).trans (by omega)
  simp only [q9.1, q9.2.2.2.1, hx]
  exact ⟨n + 1, by omega, o32J (by omega), rCy_s (Or.inl (by decide))⟩
noncomputable def qP_266 : zPp := fun as σ o σ' => match as with
  | [a0] => o = .inl none ∧ p_266 (q_r a0) σ σ'
  | _ => True
set_option maxRecDepth 100000 in
theorem sp_266 {sx : zX}  : zEe sx 266 1 qP_266 := by
  refine zfle zJ_266 (sps := []) (fun q hq => absurd hq List.not_mem_nil) (fun as σ hl => ?_)
  match as, hl with
  | [a0], _ =>
  refine ⟨[(2, fun lo st τ => st = [] ∧ i_266 (q_r a0) σ (q_r (lo 0)) (q_i (lo 1)) τ)], 400, ?_, ?_⟩
  · intro q hq
    simp only [List.mem_cons, List.not_mem_nil, or_false] at hq
    rcases hq with rfl
    · rintro lo st τ ⟨rfl, hI⟩
      refine ⟨400, ?_⟩
      refine And.intro (fun h1 => ?_) (fun h1 => ?_)
      · exact ⟨rfl, sp_266_c2_t (q_r a0) σ (q_r (lo 0)) (q_i (lo 1)) τ hI (cm3t h1)⟩
      · refine fun h2 => ?_
        refine fun h3 => ?_
        exact ⟨rfl, sp_266_c2_f (q_r a0) σ (q_r (lo 0)) (q_i (lo 1)) τ hI (cm3f h1) (q_inp h2) (q_inp h3)⟩
  · exact ⟨rfl, sp_266_e (q_r a0) σ ⟩
noncomputable def p_267 (a : Nat) (σ σ' : zSg) : Prop := a = 205 → rSk σ → σ' = rCy σ 209 206 0 0 388
noncomputable def i_267 (a : Nat) (σ : zSg) (l0 : Nat) (l1 : Int32) (τ : zSg) : Prop := l0 = a ∧ (a = 205 → rSk σ → ∃ n, n ≤ 388 ∧ l1 = Int32.ofNat n ∧ τ = rCy (σ) 209 206 0 0 n)
theorem sp_267_e (a0 : Nat) (σ : zSg)  :
    i_267 a0 σ a0 (Int32.ofInt (0)) σ := by
  exact ⟨rfl, fun h _ => ⟨0, by omega, rfl, by rw [rCy_0]⟩⟩
theorem sp_267_c2_t (a0 : Nat) (σ : zSg) (l0 : Nat) (l1 : Int32) (τ : zSg) (hI : i_267 a0 σ l0 l1 τ) (h1 : l1.toInt ≥ (388 : Int)) :
    p_267 (a0) σ τ := by
  obtain ⟨rfl, hI⟩ := hI
  rintro rfl H
  obtain ⟨n, hn, rfl, rfl⟩ := hI rfl H
  rw [zofNat2 (by omega)] at h1
  have : n = 388 := by omega
  subst this
  rfl
theorem sp_267_c2_f (a0 : Nat) (σ : zSg) (l0 : Nat) (l1 : Int32) (τ : zSg) (hI : i_267 a0 σ l0 l1 τ) (h1 : l1.toInt < (388 : Int)) (h2 : 0 ≤ l1.toInt ∧ l1.toInt < (τ.2.1 (q_r (τ.1 l0 4)) : Int)) (h3 : 0 ≤ l1.toInt ∧ l1.toInt < (τ.2.1 (q_r (τ.1 l0 1)) : Int)) :
    i_267 a0 σ l0 (l1 + Int32.ofInt (1)) (q_w τ (q_r (τ.1 l0 1)) l1.toNatClampNeg (.int (q_i (τ.1 (q_r (τ.1 l0 4)) l1.toNatClampNeg)))) := by
  obtain ⟨rfl, hI⟩ := hI
  refine ⟨rfl, ?_⟩
  rintro rfl H
  obtain ⟨n, hn, rfl, rfl⟩ := hI rfl H
  rw [zofNat2 (by omega)] at h1
  have q9 := (H.cy (s := 209) (d := 206) (os := 0) (od := 0) (n := n) (by decide)).q
  have hx : (Int32.ofNat n).toNatClampNeg = 0 + n := (o32N (by omega)).trans (by omega)
  simp only [q9.2.2.2.1, q9.1, hx]
  exact ⟨n + 1, by omega, o32J (by omega), rCy_s (Or.inl (by decide))⟩
noncomputable def qP_267 : zPp := fun as σ o σ' => match as with
  | [a0] => o = .inl none ∧ p_267 (q_r a0) σ σ'
  | _ => True
set_option maxRecDepth 100000 in
theorem sp_267 {sx : zX}  : zEe sx 267 1 qP_267 := by
  refine zfle zJ_267 (sps := []) (fun q hq => absurd hq List.not_mem_nil) (fun as σ hl => ?_)
  match as, hl with
  | [a0], _ =>
  refine ⟨[(2, fun lo st τ => st = [] ∧ i_267 (q_r a0) σ (q_r (lo 0)) (q_i (lo 1)) τ)], 400, ?_, ?_⟩
  · intro q hq
    simp only [List.mem_cons, List.not_mem_nil, or_false] at hq
    rcases hq with rfl
    · rintro lo st τ ⟨rfl, hI⟩
      refine ⟨400, ?_⟩
      refine And.intro (fun h1 => ?_) (fun h1 => ?_)
      · exact ⟨rfl, sp_267_c2_t (q_r a0) σ (q_r (lo 0)) (q_i (lo 1)) τ hI (cm3t h1)⟩
      · refine fun h2 => ?_
        refine fun h3 => ?_
        exact ⟨rfl, sp_267_c2_f (q_r a0) σ (q_r (lo 0)) (q_i (lo 1)) τ hI (cm3f h1) (q_inp h2) (q_inp h3)⟩
  · exact ⟨rfl, sp_267_e (q_r a0) σ ⟩
noncomputable def p_183 (a : Nat) (σ : zSg) (r : Int32) (σ' : zSg) : Prop := a = 205 → rSk σ → ∀ N, σ.1 205 7 = .int (Int32.ofNat N) → N ≤ 12 → (N = 0 → r = Int32.ofInt 0 ∧ σ' = q_w σ 205 0 (.int (Int32.ofInt 0))) ∧ (N ≠ 0 → r = Int32.ofInt 1 ∧ σ' = rCy (q_w (q_w σ 205 0 (.int (Int32.ofInt 0))) 205 7 (.int (Int32.ofNat (N - 1)))) 210 206 (388 * (N - 1)) 0 388)
noncomputable def i_183 (a : Nat) (σ : zSg) (l0 : Nat) (l1 : Int32) (τ : zSg) : Prop := l0 = a ∧ (a = 205 → rSk σ → ∀ N, σ.1 205 7 = .int (Int32.ofNat N) → N ≤ 12 → N ≠ 0 ∧ ∃ n, n ≤ 388 ∧ l1 = Int32.ofNat n ∧ τ = rCy (q_w (q_w σ 205 0 (.int (Int32.ofInt 0))) 205 7 (.int (Int32.ofNat (N - 1)))) 210 206 (388 * (N - 1)) 0 n)
theorem sp_183_et (a0 : Nat) (σ : zSg) (h1 : (q_i ((q_w σ a0 0 (.int (Int32.ofInt (0)))).1 a0 7)).toInt ≠ (0 : Int)) :
    i_183 a0 σ a0 (Int32.ofInt (0)) (q_w (q_w σ a0 0 (.int (Int32.ofInt (0)))) a0 7 (.int ((q_i ((q_w σ a0 0 (.int (Int32.ofInt (0)))).1 a0 7)) - (Int32.ofInt (1))))) := by
  refine ⟨rfl, ?_⟩
  rintro rfl H N hN h12
  rw [q_w_ne (fun _ q => by omega), hN] at h1
  simp only [q_ii] at h1
  rw [o32 (by omega)] at h1
  refine ⟨by omega, 0, by omega, rfl, ?_⟩
  rw [rCy_0, q_w_ne (fun _ q => by omega), hN]
  have e : Int32.ofNat N - Int32.ofInt 1 = Int32.ofNat (N - 1) := by
    refine Int32.toInt_inj.mp ?_
    rw [zI_sub (o32 (by omega)) (zI_c (by omega) (by omega)) (by omega) (by omega), o32 (by omega)]
    omega
  simp only [q_ii, e]
theorem sp_183_ef (a0 : Nat) (σ : zSg) (h1 : (q_i ((q_w σ a0 0 (.int (Int32.ofInt (0)))).1 a0 7)).toInt = (0 : Int)) :
    p_183 (a0) σ (Int32.ofInt (0)) (q_w σ a0 0 (.int (Int32.ofInt (0)))) := by
  rintro rfl H N hN h12
  rw [q_w_ne (fun _ q => by omega), hN] at h1
  simp only [q_ii] at h1
  rw [o32 (by omega)] at h1
  exact ⟨fun _ => ⟨rfl, rfl⟩, fun h => by omega⟩
theorem sp_183_c16_t (a0 : Nat) (σ : zSg) (l0 : Nat) (l1 : Int32) (τ : zSg) (hI : i_183 a0 σ l0 l1 τ) (h2 : l1.toInt ≥ (388 : Int)) :
    p_183 (a0) σ (Int32.ofInt (1)) τ := by
  obtain ⟨rfl, hI⟩ := hI
  rintro rfl H N hN h12
  obtain ⟨h0, n, hn, rfl, rfl⟩ := hI rfl H N hN h12
  rw [zofNat2 (by omega)] at h2
  have : n = 388 := by omega
  subst this
  exact ⟨fun h => absurd h h0, fun _ => ⟨rfl, rfl⟩⟩
theorem sp_183_c16_f (a0 : Nat) (σ : zSg) (l0 : Nat) (l1 : Int32) (τ : zSg) (hI : i_183 a0 σ l0 l1 τ) (h2 : l1.toInt < (388 : Int)) (h3 : 0 ≤ (((Int32.ofInt (388)) * (q_i (τ.1 l0 7))) + l1).toInt ∧ (((Int32.ofInt (388)) * (q_i (τ.1 l0 7))) + l1).toInt < (τ.2.1 (q_r (τ.1 l0 5)) : Int)) (h4 : 0 ≤ l1.toInt ∧ l1.toInt < (τ.2.1 (q_r (τ.1 l0 1)) : Int)) :
    i_183 a0 σ l0 (l1 + Int32.ofInt (1)) (q_w τ (q_r (τ.1 l0 1)) l1.toNatClampNeg (.int (q_i (τ.1 (q_r (τ.1 l0 5)) (((Int32.ofInt (388)) * (q_i (τ.1 l0 7))) + l1).toNatClampNeg)))) := by
  obtain ⟨rfl, hI⟩ := hI
  refine ⟨rfl, ?_⟩
  rintro rfl H N hN h12
  obtain ⟨h0, n, hn, rfl, rfl⟩ := hI rfl H N hN h12
  rw [zofNat2 (by omega)] at h2
  have q9 := (((H.w (v := .int (Int32.ofInt 0)) (Or.inl rfl)).w (k := 7) (v := .int (Int32.ofNat (N - 1))) (by omega)).cy (s := 210) (d := 206) (os := 388 * (N - 1)) (od := 0) (n := n) (by decide)).q
  have hx : (Int32.ofNat n).toNatClampNeg = 0 + n := (o32N (by omega)).trans (by omega)
  have e7 : q_i ((rCy (q_w (q_w σ 205 0 (.int (Int32.ofInt 0))) 205 7 (.int (Int32.ofNat (N - 1)))) 210 206 (388 * (N - 1)) 0 n).1 205 7) = Int32.ofNat (N - 1) := by
    rw [rCy_ne (fun q => by omega), q_w_at]
    rfl
  have hy : (Int32.ofNat (388 * (N - 1)) + Int32.ofNat n).toNatClampNeg = 388 * (N - 1) + n := by rw [zadd (by omega), o32N (by omega)]
  simp only [q9.1, q9.2.2.2.2, hx, e7, zm388 (show N - 1 ≤ 12 by omega), hy]
  exact ⟨h0, n + 1, by omega, o32J (by omega), rCy_s (Or.inl (by decide))⟩
noncomputable def qP_183 : zPp := fun as σ o σ' => match as with
  | [a0] => ∃ r, o = .inl (some (.int r)) ∧ p_183 (q_r a0) σ r σ'
  | _ => True
set_option maxRecDepth 100000 in
theorem sp_183 {sx : zX}  : zEe sx 183 1 qP_183 := by
  refine zfle zJ_183 (sps := []) (fun q hq => absurd hq List.not_mem_nil) (fun as σ hl => ?_)
  match as, hl with
  | [a0], _ =>
  refine ⟨[(16, fun lo st τ => st = [] ∧ i_183 (q_r a0) σ (q_r (lo 0)) (q_i (lo 1)) τ)], 400, ?_, ?_⟩
  · intro q hq
    simp only [List.mem_cons, List.not_mem_nil, or_false] at hq
    rcases hq with rfl
    · rintro lo st τ ⟨rfl, hI⟩
      refine ⟨400, ?_⟩
      refine And.intro (fun h2 => ?_) (fun h2 => ?_)
      · exact ⟨_, rfl, sp_183_c16_t (q_r a0) σ (q_r (lo 0)) (q_i (lo 1)) τ hI (cm3t h2)⟩
      · refine fun h3 => ?_
        refine fun h4 => ?_
        exact ⟨rfl, sp_183_c16_f (q_r a0) σ (q_r (lo 0)) (q_i (lo 1)) τ hI (cm3f h2) (q_inp h3) (q_inp h4)⟩
  · refine And.intro (fun h1 => ?_) (fun h1 => ?_)
    · exact ⟨rfl, sp_183_et (q_r a0) σ (cm1t h1)⟩
    · exact ⟨_, rfl, sp_183_ef (q_r a0) σ (cm1f h1)⟩
noncomputable def rRm (σ : zSg) (N : Nat) : zSg := if N = 12 then rCy σ 210 210 388 0 4268 else q_w σ 205 7 (.int (Int32.ofNat (N + 1)))
noncomputable def rRn (N : Nat) : Nat := if N = 12 then 11 else N
theorem rRm_7 {σ : zSg} {N : Nat} (h : σ.1 205 7 = .int (Int32.ofNat N)) (h12 : N ≤ 12) : (rRm σ N).1 205 7 = .int (Int32.ofNat (rRn N + 1)) ∧ rRn N ≤ 11 := by
  unfold rRm rRn
  by_cases hn : N = 12
  · rw [if_pos hn, if_pos hn, rCy_ne (fun q => by omega), h, hn]
    exact ⟨rfl, by omega⟩
  · rw [if_neg hn, if_neg hn, q_w_at]
    exact ⟨rfl, by omega⟩
theorem rRm_k {σ : zSg} {N : Nat} (H : rSk σ) : rSk (rRm σ N) := by
  unfold rRm
  by_cases hn : N = 12
  · rw [if_pos hn]; exact H.cy (by decide)
  · rw [if_neg hn]; exact H.w (by omega)
noncomputable def p_182 (a : Nat) (σ σ' : zSg) : Prop := a = 205 → rSk σ → ∀ N, σ.1 205 7 = .int (Int32.ofNat N) → N ≤ 12 → σ' = rCy (rRm σ N) 206 210 0 (388 * rRn N) 388
noncomputable def i_182 (a : Nat) (σ : zSg) (l0 : Nat) (l1 : Int32) (τ : zSg) : Prop := l0 = a ∧ (a = 205 → rSk σ → ∀ N, σ.1 205 7 = .int (Int32.ofNat N) → N ≤ 12 → N = 12 ∧ ∃ n, n ≤ 4268 ∧ l1 = Int32.ofNat n ∧ τ = rCy σ 210 210 388 0 n)
noncomputable def j_182 (a : Nat) (σ : zSg) (l0 : Nat) (l1 : Int32) (τ : zSg) : Prop := l0 = a ∧ (a = 205 → rSk σ → ∀ N, σ.1 205 7 = .int (Int32.ofNat N) → N ≤ 12 → ∃ n, n ≤ 388 ∧ l1 = Int32.ofNat n ∧ τ = rCy (rRm σ N) 206 210 0 (388 * rRn N) n)
theorem sp_182_et (a0 : Nat) (σ : zSg) (h1 : (q_i (σ.1 a0 7)).toInt ≠ (12 : Int)) :
    j_182 a0 σ a0 (Int32.ofInt (0)) (q_w σ a0 7 (.int ((q_i (σ.1 a0 7)) + (Int32.ofInt (1))))) := by
  refine ⟨rfl, ?_⟩
  rintro rfl H N hN h12
  rw [hN] at h1 ⊢
  simp only [q_ii] at h1 ⊢
  rw [o32 (by omega)] at h1
  refine ⟨0, by omega, rfl, ?_⟩
  rw [rCy_0, o32i (by omega)]
  unfold rRm
  rw [if_neg (by omega)]
theorem sp_182_ef (a0 : Nat) (σ : zSg) (h1 : (q_i (σ.1 a0 7)).toInt = (12 : Int)) :
    i_182 a0 σ a0 (Int32.ofInt (0)) σ := by
  refine ⟨rfl, ?_⟩
  rintro rfl H N hN h12
  rw [hN] at h1
  simp only [q_ii] at h1
  rw [o32 (by omega)] at h1
  exact ⟨by omega, 0, by omega, rfl, by rw [rCy_0]⟩
theorem sp_182_c6_t (a0 : Nat) (σ : zSg) (l0 : Nat) (l1 : Int32) (τ : zSg) (hI : i_182 a0 σ l0 l1 τ) (h2 : l1.toInt ≥ (4268 : Int)) :
    j_182 a0 σ l0 (Int32.ofInt (0)) τ := by
  obtain ⟨rfl, hI⟩ := hI
  refine ⟨rfl, ?_⟩
  rintro rfl H N hN h12
  obtain ⟨h0, n, hn, rfl, rfl⟩ := hI rfl H N hN h12
  rw [zofNat2 (by omega)] at h2
  have : n = 4268 := by omega
  subst this
  refine ⟨0, by omega, rfl, ?_⟩
  rw [rCy_0]
  unfold rRm
  rw [if_pos h0]
theorem sp_182_c6_f (a0 : Nat) (σ : zSg) (l0 : Nat) (l1 : Int32) (τ : zSg) (hI : i_182 a0 σ l0 l1 τ) (h2 : l1.toInt < (4268 : Int)) (h3 : 0 ≤ (l1 + (Int32.ofInt (388))).toInt ∧ (l1 + (Int32.ofInt (388))).toInt < (τ.2.1 (q_r (τ.1 l0 5)) : Int)) (h4 : 0 ≤ l1.toInt ∧ l1.toInt < (τ.2.1 (q_r (τ.1 l0 5)) : Int)) :
    i_182 a0 σ l0 (l1 + Int32.ofInt (1)) (q_w τ (q_r (τ.1 l0 5)) l1.toNatClampNeg (.int (q_i (τ.1 (q_r (τ.1 l0 5)) (l1 + (Int32.ofInt (388))).toNatClampNeg)))) := by
  obtain ⟨rfl, hI⟩ := hI
  refine ⟨rfl, ?_⟩
  rintro rfl H N hN h12
  obtain ⟨h0, n, hn, rfl, rfl⟩ := hI rfl H N hN h12
  rw [zofNat2 (by omega)] at h2
  have q9 := (H.cy (s := 210) (d := 210) (os := 388) (od := 0) (n := n) (by decide)).q
  have hx : (Int32.ofNat n).toNatClampNeg = 0 + n := (o32N (by omega)).trans (by omega)
  have hy := zadd388 (k := n) (by omega)
  simp only [q9.2.2.2.2, hx, hy]
  exact ⟨h0, n + 1, by omega, o32J (by omega), rCy_s (Or.inr (by omega))⟩
theorem sp_182_c30_t (a0 : Nat) (σ : zSg) (l0 : Nat) (l1 : Int32) (τ : zSg) (hI : j_182 a0 σ l0 l1 τ) (h5 : l1.toInt ≥ (388 : Int)) :
    p_182 (a0) σ τ := by
  obtain ⟨rfl, hI⟩ := hI
  rintro rfl H N hN h12
  obtain ⟨n, hn, rfl, rfl⟩ := hI rfl H N hN h12
  rw [zofNat2 (by omega)] at h5
  have : n = 388 := by omega
  subst this
  rfl
theorem sp_182_c30_f (a0 : Nat) (σ : zSg) (l0 : Nat) (l1 : Int32) (τ : zSg) (hI : j_182 a0 σ l0 l1 τ) (h5 : l1.toInt < (388 : Int)) (h6 : 0 ≤ l1.toInt ∧ l1.toInt < (τ.2.1 (q_r (τ.1 l0 1)) : Int)) (h7 : 0 ≤ (((Int32.ofInt (388)) * ((q_i (τ.1 l0 7)) - (Int32.ofInt (1)))) + l1).toInt ∧ (((Int32.ofInt (388)) * ((q_i (τ.1 l0 7)) - (Int32.ofInt (1)))) + l1).toInt < (τ.2.1 (q_r (τ.1 l0 5)) : Int)) :
    j_182 a0 σ l0 (l1 + Int32.ofInt (1)) (q_w τ (q_r (τ.1 l0 5)) (((Int32.ofInt (388)) * ((q_i (τ.1 l0 7)) - (Int32.ofInt (1)))) + l1).toNatClampNeg (.int (q_i (τ.1 (q_r (τ.1 l0 1)) l1.toNatClampNeg)))) := by
  obtain ⟨rfl, hI⟩ := hI
  refine ⟨rfl, ?_⟩
  rintro rfl H N hN h12
  obtain ⟨n, hn, rfl, rfl⟩ := hI rfl H N hN h12
  rw [zofNat2 (by omega)] at h5
  obtain ⟨m7, m11⟩ := rRm_7 hN h12
  have q9 := ((rRm_k (N := N) H).cy (s := 206) (d := 210) (os := 0) (od := 388 * rRn N) (n := n) (by decide)).q
  have hx : (Int32.ofNat n).toNatClampNeg = 0 + n := (o32N (by omega)).trans (by omega)
  have e7 : q_i ((rCy (rRm σ N) 206 210 0 (388 * rRn N) n).1 205 7) - Int32.ofInt 1 = Int32.ofNat (rRn N) := by
    rw [rCy_ne (fun q => by omega), m7]
    refine Int32.toInt_inj.mp ?_
    show (Int32.ofNat (rRn N + 1) - Int32.ofInt 1).toInt = _
    rw [zI_sub (o32 (by omega)) (zI_c (by omega) (by omega)) (by omega) (by omega), o32 (by omega)]
    omega
  have hy : (Int32.ofNat (388 * rRn N) + Int32.ofNat n).toNatClampNeg = 388 * rRn N + n := by rw [zadd (by omega), o32N (by omega)]
  simp only [q9.1, q9.2.2.2.2, hx, e7, zm388 (show rRn N ≤ 12 by omega), hy]
  exact ⟨n + 1, by omega, o32J (by omega), rCy_s (Or.inl (by decide))⟩
noncomputable def qP_182 : zPp := fun as σ o σ' => match as with
  | [a0] => o = .inl none ∧ p_182 (q_r a0) σ σ'
  | _ => True
set_option maxRecDepth 100000 in
theorem sp_182 {sx : zX}  : zEe sx 182 1 qP_182 := by
  refine zfle zJ_182 (sps := []) (fun q hq => absurd hq List.not_mem_nil) (fun as σ hl => ?_)
  match as, hl with
  | [a0], _ =>
  refine ⟨[(6, fun lo st τ => st = [] ∧ i_182 (q_r a0) σ (q_r (lo 0)) (q_i (lo 1)) τ), (30, fun lo st τ => st = [] ∧ j_182 (q_r a0) σ (q_r (lo 0)) (q_i (lo 1)) τ)], 400, ?_, ?_⟩
  · intro q hq
    simp only [List.mem_cons, List.not_mem_nil, or_false] at hq
    rcases hq with rfl | rfl
    · rintro lo st τ ⟨rfl, hI⟩
      refine ⟨400, ?_⟩
      refine And.intro (fun h2 => ?_) (fun h2 => ?_)
      · exact ⟨rfl, sp_182_c6_t (q_r a0) σ (q_r (lo 0)) (q_i (lo 1)) τ hI (cm3t h2)⟩
      · refine fun h3 => ?_
        refine fun h4 => ?_
        exact ⟨rfl, sp_182_c6_f (q_r a0) σ (q_r (lo 0)) (q_i (lo 1)) τ hI (cm3f h2) (q_inp h3) (q_inp h4)⟩
    · rintro lo st τ ⟨rfl, hI⟩
      refine ⟨400, ?_⟩
      refine And.intro (fun h5 => ?_) (fun h5 => ?_)
      · exact ⟨rfl, sp_182_c30_t (q_r a0) σ (q_r (lo 0)) (q_i (lo 1)) τ hI (cm3t h5)⟩
      · refine fun h6 => ?_
        refine fun h7 => ?_
        exact ⟨rfl, sp_182_c30_f (q_r a0) σ (q_r (lo 0)) (q_i (lo 1)) τ hI (cm3f h5) (q_inp h6) (q_inp h7)⟩
  · refine And.intro (fun h1 => ?_) (fun h1 => ?_)
    · exact ⟨rfl, sp_182_et (q_r a0) σ (cm1t h1)⟩
    · exact ⟨rfl, sp_182_ef (q_r a0) σ (cm1f h1)⟩
theorem rE.cy {σ : zSg} {b : Nat → Int} {E nf nt n : Nat} {A : Nat → Int32} (H : rE σ b E nf nt A) : rE (rCy σ 206 208 0 0 n) b E nf nt A := by
  obtain ⟨h1, h2, ⟨h3, h3'⟩, h4, h5⟩ := H
  refine ⟨?_, ?_, ⟨?_, fun k hk => ?_⟩, ?_, h5⟩
  · rw [rCy_ne (fun q => by omega)]; exact h1
  · rw [← h2]
    funext i
    unfold rb
    rw [rCy_ne (c := 205) (k := 8) (fun q => by omega), h1]
    show (q_i ((rCy σ 206 208 0 0 n).1 211 i)).toInt = (q_i (σ.1 211 i)).toInt
    rw [rCy_ne (fun q => by omega)]
  · rw [rCy_ne (fun q => by omega)]; exact h3
  · rw [rCy_ne (fun q => by omega)]; exact h3' k hk
  · rw [rCy_ne (fun q => by omega)]; exact h4
noncomputable def rYF (σ σ' : zSg) : Prop := σ'.2 = σ.2 ∧ ∀ c k, ¬ (c = 205 ∧ (k = 0 ∨ k = 7 ∨ k = 9 ∨ k = 10 ∨ k = 11 ∨ k = 12 ∨ k = 14 ∨ k = 16)) → ¬ (c = 206 ∧ k < 88) → ¬ (c = 208 ∧ k < 1237) → σ'.1 c k = σ.1 c k
theorem rYF.tr {σ τ υ : zSg} (h1 : rYF σ τ) (h2 : rYF τ υ) : rYF σ υ := ⟨h2.1.trans h1.1, fun c k q1 q2 q3 => (h2.2 c k q1 q2 q3).trans (h1.2 c k q1 q2 q3)⟩
theorem rYF.of {σ τ : zSg} (h : rEF σ τ) : rYF σ τ := ⟨h.1, fun c k q1 q2 _ => h.2 c k (fun q => q1 ⟨q.1, by omega⟩) q2⟩
theorem rYF.cy {σ : zSg} : rYF σ (rCy σ 206 208 0 0 1237) := ⟨rfl, fun c k _ _ q3 => rCy_ne (fun q => q3 ⟨q.1, by omega⟩)⟩
theorem rYF.w {σ : zSg} {k : Nat} {v : Value} (h : k = 0 ∨ k = 7 ∨ k = 9 ∨ k = 10 ∨ k = 11 ∨ k = 12 ∨ k = 14 ∨ k = 16) : rYF σ (q_w σ 205 k v) := ⟨rfl, fun c i q1 _ _ => q_w_ne (fun e1 e2 => q1 ⟨e1, by omega⟩)⟩
theorem rYF.ww {σ : zSg} {k : Nat} {v : Value} (h : k < 88) : rYF σ (q_w σ 206 k v) := ⟨rfl, fun c i _ q2 _ => q_w_ne (fun e1 e2 => q2 ⟨e1, by omega⟩)⟩
/-- a deed's text that is refused: what stands as all is brought back -/
noncomputable def rYB (σ S : zSg) (Th Ft : Int32) : Prop := rYF σ S ∧ (∀ k, k < 1237 → S.1 208 k = .int (q_i (σ.1 206 k))) ∧ S.1 205 0 = .int Th ∧ S.1 205 14 = .int Ft ∧ S.1 205 9 = .int (Int32.ofInt 0) ∧ S.1 205 7 = σ.1 205 7
abbrev rYo (σ σ' : zSg) (nf nt tx : Nat) (A : Nat → Int32) (r : Int32) (R : List dOp ⊕ Nat) : Prop := match R with
  | .inl os => σ'.1 205 14 = .int (Int32.ofInt (-1)) ∧ (tx = 12 → σ'.1 205 0 = .int (Int32.ofInt 2) ∧ rW σ' A ∧ σ'.1 205 7 = σ.1 205 7) ∧ (tx < 12 → σ'.1 205 0 = .int (Int32.ofInt 0) ∧ r = Int32.ofNat (tx + 1) ∧ rW σ' (aU (dApps os nf nt A) 2 (Int32.ofNat (tx + 1))) ∧ σ'.1 205 7 = .int (Int32.ofInt 0))
  | .inr F => σ'.1 205 0 = .int (Int32.ofInt 1) ∧ σ'.1 205 14 = .int (Int32.ofNat F) ∧ rW σ' A ∧ σ'.1 205 7 = σ.1 205 7
