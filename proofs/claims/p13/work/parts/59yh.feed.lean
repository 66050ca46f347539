section
/-! feed, exact; printed with wip/gen/gen_ta.py -/
noncomputable def cby (v : Int32) (n : Nat) : Int32 := ((v.toUInt32 >>> ((Int32.ofNat n).toUInt32 &&& Int32.toUInt32 31)).toInt32) &&& Int32.ofInt 255
noncomputable def rby (v : Int32) (n : Nat) : Int32 := vp_nar .byte (v >>> (Int32.ofNat n &&& 31)).toInt8.toInt32
theorem cby_rby {n : Nat} (v : Int32) (h : byN n) : (rby v n).toInt = if 128 ≤ (cby v n).toInt then (cby v n).toInt - 256 else (cby v n).toInt := byQ v h
theorem cby_le {n : Nat} (v : Int32) (h : byN n) : 0 ≤ (cby v n).toInt ∧ (cby v n).toInt ≤ 255 := byB v h
noncomputable def cAp (σ : zSg) (t B E : Nat) (f : Nat → Int32) (j : Nat) : zSg := (fun c k => if c = B ∧ E ≤ k ∧ k < E + j then .int (f (k - E)) else if c = t ∧ k = 1 then .int (Int32.ofNat (E + j)) else σ.1 c k, σ.2)
theorem cAp_0 {σ : zSg} {t B E : Nat} {f : Nat → Int32} (h : σ.1 t 1 = .int (Int32.ofNat E)) : cAp σ t B E f 0 = σ := by
  refine Prod.ext ?_ rfl
  funext c k
  show (if c = B ∧ E ≤ k ∧ k < E + 0 then _ else if c = t ∧ k = 1 then _ else σ.1 c k) = _
  rw [if_neg (fun q => by omega)]
  by_cases hq : c = t ∧ k = 1
  · rw [if_pos hq, hq.1, hq.2, h]; rfl
  · rw [if_neg hq]
theorem cAp_s {σ : zSg} {t B E j : Nat} {f : Nat → Int32} (hB : B ≠ t) : q_w (q_w (cAp σ t B E f j) B (E + j) (.int (f j))) t 1 (.int (Int32.ofNat (E + j + 1))) = cAp σ t B E f (j + 1) := by
  refine Prod.ext ?_ rfl
  funext c k
  show _ = (if c = B ∧ E ≤ k ∧ k < E + (j + 1) then Value.int (f (k - E)) else if c = t ∧ k = 1 then .int (Int32.ofNat (E + (j + 1))) else σ.1 c k)
  by_cases h1 : c = t ∧ k = 1
  · obtain ⟨rfl, rfl⟩ := h1
    rw [q_w_at, if_neg (fun q => hB q.1.symm), if_pos ⟨rfl, rfl⟩]
    rfl
  · rw [q_w_ne (fun e1 e2 => h1 ⟨e1, e2⟩)]
    by_cases h2 : c = B ∧ k = E + j
    · obtain ⟨rfl, rfl⟩ := h2
      rw [q_w_at, if_pos ⟨rfl, by omega, by omega⟩, show E + j - E = j by omega]
    · rw [q_w_ne (fun e1 e2 => h2 ⟨e1, e2⟩)]
      show (if c = B ∧ E ≤ k ∧ k < E + j then Value.int (f (k - E)) else if c = t ∧ k = 1 then _ else σ.1 c k) = _
      rw [if_neg h1, if_neg h1]
      by_cases h3 : c = B ∧ E ≤ k ∧ k < E + j
      · rw [if_pos h3, if_pos ⟨h3.1, h3.2.1, by omega⟩]
      · rw [if_neg h3, if_neg (fun q => h3 ⟨q.1, q.2.1, by have := fun e => h2 ⟨q.1, e⟩; omega⟩)]
theorem cAp_t {σ : zSg} {t B E j : Nat} {f : Nat → Int32} (hB : B ≠ t) : (cAp σ t B E f j).1 t 1 = .int (Int32.ofNat (E + j)) := by
  show (if t = B ∧ _ then _ else if t = t ∧ 1 = 1 then _ else _) = _
  rw [if_neg (fun q => hB q.1.symm), if_pos ⟨rfl, rfl⟩]
theorem cAp_ne {σ : zSg} {t B E j c k : Nat} {f : Nat → Int32} (h1 : ¬ (c = B ∧ E ≤ k ∧ k < E + j)) (h2 : ¬ (c = t ∧ k = 1)) : (cAp σ t B E f j).1 c k = σ.1 c k := by
  show (if c = B ∧ E ≤ k ∧ k < E + j then _ else if c = t ∧ k = 1 then _ else σ.1 c k) = _
  rw [if_neg h1, if_neg h2]
theorem cAp_at {σ : zSg} {t B E j i : Nat} {f : Nat → Int32} (h : i < j) : (cAp σ t B E f j).1 B (E + i) = .int (f i) := by
  show (if B = B ∧ E ≤ E + i ∧ E + i < E + j then Value.int (f (E + i - E)) else _) = _
  rw [if_pos ⟨rfl, by omega, by omega⟩, show E + i - E = i by omega]
noncomputable def p_85 (t : Nat) (v : Int32) (σ σ' : zSg) : Prop := ∀ B E : Nat, σ.1 t 0 = .ref B → B ≠ t → σ.1 t 1 = .int (Int32.ofNat E) → E + 4 ≤ 400 → σ' = cAp σ t B E (fun i => cby v (24 - 8 * i)) 4
noncomputable def i_85 (t : Nat) (v : Int32) (σ : zSg) (l0 : Nat) (l1 s : Int32) (τ : zSg) : Prop := l0 = t ∧ l1 = v ∧ ∀ B E : Nat, σ.1 t 0 = .ref B → B ≠ t → σ.1 t 1 = .int (Int32.ofNat E) → E + 4 ≤ 400 → ∃ j : Nat, j ≤ 4 ∧ s.toInt = 24 - 8 * (j : Int) ∧ τ = cAp σ t B E (fun i => cby v (24 - 8 * i)) j
theorem sp_85_e (a0 : Nat) (a1 : Int32) (σ : zSg)  :
    i_85 a0 a1 σ a0 a1 (Int32.ofInt (24)) σ := by
  exact ⟨rfl, rfl, fun B E h0 hB h1 hE => ⟨0, by omega, rfl, (cAp_0 h1).symm⟩⟩
theorem sp_85_c2_t (a0 : Nat) (a1 : Int32) (σ : zSg) (l0 : Nat) (l1 : Int32) (l2 : Int32) (τ : zSg) (hI : i_85 a0 a1 σ l0 l1 l2 τ) (h1 : l2.toInt < (0 : Int)) :
    p_85 (a0) (a1) σ τ := by
  obtain ⟨rfl, rfl, G⟩ := hI
  intro B E h0 hB h1' hE
  obtain ⟨j, hj, hs, rfl⟩ := G B E h0 hB h1' hE
  have : j = 4 := by omega
  rw [this]
theorem sp_85_c2_ft (a0 : Nat) (a1 : Int32) (σ : zSg) (l0 : Nat) (l1 : Int32) (l2 : Int32) (τ : zSg) (hI : i_85 a0 a1 σ l0 l1 l2 τ) (h1 : l2.toInt ≥ (0 : Int)) (h2 : (q_i (τ.1 l0 1)).toInt ≥ (400 : Int)) :
    p_85 (a0) (a1) σ τ := by
  obtain ⟨rfl, rfl, G⟩ := hI
  intro B E h0 hB h1' hE
  obtain ⟨j, hj, hs, rfl⟩ := G B E h0 hB h1' hE
  exfalso
  rw [cAp_t hB] at h2
  have h9 : (Int32.ofNat (E + j)).toInt ≥ 400 := h2
  rw [o32 (by omega)] at h9
  omega
theorem sp_85_c2_ff (a0 : Nat) (a1 : Int32) (σ : zSg) (l0 : Nat) (l1 : Int32) (l2 : Int32) (τ : zSg) (hI : i_85 a0 a1 σ l0 l1 l2 τ) (h1 : l2.toInt ≥ (0 : Int)) (h2 : (q_i (τ.1 l0 1)).toInt < (400 : Int)) (h3 : 0 ≤ (q_i (τ.1 l0 1)).toInt ∧ (q_i (τ.1 l0 1)).toInt < (τ.2.1 (q_r (τ.1 l0 0)) : Int)) :
    i_85 a0 a1 σ l0 l1 (l2 + Int32.ofInt (-8)) (q_w (q_w τ (q_r (τ.1 l0 0)) (q_i (τ.1 l0 1)).toNatClampNeg (.int (((l1.toUInt32 >>> (l2.toUInt32 &&& Int32.toUInt32 31)).toInt32) &&& (Int32.ofInt (255))))) l0 1 (.int ((q_i ((q_w τ (q_r (τ.1 l0 0)) (q_i (τ.1 l0 1)).toNatClampNeg (.int (((l1.toUInt32 >>> (l2.toUInt32 &&& Int32.toUInt32 31)).toInt32) &&& (Int32.ofInt (255))))).1 l0 1)) + (Int32.ofInt (1))))) := by
  obtain ⟨rfl, rfl, G⟩ := hI
  refine ⟨rfl, rfl, fun B E h0 hB h1' hE => ?_⟩
  obtain ⟨j, hj, hs, rfl⟩ := G B E h0 hB h1' hE
  have hj4 : j < 4 := by omega
  have q0 : q_r ((cAp σ l0 B E (fun i => cby l1 (24 - 8 * i)) j).1 l0 0) = B := by
    rw [cAp_ne (fun q => hB q.1.symm) (fun q => by omega), h0]; rfl
  have q1 : q_i ((cAp σ l0 B E (fun i => cby l1 (24 - 8 * i)) j).1 l0 1) = Int32.ofNat (E + j) := by rw [cAp_t hB]; rfl
  have el : l2 = Int32.ofNat (24 - 8 * j) := Int32.toInt_inj.mp (by rw [hs, o32 (by omega)]; omega)
  have q2 : ∀ v, q_i ((q_w (cAp σ l0 B E (fun i => cby l1 (24 - 8 * i)) j) B (E + j) v).1 l0 1) = Int32.ofNat (E + j) := fun v => by rw [q_w_ne (fun q _ => hB q.symm)]; exact q1
  refine ⟨j + 1, by omega, ?_, ?_⟩
  · rw [zI_add hs (zI_c (n := -8) (by omega) (by omega)) (by omega) (by omega)]
    omega
  · rw [q0, q1, o32n (by omega), q2, o32i (by omega), ← cAp_s hB, el]
    rfl
noncomputable def qP_85 : zPp := fun as σ o σ' => match as with
  | [a0, a1] => o = .inl none ∧ p_85 (q_r a0) (q_i a1) σ σ'
  | _ => True
set_option maxRecDepth 100000 in
theorem sp_85 {sx : zX}  : zEe sx 85 2 qP_85 := by
  refine zfle zJ_85 (sps := []) (fun q hq => absurd hq List.not_mem_nil) (fun as σ hl => ?_)
  match as, hl with
  | [a0, a1], _ =>
  refine ⟨[(2, fun lo st τ => st = [] ∧ i_85 (q_r a0) (q_i a1) σ (q_r (lo 0)) (q_i (lo 1)) (q_i (lo 2)) τ)], 400, ?_, ?_⟩
  · intro q hq
    simp only [List.mem_cons, List.not_mem_nil, or_false] at hq
    rcases hq with rfl
    · rintro lo st τ ⟨rfl, hI⟩
      refine ⟨400, ?_⟩
      refine And.intro (fun h1 => ?_) (fun h1 => ?_)
      · exact ⟨rfl, sp_85_c2_t (q_r a0) (q_i a1) σ (q_r (lo 0)) (q_i (lo 1)) (q_i (lo 2)) τ hI (cm2t h1)⟩
      · refine And.intro (fun h2 => ?_) (fun h2 => ?_)
        · exact ⟨rfl, sp_85_c2_ft (q_r a0) (q_i a1) σ (q_r (lo 0)) (q_i (lo 1)) (q_i (lo 2)) τ hI (cm2f h1) (cm3t h2)⟩
        · refine fun h3 => ?_
          exact ⟨rfl, sp_85_c2_ff (q_r a0) (q_i a1) σ (q_r (lo 0)) (q_i (lo 1)) (q_i (lo 2)) τ hI (cm2f h1) (cm3f h2) (q_inp h3)⟩
  · exact ⟨rfl, sp_85_e (q_r a0) (q_i a1) σ ⟩
noncomputable def vf (a b c d e : Int32) (k : Nat) : Int32 := [a, b, c, d, e].getD (k / 4) 0
theorem cAp_c {σ : zSg} {t B E m n : Nat} {f g : Nat → Int32} (hB : B ≠ t) : cAp (cAp σ t B E f m) t B (E + m) g n = cAp σ t B E (fun i => if i < m then f i else g (i - m)) (m + n) := by
  refine Prod.ext ?_ rfl
  funext c k
  show (if c = B ∧ E + m ≤ k ∧ k < E + m + n then Value.int (g (k - (E + m))) else if c = t ∧ k = 1 then .int (Int32.ofNat (E + m + n)) else if c = B ∧ E ≤ k ∧ k < E + m then .int (f (k - E)) else if c = t ∧ k = 1 then _ else σ.1 c k) = if c = B ∧ E ≤ k ∧ k < E + (m + n) then Value.int (if k - E < m then f (k - E) else g (k - E - m)) else if c = t ∧ k = 1 then .int (Int32.ofNat (E + (m + n))) else σ.1 c k
  by_cases hc : c = B
  · subst hc
    have ht : ¬ (c = t ∧ k = 1) := fun q => hB q.1
    rw [if_neg ht, if_neg ht, if_neg ht]
    by_cases h1 : E + m ≤ k ∧ k < E + m + n
    · rw [if_pos ⟨rfl, h1⟩, if_pos ⟨rfl, by omega, by omega⟩, if_neg (by omega), show k - (E + m) = k - E - m by omega]
    · rw [if_neg (fun q => h1 q.2)]
      by_cases h2 : E ≤ k ∧ k < E + m
      · rw [if_pos ⟨rfl, h2⟩, if_pos ⟨rfl, by omega, by omega⟩, if_pos (by omega)]
      · rw [if_neg (fun q => h2 q.2), if_neg (fun q => by omega)]
  · have n1 : ∀ p : Prop, ¬ (c = B ∧ p) := fun p q => hc q.1
    rw [if_neg (n1 _), if_neg (n1 _), if_neg (n1 _)]
    by_cases ht : c = t ∧ k = 1
    · rw [if_pos ht, if_pos ht, Nat.add_assoc]
    · rw [if_neg ht, if_neg ht, if_neg ht]
noncomputable def cFv (a b c d e : Int32) (k : Nat) : Int32 := cby (vf a b c d e k) (24 - 8 * (k % 4))
noncomputable def p_118 (x : Nat) (a b c d e : Int32) (σ : zSg) (r : Int32) (σ' : zSg) : Prop := ∀ t B E : Nat, σ.1 x 0 = .ref t → σ.1 t 0 = .ref B → B ≠ t → x ≠ t → x ≠ B → σ.1 t 1 = .int (Int32.ofNat E) → E ≤ 400 → (E + 20 ≤ 400 → r = Int32.ofNat (E + 20) ∧ σ' = cAp σ t B E (cFv a b c d e) 20) ∧ (400 < E + 20 → r.toInt = -1 ∧ σ' = σ)
theorem cAp_x {σ : zSg} {t B E j : Nat} {f g : Nat → Int32} (h : ∀ i, i < j → f i = g i) : cAp σ t B E f j = cAp σ t B E g j := by
  refine Prod.ext ?_ rfl
  funext c k
  show (if c = B ∧ E ≤ k ∧ k < E + j then Value.int (f (k - E)) else _) = if c = B ∧ E ≤ k ∧ k < E + j then Value.int (g (k - E)) else _
  by_cases h1 : c = B ∧ E ≤ k ∧ k < E + j
  · rw [if_pos h1, if_pos h1, h _ (by omega)]
  · rw [if_neg h1, if_neg h1]
theorem sp_118_et (a0 : Nat) (a1 : Int32) (a2 : Int32) (a3 : Int32) (a4 : Int32) (a5 : Int32) (σ : zSg) (τ2 : zSg) (τ3 : zSg) (τ4 : zSg) (τ5 : zSg) (τ6 : zSg) (h1 : ((q_i (σ.1 (q_r (σ.1 a0 0)) 1)) + (Int32.ofInt (20))).toInt ≤ (400 : Int)) (g2 : p_85 (q_r (σ.1 a0 0)) a1 σ τ2) (g3 : p_85 (q_r (τ2.1 a0 0)) a2 τ2 τ3) (g4 : p_85 (q_r (τ3.1 a0 0)) a3 τ3 τ4) (g5 : p_85 (q_r (τ4.1 a0 0)) a4 τ4 τ5) (g6 : p_85 (q_r (τ5.1 a0 0)) a5 τ5 τ6) :
    p_118 (a0) (a1) (a2) (a3) (a4) (a5) σ (q_i (τ6.1 (q_r (τ6.1 a0 0)) 1)) τ6 := by
  intro t B E hx ht hB hxt hxB hl hE
  have e0 : q_r (σ.1 a0 0) = t := by rw [hx]; rfl
  rw [e0, hl] at h1
  have e1 : (Int32.ofNat E + Int32.ofInt 20).toInt = (E : Int) + 20 := zI_add (o32 (by omega)) (zI_c (by omega) (by omega)) (by omega) (by omega)
  have HX : (Int32.ofNat E + Int32.ofInt 20).toInt ≤ 400 := h1
  rw [e1] at HX
  refine ⟨fun _ => ?_, fun q => by omega⟩
  rw [e0] at g2
  obtain rfl := g2 B E ht hB hl (by omega)
  have kx : ∀ E' f j, q_r ((cAp σ t B E' f j).1 a0 0) = t := fun E' f j => by rw [cAp_ne (fun q => hxB q.1) (fun q => hxt q.1)]; exact e0
  have kt : ∀ E' f j, (cAp σ t B E' f j).1 t 0 = .ref B := fun E' f j => by rw [cAp_ne (fun q => hB q.1.symm) (fun q => by omega)]; exact ht
  rw [kx] at g3
  obtain rfl := g3 B (E + 4) (kt _ _ _) hB (cAp_t hB) (by omega)
  rw [cAp_c hB] at g4
  rw [kx] at g4
  obtain rfl := g4 B (E + 8) (kt _ _ _) hB (cAp_t hB) (by omega)
  rw [cAp_c hB] at g5
  rw [kx] at g5
  obtain rfl := g5 B (E + 12) (kt _ _ _) hB (cAp_t hB) (by omega)
  rw [cAp_c hB] at g6
  rw [kx] at g6
  obtain rfl := g6 B (E + 16) (kt _ _ _) hB (cAp_t hB) (by omega)
  rw [cAp_c hB]
  have q1 : ∀ f, q_i ((cAp σ t B E f (4 + 4 + 4 + 4 + 4)).1 (q_r ((cAp σ t B E f (4 + 4 + 4 + 4 + 4)).1 a0 0)) 1) = Int32.ofNat (E + 20) := fun f => by
    rw [kx]
    rw [cAp_t hB]
    rfl
  refine ⟨q1 _, cAp_x (fun i hi => ?_)⟩
  match i, hi with
  | 0, _ => rfl
  | 1, _ => rfl
  | 2, _ => rfl
  | 3, _ => rfl
  | 4, _ => rfl
  | 5, _ => rfl
  | 6, _ => rfl
  | 7, _ => rfl
  | 8, _ => rfl
  | 9, _ => rfl
  | 10, _ => rfl
  | 11, _ => rfl
  | 12, _ => rfl
  | 13, _ => rfl
  | 14, _ => rfl
  | 15, _ => rfl
  | 16, _ => rfl
  | 17, _ => rfl
  | 18, _ => rfl
  | 19, _ => rfl
  | i + 20, h => omega
theorem sp_118_ef (a0 : Nat) (a1 : Int32) (a2 : Int32) (a3 : Int32) (a4 : Int32) (a5 : Int32) (σ : zSg) (h1 : ((q_i (σ.1 (q_r (σ.1 a0 0)) 1)) + (Int32.ofInt (20))).toInt > (400 : Int)) :
    p_118 (a0) (a1) (a2) (a3) (a4) (a5) σ (Int32.ofInt (-1)) σ := by
  intro t B E hx ht hB hxt hxB hl hE
  have e0 : q_r (σ.1 a0 0) = t := by rw [hx]; rfl
  rw [e0, hl] at h1
  have e1 : (Int32.ofNat E + Int32.ofInt 20).toInt = (E : Int) + 20 := zI_add (o32 (by omega)) (zI_c (by omega) (by omega)) (by omega) (by omega)
  have HX : (Int32.ofNat E + Int32.ofInt 20).toInt > 400 := h1
  rw [e1] at HX
  exact ⟨fun q => by omega, fun _ => ⟨rfl, rfl⟩⟩
noncomputable def qP_118 : zPp := fun as σ o σ' => match as with
  | [a0, a1, a2, a3, a4, a5] => ∃ r, o = .inl (some (.int r)) ∧ p_118 (q_r a0) (q_i a1) (q_i a2) (q_i a3) (q_i a4) (q_i a5) σ r σ'
  | _ => True
set_option maxRecDepth 100000 in
theorem sp_118 {sx : zX} (S85 : zEe sx 85 2 qP_85) : zEe sx 118 6 qP_118 := by
  refine zfle zJ_118 (sps := [(85, 2, qP_85)]) (fun q hq => by
    simp only [List.mem_cons, List.not_mem_nil, or_false] at hq
    rcases hq with rfl
    · exact S85) (fun as σ hl => ?_)
  match as, hl with
  | [a0, a1, a2, a3, a4, a5], _ =>
  refine ⟨[], 400, ?_, ?_⟩
  · exact fun q hq => absurd hq List.not_mem_nil
  · refine And.intro (fun h1 => ?_) (fun h1 => ?_)
    · refine fun o2 τ2 g2 => ?_
      obtain ⟨rfl, g2⟩ := g2
      refine fun o3 τ3 g3 => ?_
      obtain ⟨rfl, g3⟩ := g3
      refine fun o4 τ4 g4 => ?_
      obtain ⟨rfl, g4⟩ := g4
      refine fun o5 τ5 g5 => ?_
      obtain ⟨rfl, g5⟩ := g5
      refine fun o6 τ6 g6 => ?_
      obtain ⟨rfl, g6⟩ := g6
      exact ⟨_, rfl, sp_118_et (q_r a0) (q_i a1) (q_i a2) (q_i a3) (q_i a4) (q_i a5) σ τ2 τ3 τ4 τ5 τ6 (cm5t h1) g2 g3 g4 g5 g6⟩
    · exact ⟨_, rfl, sp_118_ef (q_r a0) (q_i a1) (q_i a2) (q_i a3) (q_i a4) (q_i a5) σ (cm5f h1)⟩
noncomputable def rFv (a b c d e : Int32) (k : Nat) : Int32 := rby (vf a b c d e k) (24 - 8 * (k % 4))
theorem rK20 : (List.range 20).all (fun K => decide ((Int32.ofNat K / Int32.ofInt 4).toNatClampNeg = K / 4) && decide ((Int32.ofInt 24 - Int32.ofInt 8 * (Int32.ofNat K - Int32.ofNat K / Int32.ofInt 4 * Int32.ofInt 4)) = Int32.ofNat (24 - 8 * (K % 4)))) = true := by decide +kernel
theorem rK {K : Nat} (h : K < 20) : (Int32.ofNat K / Int32.ofInt 4).toNatClampNeg = K / 4 ∧ (Int32.ofInt 24 - Int32.ofInt 8 * (Int32.ofNat K - Int32.ofNat K / Int32.ofInt 4 * Int32.ofInt 4)) = Int32.ofNat (24 - 8 * (K % 4)) := by
  have := List.all_eq_true.mp rK20 K (List.mem_range.mpr h)
  rw [Bool.and_eq_true, decide_eq_true_eq, decide_eq_true_eq] at this
  exact this
noncomputable def rFd (σ : zSg) (a B F E : Nat) : Prop := σ.1 a 8 = .ref B ∧ σ.1 a 15 = .ref F ∧ B ≠ a ∧ F ≠ a ∧ F ≠ B ∧ σ.1 a 9 = .int (Int32.ofNat E) ∧ E ≤ 400
noncomputable def rFf (σ σ' : zSg) (a B F E K : Nat) : Prop := σ'.2 = σ.2 ∧ ∀ c k, ¬ (c = a ∧ (k = 0 ∨ k = 9)) → ¬ (c = B ∧ E ≤ k ∧ k < E + K) → c ≠ F → σ'.1 c k = σ.1 c k
noncomputable def p_199 (a : Nat) (v1 v2 v3 v4 v5 : Int32) (σ : zSg) (r : Int32) (σ' : zSg) : Prop := ∀ B F E, rFd σ a B F E → (E + 20 ≤ 400 → r = Int32.ofNat (E + 20) ∧ rFf σ σ' a B F E 20 ∧ σ'.1 a 0 = .int (Int32.ofInt 0) ∧ σ'.1 a 9 = .int (Int32.ofNat (E + 20)) ∧ ∀ k, k < 20 → σ'.1 B (E + k) = .int (rFv v1 v2 v3 v4 v5 k)) ∧ (400 < E + 20 → r.toInt = -1 ∧ σ' = q_w σ a 0 (.int (Int32.ofInt 0)))
noncomputable def i_199 (a : Nat) (v1 v2 v3 v4 v5 : Int32) (σ : zSg) (l0 : Nat) (l6 : Int32) (τ : zSg) : Prop := l0 = a ∧ ∀ B F E, rFd σ a B F E → E + 20 ≤ 400 ∧ ∃ K, K ≤ 20 ∧ l6 = Int32.ofNat K ∧ rFf σ τ a B F E K ∧ τ.1 a 0 = .int (Int32.ofInt 0) ∧ τ.1 a 9 = .int (Int32.ofNat E) ∧ (∀ i, i < 5 → τ.1 F i = .int (vf v1 v2 v3 v4 v5 (4 * i))) ∧ ∀ k, k < K → τ.1 B (E + k) = .int (rFv v1 v2 v3 v4 v5 k)
theorem vf_d {a b c d e : Int32} {k : Nat} : vf a b c d e (4 * (k / 4)) = vf a b c d e k := by
  unfold vf
  rw [Nat.mul_div_cancel_left _ (by omega)]
theorem sp_199_et (a0 : Nat) (a1 : Int32) (a2 : Int32) (a3 : Int32) (a4 : Int32) (a5 : Int32) (σ : zSg) (h1 : ((q_i ((q_w σ a0 0 (.int (Int32.ofInt (0)))).1 a0 9)) + (Int32.ofInt (20))).toInt ≤ (400 : Int)) (h2 : 0 ≤ (Int32.ofInt (0)).toInt ∧ (Int32.ofInt (0)).toInt < ((q_w σ a0 0 (.int (Int32.ofInt (0)))).2.1 (q_r ((q_w σ a0 0 (.int (Int32.ofInt (0)))).1 a0 15)) : Int)) (h3 : 0 ≤ (Int32.ofInt (1)).toInt ∧ (Int32.ofInt (1)).toInt < ((q_w (q_w σ a0 0 (.int (Int32.ofInt (0)))) (q_r ((q_w σ a0 0 (.int (Int32.ofInt (0)))).1 a0 15)) (Int32.ofInt (0)).toNatClampNeg (.int a1)).2.1 (q_r ((q_w (q_w σ a0 0 (.int (Int32.ofInt (0)))) (q_r ((q_w σ a0 0 (.int (Int32.ofInt (0)))).1 a0 15)) (Int32.ofInt (0)).toNatClampNeg (.int a1)).1 a0 15)) : Int)) (h4 : 0 ≤ (Int32.ofInt (2)).toInt ∧ (Int32.ofInt (2)).toInt < ((q_w (q_w (q_w σ a0 0 (.int (Int32.ofInt (0)))) (q_r ((q_w σ a0 0 (.int (Int32.ofInt (0)))).1 a0 15)) (Int32.ofInt (0)).toNatClampNeg (.int a1)) (q_r ((q_w (q_w σ a0 0 (.int (Int32.ofInt (0)))) (q_r ((q_w σ a0 0 (.int (Int32.ofInt (0)))).1 a0 15)) (Int32.ofInt (0)).toNatClampNeg (.int a1)).1 a0 15)) (Int32.ofInt (1)).toNatClampNeg (.int a2)).2.1 (q_r ((q_w (q_w (q_w σ a0 0 (.int (Int32.ofInt (0)))) (q_r ((q_w σ a0 0 (.int (Int32.ofInt (0)))).1 a0 15)) (Int32.ofInt (0)).toNatClampNeg (.int a1)) (q_r ((q_w (q_w σ a0 0 (.int (Int32.ofInt (0)))) (q_r ((q_w σ a0 0 (.int (Int32.ofInt (0)))).1 a0 15)) (Int32.ofInt (0)).toNatClampNeg (.int a1)).1 a0 15)) (Int32.ofInt (1)).toNatClampNeg (.int a2)).1 a0 15)) : Int)) (h5 : 0 ≤ (Int32.ofInt (3)).toInt ∧ (Int32.ofInt (3)).toInt < ((q_w (q_w (q_w (q_w σ a0 0 (.int (Int32.ofInt (0)))) (q_r ((q_w σ a0 0 (.int (Int32.ofInt (0)))).1 a0 15)) (Int32.ofInt (0)).toNatClampNeg (.int a1)) (q_r ((q_w (q_w σ a0 0 (.int (Int32.ofInt (0)))) (q_r ((q_w σ a0 0 (.int (Int32.ofInt (0)))).1 a0 15)) (Int32.ofInt (0)).toNatClampNeg (.int a1)).1 a0 15)) (Int32.ofInt (1)).toNatClampNeg (.int a2)) (q_r ((q_w (q_w (q_w σ a0 0 (.int (Int32.ofInt (0)))) (q_r ((q_w σ a0 0 (.int (Int32.ofInt (0)))).1 a0 15)) (Int32.ofInt (0)).toNatClampNeg (.int a1)) (q_r ((q_w (q_w σ a0 0 (.int (Int32.ofInt (0)))) (q_r ((q_w σ a0 0 (.int (Int32.ofInt (0)))).1 a0 15)) (Int32.ofInt (0)).toNatClampNeg (.int a1)).1 a0 15)) (Int32.ofInt (1)).toNatClampNeg (.int a2)).1 a0 15)) (Int32.ofInt (2)).toNatClampNeg (.int a3)).2.1 (q_r ((q_w (q_w (q_w (q_w σ a0 0 (.int (Int32.ofInt (0)))) (q_r ((q_w σ a0 0 (.int (Int32.ofInt (0)))).1 a0 15)) (Int32.ofInt (0)).toNatClampNeg (.int a1)) (q_r ((q_w (q_w σ a0 0 (.int (Int32.ofInt (0)))) (q_r ((q_w σ a0 0 (.int (Int32.ofInt (0)))).1 a0 15)) (Int32.ofInt (0)).toNatClampNeg (.int a1)).1 a0 15)) (Int32.ofInt (1)).toNatClampNeg (.int a2)) (q_r ((q_w (q_w (q_w σ a0 0 (.int (Int32.ofInt (0)))) (q_r ((q_w σ a0 0 (.int (Int32.ofInt (0)))).1 a0 15)) (Int32.ofInt (0)).toNatClampNeg (.int a1)) (q_r ((q_w (q_w σ a0 0 (.int (Int32.ofInt (0)))) (q_r ((q_w σ a0 0 (.int (Int32.ofInt (0)))).1 a0 15)) (Int32.ofInt (0)).toNatClampNeg (.int a1)).1 a0 15)) (Int32.ofInt (1)).toNatClampNeg (.int a2)).1 a0 15)) (Int32.ofInt (2)).toNatClampNeg (.int a3)).1 a0 15)) : Int)) (h6 : 0 ≤ (Int32.ofInt (4)).toInt ∧ (Int32.ofInt (4)).toInt < ((q_w (q_w (q_w (q_w (q_w σ a0 0 (.int (Int32.ofInt (0)))) (q_r ((q_w σ a0 0 (.int (Int32.ofInt (0)))).1 a0 15)) (Int32.ofInt (0)).toNatClampNeg (.int a1)) (q_r ((q_w (q_w σ a0 0 (.int (Int32.ofInt (0)))) (q_r ((q_w σ a0 0 (.int (Int32.ofInt (0)))).1 a0 15)) (Int32.ofInt (0)).toNatClampNeg (.int a1)).1 a0 15)) (Int32.ofInt (1)).toNatClampNeg (.int a2)) (q_r ((q_w (q_w (q_w σ a0 0 (.int (Int32.ofInt (0)))) (q_r ((q_w σ a0 0 (.int (Int32.ofInt (0)))).1 a0 15)) (Int32.ofInt (0)).toNatClampNeg (.int a1)) (q_r ((q_w (q_w σ a0 0 (.int (Int32.ofInt (0)))) (q_r ((q_w σ a0 0 (.int (Int32.ofInt (0)))).1 a0 15)) (Int32.ofInt (0)).toNatClampNeg (.int a1)).1 a0 15)) (Int32.ofInt (1)).toNatClampNeg (.int a2)).1 a0 15)) (Int32.ofInt (2)).toNatClampNeg (.int a3)) (q_r ((q_w (q_w (q_w (q_w σ a0 0 (.int (Int32.ofInt (0)))) (q_r ((q_w σ a0 0 (.int (Int32.ofInt (0)))).1 a0 15)) (Int32.ofInt (0)).toNatClampNeg (.int a1)) (q_r ((q_w (q_w σ a0 0 (.int (Int32.ofInt (0)))) (q_r ((q_w σ a0 0 (.int (Int32.ofInt (0)))).1 a0 15)) (Int32.ofInt (0)).toNatClampNeg (.int a1)).1 a0 15)) (Int32.ofInt (1)).toNatClampNeg (.int a2)) (q_r ((q_w (q_w (q_w σ a0 0 (.int (Int32.ofInt (0)))) (q_r ((q_w σ a0 0 (.int (Int32.ofInt (0)))).1 a0 15)) (Int32.ofInt (0)).toNatClampNeg (.int a1)) (q_r ((q_w (q_w σ a0 0 (.int (Int32.ofInt (0)))) (q_r ((q_w σ a0 0 (.int (Int32.ofInt (0)))).1 a0 15)) (Int32.ofInt (0)).toNatClampNeg (.int a1)).1 a0 15)) (Int32.ofInt (1)).toNatClampNeg (.int a2)).1 a0 15)) (Int32.ofInt (2)).toNatClampNeg (.int a3)).1 a0 15)) (Int32.ofInt (3)).toNatClampNeg (.int a4)).2.1 (q_r ((q_w (q_w (q_w (q_w (q_w σ a0 0 (.int (Int32.ofInt (0)))) (q_r ((q_w σ a0 0 (.int (Int32.ofInt (0)))).1 a0 15)) (Int32.ofInt (0)).toNatClampNeg (.int a1)) (q_r ((q_w (q_w σ a0 0 (.int (Int32.ofInt (0)))) (q_r ((q_w σ a0 0 (.int (Int32.ofInt (0)))).1 a0 15)) (Int32.ofInt (0)).toNatClampNeg (.int a1)).1 a0 15)) (Int32.ofInt (1)).toNatClampNeg (.int a2)) (q_r ((q_w (q_w (q_w σ a0 0 (.int (Int32.ofInt (0)))) (q_r ((q_w σ a0 0 (.int (Int32.ofInt (0)))).1 a0 15)) (Int32.ofInt (0)).toNatClampNeg (.int a1)) (q_r ((q_w (q_w σ a0 0 (.int (Int32.ofInt (0)))) (q_r ((q_w σ a0 0 (.int (Int32.ofInt (0)))).1 a0 15)) (Int32.ofInt (0)).toNatClampNeg (.int a1)).1 a0 15)) (Int32.ofInt (1)).toNatClampNeg (.int a2)).1 a0 15)) (Int32.ofInt (2)).toNatClampNeg (.int a3)) (q_r ((q_w (q_w (q_w (q_w σ a0 0 (.int (Int32.ofInt (0)))) (q_r ((q_w σ a0 0 (.int (Int32.ofInt (0)))).1 a0 15)) (Int32.ofInt (0)).toNatClampNeg (.int a1)) (q_r ((q_w (q_w σ a0 0 (.int (Int32.ofInt (0)))) (q_r ((q_w σ a0 0 (.int (Int32.ofInt (0)))).1 a0 15)) (Int32.ofInt (0)).toNatClampNeg (.int a1)).1 a0 15)) (Int32.ofInt (1)).toNatClampNeg (.int a2)) (q_r ((q_w (q_w (q_w σ a0 0 (.int (Int32.ofInt (0)))) (q_r ((q_w σ a0 0 (.int (Int32.ofInt (0)))).1 a0 15)) (Int32.ofInt (0)).toNatClampNeg (.int a1)) (q_r ((q_w (q_w σ a0 0 (.int (Int32.ofInt (0)))) (q_r ((q_w σ a0 0 (.int (Int32.ofInt (0)))).1 a0 15)) (Int32.ofInt (0)).toNatClampNeg (.int a1)).1 a0 15)) (Int32.ofInt (1)).toNatClampNeg (.int a2)).1 a0 15)) (Int32.ofInt (2)).toNatClampNeg (.int a3)).1 a0 15)) (Int32.ofInt (3)).toNatClampNeg (.int a4)).1 a0 15)) : Int)) :
    i_199 a0 a1 a2 a3 a4 a5 σ a0 (Int32.ofInt (0)) (q_w (q_w (q_w (q_w (q_w (q_w σ a0 0 (.int (Int32.ofInt (0)))) (q_r ((q_w σ a0 0 (.int (Int32.ofInt (0)))).1 a0 15)) (Int32.ofInt (0)).toNatClampNeg (.int a1)) (q_r ((q_w (q_w σ a0 0 (.int (Int32.ofInt (0)))) (q_r ((q_w σ a0 0 (.int (Int32.ofInt (0)))).1 a0 15)) (Int32.ofInt (0)).toNatClampNeg (.int a1)).1 a0 15)) (Int32.ofInt (1)).toNatClampNeg (.int a2)) (q_r ((q_w (q_w (q_w σ a0 0 (.int (Int32.ofInt (0)))) (q_r ((q_w σ a0 0 (.int (Int32.ofInt (0)))).1 a0 15)) (Int32.ofInt (0)).toNatClampNeg (.int a1)) (q_r ((q_w (q_w σ a0 0 (.int (Int32.ofInt (0)))) (q_r ((q_w σ a0 0 (.int (Int32.ofInt (0)))).1 a0 15)) (Int32.ofInt (0)).toNatClampNeg (.int a1)).1 a0 15)) (Int32.ofInt (1)).toNatClampNeg (.int a2)).1 a0 15)) (Int32.ofInt (2)).toNatClampNeg (.int a3)) (q_r ((q_w (q_w (q_w (q_w σ a0 0 (.int (Int32.ofInt (0)))) (q_r ((q_w σ a0 0 (.int (Int32.ofInt (0)))).1 a0 15)) (Int32.ofInt (0)).toNatClampNeg (.int a1)) (q_r ((q_w (q_w σ a0 0 (.int (Int32.ofInt (0)))) (q_r ((q_w σ a0 0 (.int (Int32.ofInt (0)))).1 a0 15)) (Int32.ofInt (0)).toNatClampNeg (.int a1)).1 a0 15)) (Int32.ofInt (1)).toNatClampNeg (.int a2)) (q_r ((q_w (q_w (q_w σ a0 0 (.int (Int32.ofInt (0)))) (q_r ((q_w σ a0 0 (.int (Int32.ofInt (0)))).1 a0 15)) (Int32.ofInt (0)).toNatClampNeg (.int a1)) (q_r ((q_w (q_w σ a0 0 (.int (Int32.ofInt (0)))) (q_r ((q_w σ a0 0 (.int (Int32.ofInt (0)))).1 a0 15)) (Int32.ofInt (0)).toNatClampNeg (.int a1)).1 a0 15)) (Int32.ofInt (1)).toNatClampNeg (.int a2)).1 a0 15)) (Int32.ofInt (2)).toNatClampNeg (.int a3)).1 a0 15)) (Int32.ofInt (3)).toNatClampNeg (.int a4)) (q_r ((q_w (q_w (q_w (q_w (q_w σ a0 0 (.int (Int32.ofInt (0)))) (q_r ((q_w σ a0 0 (.int (Int32.ofInt (0)))).1 a0 15)) (Int32.ofInt (0)).toNatClampNeg (.int a1)) (q_r ((q_w (q_w σ a0 0 (.int (Int32.ofInt (0)))) (q_r ((q_w σ a0 0 (.int (Int32.ofInt (0)))).1 a0 15)) (Int32.ofInt (0)).toNatClampNeg (.int a1)).1 a0 15)) (Int32.ofInt (1)).toNatClampNeg (.int a2)) (q_r ((q_w (q_w (q_w σ a0 0 (.int (Int32.ofInt (0)))) (q_r ((q_w σ a0 0 (.int (Int32.ofInt (0)))).1 a0 15)) (Int32.ofInt (0)).toNatClampNeg (.int a1)) (q_r ((q_w (q_w σ a0 0 (.int (Int32.ofInt (0)))) (q_r ((q_w σ a0 0 (.int (Int32.ofInt (0)))).1 a0 15)) (Int32.ofInt (0)).toNatClampNeg (.int a1)).1 a0 15)) (Int32.ofInt (1)).toNatClampNeg (.int a2)).1 a0 15)) (Int32.ofInt (2)).toNatClampNeg (.int a3)) (q_r ((q_w (q_w (q_w (q_w σ a0 0 (.int (Int32.ofInt (0)))) (q_r ((q_w σ a0 0 (.int (Int32.ofInt (0)))).1 a0 15)) (Int32.ofInt (0)).toNatClampNeg (.int a1)) (q_r ((q_w (q_w σ a0 0 (.int (Int32.ofInt (0)))) (q_r ((q_w σ a0 0 (.int (Int32.ofInt (0)))).1 a0 15)) (Int32.ofInt (0)).toNatClampNeg (.int a1)).1 a0 15)) (Int32.ofInt (1)).toNatClampNeg (.int a2)) (q_r ((q_w (q_w (q_w σ a0 0 (.int (Int32.ofInt (0)))) (q_r ((q_w σ a0 0 (.int (Int32.ofInt (0)))).1 a0 15)) (Int32.ofInt (0)).toNatClampNeg (.int a1)) (q_r ((q_w (q_w σ a0 0 (.int (Int32.ofInt (0)))) (q_r ((q_w σ a0 0 (.int (Int32.ofInt (0)))).1 a0 15)) (Int32.ofInt (0)).toNatClampNeg (.int a1)).1 a0 15)) (Int32.ofInt (1)).toNatClampNeg (.int a2)).1 a0 15)) (Int32.ofInt (2)).toNatClampNeg (.int a3)).1 a0 15)) (Int32.ofInt (3)).toNatClampNeg (.int a4)).1 a0 15)) (Int32.ofInt (4)).toNatClampNeg (.int a5)) := by
  refine ⟨rfl, fun B F E H => ?_⟩
  obtain ⟨x8, x15, hB, hFa, hFB, x9, hE⟩ := H
  rw [q_w_ne (fun _ q => by omega), x9] at h1
  have e1 : (Int32.ofNat E + Int32.ofInt 20).toInt = (E : Int) + 20 := zI_add (o32 (by omega)) (zI_c (by omega) (by omega)) (by omega) (by omega)
  have HX : (Int32.ofNat E + Int32.ofInt 20).toInt ≤ 400 := h1
  rw [e1] at HX
  refine ⟨by omega, 0, by omega, rfl, ?_⟩
  have s0 : (q_w σ a0 0 (.int (Int32.ofInt (0)))).1 a0 15 = .ref F := by rw [q_w_ne (fun _ q => by omega)]; exact x15
  have s1 : (q_w (q_w σ a0 0 (.int (Int32.ofInt (0)))) F (Int32.ofInt (0)).toNatClampNeg (.int a1)).1 a0 15 = .ref F := by rw [q_w_ne (fun q _ => hFa q.symm)]; exact s0
  have s2 : (q_w (q_w (q_w σ a0 0 (.int (Int32.ofInt (0)))) F (Int32.ofInt (0)).toNatClampNeg (.int a1)) F (Int32.ofInt (1)).toNatClampNeg (.int a2)).1 a0 15 = .ref F := by rw [q_w_ne (fun q _ => hFa q.symm)]; exact s1
  have s3 : (q_w (q_w (q_w (q_w σ a0 0 (.int (Int32.ofInt (0)))) F (Int32.ofInt (0)).toNatClampNeg (.int a1)) F (Int32.ofInt (1)).toNatClampNeg (.int a2)) F (Int32.ofInt (2)).toNatClampNeg (.int a3)).1 a0 15 = .ref F := by rw [q_w_ne (fun q _ => hFa q.symm)]; exact s2
  have s4 : (q_w (q_w (q_w (q_w (q_w σ a0 0 (.int (Int32.ofInt (0)))) F (Int32.ofInt (0)).toNatClampNeg (.int a1)) F (Int32.ofInt (1)).toNatClampNeg (.int a2)) F (Int32.ofInt (2)).toNatClampNeg (.int a3)) F (Int32.ofInt (3)).toNatClampNeg (.int a4)).1 a0 15 = .ref F := by rw [q_w_ne (fun q _ => hFa q.symm)]; exact s3
  have s5 : (q_w (q_w (q_w (q_w (q_w (q_w σ a0 0 (.int (Int32.ofInt (0)))) F (Int32.ofInt (0)).toNatClampNeg (.int a1)) F (Int32.ofInt (1)).toNatClampNeg (.int a2)) F (Int32.ofInt (2)).toNatClampNeg (.int a3)) F (Int32.ofInt (3)).toNatClampNeg (.int a4)) F (Int32.ofInt (4)).toNatClampNeg (.int a5)).1 a0 15 = .ref F := by rw [q_w_ne (fun q _ => hFa q.symm)]; exact s4
  have r0 : q_r ((q_w σ a0 0 (.int (Int32.ofInt (0)))).1 a0 15) = F := by rw [s0]; rfl
  have r1 : q_r ((q_w (q_w σ a0 0 (.int (Int32.ofInt (0)))) F (Int32.ofInt (0)).toNatClampNeg (.int a1)).1 a0 15) = F := by rw [s1]; rfl
  have r2 : q_r ((q_w (q_w (q_w σ a0 0 (.int (Int32.ofInt (0)))) F (Int32.ofInt (0)).toNatClampNeg (.int a1)) F (Int32.ofInt (1)).toNatClampNeg (.int a2)).1 a0 15) = F := by rw [s2]; rfl
  have r3 : q_r ((q_w (q_w (q_w (q_w σ a0 0 (.int (Int32.ofInt (0)))) F (Int32.ofInt (0)).toNatClampNeg (.int a1)) F (Int32.ofInt (1)).toNatClampNeg (.int a2)) F (Int32.ofInt (2)).toNatClampNeg (.int a3)).1 a0 15) = F := by rw [s3]; rfl
  have r4 : q_r ((q_w (q_w (q_w (q_w (q_w σ a0 0 (.int (Int32.ofInt (0)))) F (Int32.ofInt (0)).toNatClampNeg (.int a1)) F (Int32.ofInt (1)).toNatClampNeg (.int a2)) F (Int32.ofInt (2)).toNatClampNeg (.int a3)) F (Int32.ofInt (3)).toNatClampNeg (.int a4)).1 a0 15) = F := by rw [s4]; rfl
  rw [r0, r1, r2, r3, r4]
  have k0 : (Int32.ofInt (0)).toNatClampNeg = 0 := rfl
  have k1 : (Int32.ofInt (1)).toNatClampNeg = 1 := rfl
  have k2 : (Int32.ofInt (2)).toNatClampNeg = 2 := rfl
  have k3 : (Int32.ofInt (3)).toNatClampNeg = 3 := rfl
  have k4 : (Int32.ofInt (4)).toNatClampNeg = 4 := rfl
  rw [k0, k1, k2, k3, k4]
  have go : ∀ c k, c ≠ F → (q_w (q_w (q_w (q_w (q_w (q_w σ a0 0 (.int (Int32.ofInt (0)))) F 0 (.int a1)) F 1 (.int a2)) F 2 (.int a3)) F 3 (.int a4)) F 4 (.int a5)).1 c k = (q_w σ a0 0 (.int (Int32.ofInt (0)))).1 c k := by
    intro c k q
    rw [q_w_ne (fun e _ => q e), q_w_ne (fun e _ => q e), q_w_ne (fun e _ => q e), q_w_ne (fun e _ => q e), q_w_ne (fun e _ => q e)]
  refine ⟨⟨rfl, fun c k q1 q2 q3 => ?_⟩, ?_, ?_, ?_, fun k hk => by omega⟩
  · rw [go c k q3, q_w_ne (fun e1 e2 => q1 ⟨e1, by omega⟩)]
  · rw [go _ _ (fun q => hFa q.symm), q_w_at]
  · rw [go _ _ (fun q => hFa q.symm), q_w_ne (fun _ q => by omega)]; exact x9
  · intro i hi
    match i, hi with
    | 0, _ => rw [q_w_ne (fun _ q => by omega), q_w_ne (fun _ q => by omega), q_w_ne (fun _ q => by omega), q_w_ne (fun _ q => by omega), q_w_at]; rfl
    | 1, _ => rw [q_w_ne (fun _ q => by omega), q_w_ne (fun _ q => by omega), q_w_ne (fun _ q => by omega), q_w_at]; rfl
    | 2, _ => rw [q_w_ne (fun _ q => by omega), q_w_ne (fun _ q => by omega), q_w_at]; rfl
    | 3, _ => rw [q_w_ne (fun _ q => by omega), q_w_at]; rfl
    | 4, _ => rw [q_w_at]; rfl
    | i + 5, h => omega
theorem sp_199_ef (a0 : Nat) (a1 : Int32) (a2 : Int32) (a3 : Int32) (a4 : Int32) (a5 : Int32) (σ : zSg) (h1 : ((q_i ((q_w σ a0 0 (.int (Int32.ofInt (0)))).1 a0 9)) + (Int32.ofInt (20))).toInt > (400 : Int)) :
    p_199 (a0) (a1) (a2) (a3) (a4) (a5) σ (Int32.ofInt (-1)) (q_w σ a0 0 (.int (Int32.ofInt (0)))) := by
  intro B F E H
  obtain ⟨x8, x15, hB, hFa, hFB, x9, hE⟩ := H
  rw [q_w_ne (fun _ q => by omega), x9] at h1
  have e1 : (Int32.ofNat E + Int32.ofInt 20).toInt = (E : Int) + 20 := zI_add (o32 (by omega)) (zI_c (by omega) (by omega)) (by omega) (by omega)
  have HX : (Int32.ofNat E + Int32.ofInt 20).toInt > 400 := h1
  rw [e1] at HX
  exact ⟨fun q => by omega, fun _ => ⟨rfl, rfl⟩⟩
theorem sp_199_c38_t (a0 : Nat) (a1 : Int32) (a2 : Int32) (a3 : Int32) (a4 : Int32) (a5 : Int32) (σ : zSg) (l0 : Nat) (l6 : Int32) (τ : zSg) (hI : i_199 a0 a1 a2 a3 a4 a5 σ l0 l6 τ) (h7 : l6.toInt ≥ (20 : Int)) :
    p_199 (a0) (a1) (a2) (a3) (a4) (a5) σ (q_i ((q_w τ l0 9 (.int ((q_i (τ.1 l0 9)) + (Int32.ofInt (20))))).1 l0 9)) (q_w τ l0 9 (.int ((q_i (τ.1 l0 9)) + (Int32.ofInt (20))))) := by
  obtain ⟨rfl, G⟩ := hI
  intro B F E H
  obtain ⟨hE, K, hK, rfl, ⟨f1, f2⟩, z0, z9, hf, hb⟩ := G B F E H
  obtain ⟨x8, x15, hB, hFa, hFB, x9, hE4⟩ := H
  rw [o32 (by omega)] at h7
  have hK2 : K = 20 := by omega
  subst hK2
  have e9 : q_i (τ.1 l0 9) + Int32.ofInt 20 = Int32.ofNat (E + 20) := by
    rw [z9]
    exact Int32.toInt_inj.mp (by rw [show q_i (.int (Int32.ofNat E)) = Int32.ofNat E from rfl, zI_add (o32 (by omega)) (zI_c (by omega) (by omega)) (by omega) (by omega), o32 (by omega)]; omega)
  rw [e9, q_w_at]
  refine ⟨fun _ => ⟨rfl, ⟨f1, fun c k q1 q2 q3 => ?_⟩, ?_, rfl, fun k hk => ?_⟩, fun q => by omega⟩
  · rw [q_w_ne (fun e1 e2 => q1 ⟨e1, by omega⟩)]; exact f2 c k q1 q2 q3
  · rw [q_w_ne (fun _ q => by omega)]; exact z0
  · rw [q_w_ne (fun q _ => hB q)]; exact hb k hk
theorem sp_199_c38_f (a0 : Nat) (a1 : Int32) (a2 : Int32) (a3 : Int32) (a4 : Int32) (a5 : Int32) (σ : zSg) (l0 : Nat) (l6 : Int32) (τ : zSg) (hI : i_199 a0 a1 a2 a3 a4 a5 σ l0 l6 τ) (h7 : l6.toInt < (20 : Int)) (h8 : 0 ≤ (l6 / (Int32.ofInt (4))).toInt ∧ (l6 / (Int32.ofInt (4))).toInt < (τ.2.1 (q_r (τ.1 l0 15)) : Int)) (h9 : 0 ≤ ((q_i (τ.1 l0 9)) + l6).toInt ∧ ((q_i (τ.1 l0 9)) + l6).toInt < (τ.2.1 (q_r (τ.1 l0 8)) : Int)) :
    i_199 a0 a1 a2 a3 a4 a5 σ l0 (l6 + Int32.ofInt (1)) (q_w τ (q_r (τ.1 l0 8)) ((q_i (τ.1 l0 9)) + l6).toNatClampNeg (.int (vp_nar .byte (((q_i (τ.1 (q_r (τ.1 l0 15)) (l6 / (Int32.ofInt (4))).toNatClampNeg)) >>> (((Int32.ofInt (24)) - ((Int32.ofInt (8)) * (l6 - l6 / (Int32.ofInt (4)) * (Int32.ofInt (4))))) &&& 31)).toInt8.toInt32)))) := by
  obtain ⟨rfl, G⟩ := hI
  refine ⟨rfl, fun B F E H => ?_⟩
  obtain ⟨hE, K, hK, rfl, ⟨f1, f2⟩, z0, z9, hf, hb⟩ := G B F E H
  obtain ⟨x8, x15, hB, hFa, hFB, x9, hE4⟩ := H
  rw [o32 (by omega)] at h7
  obtain ⟨c1, c2⟩ := rK (K := K) (by omega)
  have q8 : q_r (τ.1 l0 8) = B := by rw [f2 l0 8 (fun q => by omega) (fun q => hB q.1.symm) (fun q => hFa q.symm), x8]; rfl
  have q15 : q_r (τ.1 l0 15) = F := by rw [f2 l0 15 (fun q => by omega) (fun q => hB q.1.symm) (fun q => hFa q.symm), x15]; rfl
  have e9 : q_i (τ.1 l0 9) + Int32.ofNat K = Int32.ofNat (E + K) := by
    rw [z9]
    exact o32a (by omega)
  have ev : q_i (τ.1 F (K / 4)) = vf a1 a2 a3 a4 a5 K := by
    rw [hf (K / 4) (by omega), vf_d]; rfl
  rw [q8, q15, e9, o32n (by omega), c1, c2, ev]
  refine ⟨hE, K + 1, by omega, o32i (by omega), ⟨f1, fun c k q1 q2 q3 => ?_⟩, ?_, ?_, fun i hi => ?_, fun k hk => ?_⟩
  · rw [q_w_ne (fun e1 e2 => q2 ⟨e1, by omega⟩)]; exact f2 c k q1 (fun q => q2 ⟨q.1, by omega⟩) q3
  · rw [q_w_ne (fun q _ => hB q.symm)]; exact z0
  · rw [q_w_ne (fun q _ => hB q.symm)]; exact z9
  · rw [q_w_ne (fun q _ => hFB q)]; exact hf i hi
  · by_cases hk2 : k = K
    · subst hk2
      rw [q_w_at]
      rfl
    · rw [q_w_ne (fun _ q => by omega)]; exact hb k (by omega)
noncomputable def qP_199 : zPp := fun as σ o σ' => match as with
  | [a0, a1, a2, a3, a4, a5] => ∃ r, o = .inl (some (.int r)) ∧ p_199 (q_r a0) (q_i a1) (q_i a2) (q_i a3) (q_i a4) (q_i a5) σ r σ'
  | _ => True
set_option maxRecDepth 100000 in
theorem sp_199 {sx : zX}  : zEe sx 199 6 qP_199 := by
  refine zfle zJ_199 (sps := []) (fun q hq => absurd hq List.not_mem_nil) (fun as σ hl => ?_)
  match as, hl with
  | [a0, a1, a2, a3, a4, a5], _ =>
  refine ⟨[(38, fun lo st τ => st = [] ∧ i_199 (q_r a0) (q_i a1) (q_i a2) (q_i a3) (q_i a4) (q_i a5) σ (q_r (lo 0)) (q_i (lo 6)) τ)], 400, ?_, ?_⟩
  · intro q hq
    simp only [List.mem_cons, List.not_mem_nil, or_false] at hq
    rcases hq with rfl
    · rintro lo st τ ⟨rfl, hI⟩
      refine ⟨400, ?_⟩
      refine And.intro (fun h7 => ?_) (fun h7 => ?_)
      · exact ⟨_, rfl, sp_199_c38_t (q_r a0) (q_i a1) (q_i a2) (q_i a3) (q_i a4) (q_i a5) σ (q_r (lo 0)) (q_i (lo 6)) τ hI (cm3t h7)⟩
      · refine fun h8 => ?_
        refine fun h9 => ?_
        exact ⟨rfl, sp_199_c38_f (q_r a0) (q_i a1) (q_i a2) (q_i a3) (q_i a4) (q_i a5) σ (q_r (lo 0)) (q_i (lo 6)) τ hI (cm3f h7) (q_inp h8) (q_inp h9)⟩
  · refine And.intro (fun h1 => ?_) (fun h1 => ?_)
    · refine fun h2 => ?_
      refine fun h3 => ?_
      refine fun h4 => ?_
      refine fun h5 => ?_
      refine fun h6 => ?_
      exact ⟨rfl, sp_199_et (q_r a0) (q_i a1) (q_i a2) (q_i a3) (q_i a4) (q_i a5) σ (cm5t h1) (q_inp h2) (q_inp h3) (q_inp h4) (q_inp h5) (q_inp h6)⟩
    · exact ⟨_, rfl, sp_199_ef (q_r a0) (q_i a1) (q_i a2) (q_i a3) (q_i a4) (q_i a5) σ (cm5f h1)⟩
end
section
/-! a typed heap is well kinded -/
noncomputable def q_tck (t : Nat) : Bool := !decide ((z_tt t).1 = 0) || (List.range (z_tt t).2.2.1).all (fun b => match q_kd (z_tt t).2.1 b with
  | 0 => (match zrg (z_tt t).2.2.2 (b : Int) (b : Int) with | some (0, _, _) => true | _ => false)
  | 1 => (match zrg (z_tt t).2.2.2 (b : Int) (b : Int) with | some (2, _, _) => true | _ => false)
  | _ => true)
theorem q_tck_35 : (List.range 35).all q_tck = true := by decide +kernel
theorem zsh_obj {T : zTy} {c : Nat} {fs : List Value} (h : z_sh T (.inr (c, fs))) : T.1 = 0 ∧ c = T.2.1 ∧ fs.length = T.2.2.1 := by
  obtain ⟨k, c', n, rs⟩ := T
  match k, h with
  | 0, h => exact ⟨rfl, h.1, h.2⟩
  | 1, h => exact False.elim h
  | 2, h => exact False.elim h
  | 3, h => exact False.elim h
  | 4, h => exact False.elim h
  | k + 5, h => exact False.elim h
theorem zsh_ref {T : zTy} {n : Nat} {f : Nat → Option Nat} (h : z_sh T (.inl (3, (n, .inr (.inr (.inr (.inr f))))))) : T.1 = 4 ∧ n = T.2.2.1 := by
  obtain ⟨k, c', m, rs⟩ := T
  match k, h with
  | 0, h => exact False.elim h
  | 1, h => exact False.elim h
  | 2, h => exact False.elim h
  | 3, h => exact False.elim h
  | 4, h => exact ⟨rfl, h⟩
  | k + 5, h => exact False.elim h
theorem q_t18 : (List.range 35).all (fun t => decide ((z_tt t).1 ≠ 4) || decide (t = 18)) = true := by decide +kernel
theorem zTY_kh {ty : List Nat} {h : zH} (T : zTY z_tt ty h) : zKh h := by
  refine ⟨fun i c fs b v he hv => ?_, fun i n f he j hj => ?_⟩
  · have hi := (List.getElem?_eq_some_iff.mp he).1
    have ht : ty[i]? = some (ty[i]'(by rw [T.1]; exact hi)) := List.getElem?_eq_getElem _
    generalize ty[i]'(by rw [T.1]; exact hi) = t at ht
    obtain ⟨s1, s2, s3⟩ := zsh_obj (T.2.2 i t _ ht he).1
    have hb := (List.getElem?_eq_some_iff.mp hv).1
    by_cases h35 : t < 35
    · have key := List.all_eq_true.mp q_tck_35 t (List.mem_range.mpr h35)
      unfold q_tck at key
      rw [s1] at key
      have key := List.all_eq_true.mp key b (List.mem_range.mpr (by omega))
      rw [← s2] at key
      cases hk : q_kd c b with
      | zero =>
        rw [hk] at key
        cases hr : zrg (z_tt t).2.2.2 (b : Int) (b : Int) with
        | none => rw [hr] at key; cases key
        | some A =>
          obtain ⟨tg, lo, hi9⟩ := A
          rw [hr] at key
          match tg, key, hr with
          | 0, _, hr =>
          obtain ⟨w, hw, g⟩ := zfd (b := b) T ht he hb hr
          rw [hv] at hw
          cases hw
          obtain ⟨x, rfl, -⟩ := g
          rfl
          | tg + 1, key, _ => cases key
      | succ n =>
        cases n with
        | zero =>
          rw [hk] at key
          cases hr : zrg (z_tt t).2.2.2 (b : Int) (b : Int) with
          | none => rw [hr] at key; cases key
          | some A =>
            obtain ⟨tg, lo, hi9⟩ := A
            rw [hr] at key
            match tg, key, hr with
            | 0, key, _ => cases key
            | 1, key, _ => cases key
            | tg + 3, key, _ => cases key
            | 2, _, hr =>
            obtain ⟨w, hw, g⟩ := zfd (b := b) T ht he hb hr
            rw [hv] at hw
            cases hw
            obtain ⟨x, t9, rfl, -⟩ := g
            rfl
        | succ n => rfl
    · -- the laws' objects, else none
      by_cases h100 : 100 ≤ t ∧ t ≤ 112
      · have e : z_tt t = (0, 2, 6, [(0, 0, (0, ((t - 100 : Nat) : Int), ((t - 100 : Nat) : Int))), (1, 2, (2, ((t + 40 : Nat) : Int), ((t + 40 : Nat) : Int))), (3, 3, (2, ((t + 20 : Nat) : Int), ((t + 20 : Nat) : Int))), (4, 4, (2, 1000, 1400)), (5, 5, (2, 34, 34))]) := by
          unfold z_tt
          rw [if_neg h35, if_pos h100]
        rw [e] at s2
        have s2 : c = 2 := s2
        subst s2
        match b, hv with
        | 0, hv =>
          have h9 := (T.2.2 i t _ ht he).2 0 v hv
          rw [e] at h9
          obtain ⟨x, rfl, -⟩ := h9 (0, 0, (0, ((t - 100 : Nat) : Int), ((t - 100 : Nat) : Int))) List.mem_cons_self (Int.le_refl _) (Int.le_refl _)
          rfl
        | b + 1, hv =>
          have h2 : q_kd 2 (b + 1) = 2 := by
            match b with
            | 0 => rfl
            | 1 => rfl
            | 2 => rfl
            | 3 => rfl
            | 4 => rfl
            | b + 5 => rfl
          rw [h2]
          rfl
      · exfalso
        have e : (z_tt t).1 ≠ 0 := by
          unfold z_tt
          rw [if_neg h35, if_neg h100]
          split
          · exact (by decide : (1 : Nat) ≠ 0)
          · split
            · exact (by decide : (1 : Nat) ≠ 0)
            · split
              · exact (by decide : (1 : Nat) ≠ 0)
              · exact (by decide : (9 : Nat) ≠ 0)
        exact e s1
  · have hi := (List.getElem?_eq_some_iff.mp he).1
    have ht : ty[i]? = some (ty[i]'(by rw [T.1]; exact hi)) := List.getElem?_eq_getElem _
    generalize ty[i]'(by rw [T.1]; exact hi) = t at ht
    obtain ⟨hs, hr⟩ := T.2.2 i t _ ht he
    have h4 : (z_tt t).1 = 4 ∧ n = (z_tt t).2.2.1 := zsh_ref hs
    have h18 : t = 18 := by
      by_cases h35 : t < 35
      · have key := List.all_eq_true.mp q_t18 t (List.mem_range.mpr h35)
        rw [Bool.or_eq_true, decide_eq_true_eq, decide_eq_true_eq] at key
        rcases key with key | key
        · exact absurd h4.1 key
        · exact key
      · exfalso
        have e : (z_tt t).1 ≠ 4 := by
          unfold z_tt
          rw [if_neg h35]
          split
          · exact (by decide : (0 : Nat) ≠ 4)
          · split
            · exact (by decide : (1 : Nat) ≠ 4)
            · split
              · exact (by decide : (1 : Nat) ≠ 4)
              · split
                · exact (by decide : (1 : Nat) ≠ 4)
                · exact (by decide : (9 : Nat) ≠ 4)
        exact e h4.1
    subst h18
    have hn : n = 12 := h4.2
    obtain ⟨x, t9, e9, -⟩ := hr j (va_rf (f j)) (by rw [z_rd3, if_pos hj]) (0, 11, (2, 8, 8)) (by decide) (by show (0 : Int) ≤ j; omega) (by show (j : Int) ≤ 11; omega)
    cases hf : f j with
    | none => rw [hf] at e9; cases e9
    | some r => exact ⟨r, rfl⟩
end
section
/-! THE SKELETON: which cell each field of the two objects and of their houses holds; it stays as it was made -/
noncomputable def zHty : List Nat := [8, 16, 9, 10, 10, 10, 10, 11, 12, 12, 13, 14, 12]
noncomputable def zty1 : List Nat := [1, 2, 3, 4, 5, 5, 6, 7] ++ zHty ++ zHty ++ zHty ++ [17, 18] ++ zHty ++ zHty ++ zHty ++ zHty ++ zHty ++ zHty ++ zHty ++ zHty ++ zHty ++ zHty ++ zHty ++ zHty ++ [20, 21, 22, 23, 24, 25, 26, 27, 28, 29, 30, 31, 32, 33]
noncomputable def zHsk (b : Nat) : List (Nat × Nat × Nat) := [(b, 0, b + 1), (b, 1, b + 2), (b, 2, b + 7), (b, 3, b + 10), (b, 4, b + 12), (b + 2, 0, b + 3), (b + 2, 1, b + 4), (b + 2, 2, b + 5), (b + 2, 3, b + 6), (b + 7, 0, b + 8), (b + 7, 1, b + 9), (b + 10, 0, b + 11)]
noncomputable def zHbs : List Nat := [8, 21, 34, 49, 62, 75, 88, 101, 114, 127, 140, 153, 166, 179, 192]
noncomputable def zskl : List (Nat × Nat × Nat) := [(0, 0, 1), (0, 1, 3), (0, 2, 8), (0, 3, 21), (0, 4, 34), (0, 5, 47), (1, 0, 2), (3, 0, 4), (3, 1, 5), (3, 2, 6), (3, 3, 7), (47, 0, 48)] ++ (List.range 12).map (fun i => (48, i, 49 + 13 * i)) ++ zHbs.flatMap zHsk ++ [(205, 1, 206), (205, 2, 207), (205, 3, 208), (205, 4, 209), (205, 5, 210), (205, 8, 211), (205, 15, 212), (205, 17, 213), (205, 18, 214), (205, 19, 215), (205, 20, 216), (205, 21, 217)]
noncomputable def zSkl (h : zH) : Prop := ∀ q ∈ zskl, zv h q.1 q.2.1 = .ref q.2.2
noncomputable def zinB (ms : List zMod) (t i : Nat) : Bool := ms.any (fun m => decide (m.1 = t) && (decide (m.2.1 ≤ (i : Int)) && decide ((i : Int) ≤ m.2.2)))
theorem zinB_ok {ms : List zMod} {t i : Nat} (h : zinB ms t i = false) : ¬ zIn ms t i := by
  rintro ⟨m, hm, m1, m2, m3⟩
  have : zinB ms t i = true := List.any_eq_true.mpr ⟨m, hm, by rw [Bool.and_eq_true, Bool.and_eq_true, decide_eq_true_eq, decide_eq_true_eq, decide_eq_true_eq]; exact ⟨m1, m2, m3⟩⟩
  rw [this] at h
  cases h
/-- a place that is not among the changed ones -/
theorem zv_keep {ms : List zMod} {ty ty' : List Nat} {h h' : zH} {c t k : Nat} (T : zTY z_tt ty h) (T' : zTY z_tt ty' h') (F : zFm ms ty h h') (ht : ty[c]? = some t) (hn : ¬ zIn ms t k) : zv h' c k = zv h c k := by
  have hl : c < h.length := by rw [← T.1]; exact (List.getElem?_eq_some_iff.mp ht).1
  have hl' : c < h'.length := Nat.lt_of_lt_of_le hl F.1
  have e : h[c]? = some h[c] := List.getElem?_eq_getElem hl
  have e' : h'[c]? = some h'[c] := List.getElem?_eq_getElem hl'
  rw [zv_at e, zv_at e', F.2 c t _ _ ht e e' k hn]
noncomputable def zskOK (ms : List zMod) : Bool := zskl.all (fun q => !zinB ms (zty1.getD q.1 0) q.2.1)
theorem zskl_ty : zskl.all (fun q => decide (q.1 < zty1.length)) = true := by decide +kernel
theorem zSkl.keep {ms : List zMod} {ty ty' : List Nat} {h h' : zH} (H : zSkl h) (T : zTY z_tt ty h) (T' : zTY z_tt ty' h') (F : zFm ms ty h h') (X : zExt zty1 ty) (hm : zskOK ms = true) : zSkl h' := by
  intro q hq
  have h1 := List.all_eq_true.mp hm q hq
  have h2 := of_decide_eq_true (List.all_eq_true.mp zskl_ty q hq)
  have ht : ty[q.1]? = some (zty1.getD q.1 0) := X _ _ (by rw [List.getD_eq_getElem?_getD, List.getElem?_eq_getElem h2]; rfl)
  rw [zv_keep T T' F ht (zinB_ok (by simpa using h1))]
  exact H q hq
/-- bytes alike: the class's unsigned, the reference's signed -/
noncomputable def zByq (h : zH) : Prop := ∀ k, 0 ≤ cu (za h) 1 k ∧ cu (za h) 1 k ≤ 255 ∧ rb (za h) 205 k = cb (za h) 1 k
noncomputable def zby3 (ms : List zMod) : Bool := ms.all (fun m => decide (m.1 ≠ 3) && decide (m.1 ≠ 26))
theorem zNo {ms : List zMod} {t k : Nat} (h : ∀ m ∈ ms, m.1 ≠ t) : ¬ zIn ms t k := by
  rintro ⟨m, hm, m1, -⟩
  exact h m hm m1
theorem zSkl.at {h : zH} (H : zSkl h) (q : Nat × Nat × Nat) (hq : (zskl.elem q) = true) : zv h q.1 q.2.1 = .ref q.2.2 := H q (List.elem_iff.mp hq)
theorem zByq.keep {ms : List zMod} {ty ty' : List Nat} {h h' : zH} (H : zByq h) (S : zSkl h) (S' : zSkl h') (T : zTY z_tt ty h) (T' : zTY z_tt ty' h') (F : zFm ms ty h h') (X : zExt zty1 ty) (hm : zby3 ms = true) : zByq h' := by
  have hb := List.all_eq_true.mp hm
  have e2 : ∀ k, zv h' 2 k = zv h 2 k := fun k => zv_keep T T' F (X 2 3 (by decide +kernel)) (zNo (fun m h9 => by have := hb m h9; rw [Bool.and_eq_true, decide_eq_true_eq] at this; exact this.1))
  have e211 : ∀ k, zv h' 211 k = zv h 211 k := fun k => zv_keep T T' F (X 211 26 (by decide +kernel)) (zNo (fun m h9 => by have := hb m h9; rw [Bool.and_eq_true, decide_eq_true_eq, decide_eq_true_eq] at this; exact this.2))
  have c1 : ∀ k, cu (za h') 1 k = cu (za h) 1 k := by
    intro k
    show (q_i (zv h' (q_r (zv h' 1 0)) k)).toInt = (q_i (zv h (q_r (zv h 1 0)) k)).toInt
    rw [S.at (1, 0, 2) (by decide +kernel), S'.at (1, 0, 2) (by decide +kernel)]
    exact congrArg (fun v => (q_i v).toInt) (e2 k)
  have r1 : ∀ k, rb (za h') 205 k = rb (za h) 205 k := by
    intro k
    show (q_i (zv h' (q_r (zv h' 205 8)) k)).toInt = (q_i (zv h (q_r (zv h 205 8)) k)).toInt
    rw [S.at (205, 8, 211) (by decide +kernel), S'.at (205, 8, 211) (by decide +kernel)]
    exact congrArg (fun v => (q_i v).toInt) (e211 k)
  intro k
  have := H k
  unfold cb at this ⊢
  rw [c1 k, r1 k]
  exact this
end
section
/-! the law's two readers, from what holds at the loop's head -/
theorem zv_of {h : zH} {c k : Nat} {e : zE} {v : Value} (he : h[c]? = some e) (hv : z_rd e k = some v) : zv h c k = v := by rw [zv_at he, hv]; rfl
theorem zL5_of {ty : List Nat} {h : zH} {N : Int} (P : zTp ty h 0 N) (Q : zMp h 205 N) (h0 : 0 ≤ N) (S : zSkl h) : ∃ E : Nat, N = (E : Int) ∧ zv h 1 1 = .int (Int32.ofNat E) ∧ zv h 205 9 = .int (Int32.ofNat E) := by
  obtain ⟨e1, e2, t, x, a1, a2, a3, a4, a5, a6⟩ := P
  obtain ⟨e3, y, b1, b2, b3⟩ := Q
  have ht : t = 1 := by
    have := S.at (0, 0, 1) (by decide +kernel)
    rw [zv_of a1 a2] at this
    cases this
    rfl
  subst ht
  have hx : x = Int32.ofNat N.toNat := Int32.toInt_inj.mp (by rw [a6, Int32.toInt_ofNat_of_lt (by have := zb32 x; omega)]; omega)
  have hy : y = Int32.ofNat N.toNat := Int32.toInt_inj.mp (by rw [b3, Int32.toInt_ofNat_of_lt (by have := zb32 y; omega)]; omega)
  exact ⟨N.toNat, by omega, by rw [zv_of a4 a5, hx], by rw [zv_of b1 b2, hy]⟩
theorem zvl_of {ty : List Nat} {h : zH} {c t n : Nat} (T : zTY z_tt ty h) (ht : ty[c]? = some t) (hk : (z_tt t).1 = 1) (hn : (z_tt t).2.2.1 = n) : zvl h c = n := by
  obtain ⟨f, he⟩ := zcell1 T ht hk hn
  exact zvl_at he
theorem rA_of {ty : List Nat} {h : zH} {E : Nat} (T : zTY z_tt ty h) (X : zExt zty1 ty) (S : zSkl h) (hE : E ≤ 400) (h9 : zv h 205 9 = .int (Int32.ofNat E)) : rA (za h) 205 206 (rb (za h) 205) E := by
  have s1 : zv h 205 1 = .ref 206 := S.at (205, 1, 206) (by decide +kernel)
  have s8 : zv h 205 8 = .ref 211 := S.at (205, 8, 211) (by decide +kernel)
  have q8 : q_r ((za h).1 205 8) = 211 := by show q_r (zv h 205 8) = 211; rw [s8]; rfl
  have t205 : ty[205]? = some 20 := X 205 20 (by decide +kernel)
  obtain ⟨fs, he, hl⟩ := zcell0 (c := 9) (n := 23) T t205 rfl rfl rfl
  obtain ⟨x, hx, x1, x2⟩ := zfd0 (b := 13) (lo := 0) (hi := 6) T t205 he (by omega) (by decide +kernel)
  refine ⟨by rw [q8]; decide, rfl, s1, by decide, by rw [q8]; decide, zvl_of T (X 206 21 (by decide +kernel)) rfl rfl, h9, hE, x.toInt.toNat, by omega, ?_⟩
  show zv h 205 13 = _
  rw [zv_of he hx]
  exact congrArg Value.int (Int32.toInt_inj.mp (by rw [o32 (by omega)]; omega))
theorem cLw_of {ty : List Nat} {h : zH} {E : Nat} (T : zTY z_tt ty h) (X : zExt zty1 ty) (S : zSkl h) (hE : E ≤ 400) (h1 : zv h 1 1 = .int (Int32.ofNat E)) (Y : zByq h) : cLw (za h) 0 1 3 8 47 7 4 5 6 2 (rb (za h) 205) E := by
  have hN : 219 ≤ (za h).2.2 := by
    show 219 ≤ h.length
    rw [← T.1]
    exact (List.getElem?_eq_some_iff.mp (X 218 33 (by decide +kernel))).1
  have p10 : zv h 1 0 = .ref 2 := S.at (1, 0, 2) (by decide +kernel)
  have p30 : zv h 3 0 = .ref 4 := S.at (3, 0, 4) (by decide +kernel)
  have p31 : zv h 3 1 = .ref 5 := S.at (3, 1, 5) (by decide +kernel)
  have p32 : zv h 3 2 = .ref 6 := S.at (3, 2, 6) (by decide +kernel)
  have p33 : zv h 3 3 = .ref 7 := S.at (3, 3, 7) (by decide +kernel)
  have q10 : q_r ((za h).1 1 0) = 2 := by show q_r (zv h 1 0) = 2; rw [p10]; rfl
  have q30 : q_r ((za h).1 3 0) = 4 := by show q_r (zv h 3 0) = 4; rw [p30]; rfl
  have q31 : q_r ((za h).1 3 1) = 5 := by show q_r (zv h 3 1) = 5; rw [p31]; rfl
  have q32 : q_r ((za h).1 3 2) = 6 := by show q_r (zv h 3 2) = 6; rw [p32]; rfl
  have q33 : q_r ((za h).1 3 3) = 7 := by show q_r (zv h 3 3) = 7; rw [p33]; rfl
  refine ⟨S.at (0, 0, 1) (by decide +kernel), S.at (0, 1, 3) (by decide +kernel), S.at (0, 2, 8) (by decide +kernel), S.at (0, 5, 47) (by decide +kernel), p10, ⟨⟨by rw [q10]; decide, h1, hE, fun k => ⟨(Y k).1, (Y k).2.1⟩⟩, ?_, ⟨by decide, q33, by decide, by decide, by rw [q10]; decide, by rw [q10]; decide, zvl_of T (X 7 7 (by decide +kernel)) rfl rfl⟩, q30, q31, q32, ⟨by decide, by decide, by decide, by rw [q10]; decide⟩, ⟨by decide, by decide, by decide, by rw [q10]; decide⟩, ⟨by decide, by decide, by decide, by rw [q10]; decide⟩, by decide, by decide, by decide⟩, ⟨zvl_of T (X 4 5 (by decide +kernel)) rfl rfl, zvl_of T (X 5 5 (by decide +kernel)) rfl rfl, zvl_of T (X 6 6 (by decide +kernel)) rfl rfl⟩, ⟨by omega, by omega, by omega, by omega, by omega, by omega, by omega, by omega, by omega⟩, ⟨by decide, by decide, by decide, by decide, by decide, by decide, by decide, by decide⟩, ⟨by decide, by decide, by decide, by decide, by decide, by decide, by decide⟩, ⟨by decide, by decide, by decide, by decide, by decide, by decide⟩⟩
  funext k
  exact (Y k).2.2.symm
end
section
/-! every specification, closed; printed with wip/gen/gen_inst.py -/
theorem sq_201 {sx : zX} : zEe sx 201 3 qP_201 := sp_201 
theorem sq_202 {sx : zX} : zEe sx 202 1 qP_202 := sp_202 sq_201
theorem sq_203 {sx : zX} : zEe sx 203 1 qP_203 := sp_203 sq_202 sq_201
theorem sq_204 {sx : zX} : zEe sx 204 2 qP_204 := sp_204 
theorem sq_205 {sx : zX} : zEe sx 205 2 qP_205 := sp_205 sq_203 sq_204
theorem sq_206 {sx : zX} : zEe sx 206 2 qP_206 := sp_206 sq_202 sq_201
theorem sq_207 {sx : zX} : zEe sx 207 3 qP_207 := sp_207 sq_202 sq_201
theorem sq_86 {sx : zX} : zEe sx 86 2 qP_86 := sp_86 
theorem sq_97 {sx : zX} : zEe sx 97 1 qP_97 := sp_97 
theorem sq_87 {sx : zX} : zEe sx 87 1 qP_87 := sp_87 sq_97
theorem sq_88 {sx : zX} : zEe sx 88 1 qP_88 := sp_88 
theorem sq_89 {sx : zX} : zEe sx 89 1 qP_89 := sp_89 
theorem sq_90 {sx : zX} : zEe sx 90 1 qP_90 := sp_90 
theorem sq_98 {sx : zX} : zEe sx 98 1 qP_98 := sp_98 
theorem sq_99 {sx : zX} : zEe sx 99 1 qP_99 := sp_99 
theorem sq_91 {sx : zX} : zEe sx 91 2 qP_91 := sp_91 sq_86 sq_98 sq_97
theorem sq_92 {sx : zX} : zEe sx 92 2 qP_92 := sp_92 sq_91 sq_90
theorem sq_93 {sx : zX} : zEe sx 93 2 qP_93 := sp_93 sq_86 sq_97
theorem sq_94 {sx : zX} : zEe sx 94 2 qP_94 := sp_94 sq_93 sq_90
theorem sq_95 {sx : zX} : zEe sx 95 1 qP_95 := sp_95 sq_86 sq_99
theorem sq_96 {sx : zX} : zEe sx 96 3 qP_96 := sp_96 sq_86 sq_99 sq_90 sq_97
theorem sq_221 {sx : zX} : zEe sx 221 3 qP_221 := sp_221 
theorem sq_222 {sx : zX} : zEe sx 222 1 qP_222 := sp_222 sq_203 sq_204 sq_221 sq_207
theorem sq_223 {sx : zX} : zEe sx 223 1 qP_223 := sp_223 sq_222 sq_206 sq_221
theorem sq_224 {sx : zX} : zEe sx 224 1 qP_224 := sp_224 sq_203 sq_204 sq_221
theorem sq_225 {sx : zX} : zEe sx 225 1 qP_225 := fun m => (sp_atom sq_206 sq_205 sq_224 sq_223 sq_221 m).1
theorem sq_226 {sx : zX} : zEe sx 226 1 qP_226 := fun m => (sp_atom sq_206 sq_205 sq_224 sq_223 sq_221 m).2.1
theorem sq_227 {sx : zX} : zEe sx 227 1 qP_227 := fun m => (sp_atom sq_206 sq_205 sq_224 sq_223 sq_221 m).2.2
theorem sq_54 {sx : zX} : zEe sx 54 2 qP_54 := sp_54 
theorem sq_53 {sx : zX} : zEe sx 53 2 qP_53 := sp_53 sq_95 sq_91 sq_90 sq_54 sq_96
theorem sq_52 {sx : zX} : zEe sx 52 2 qP_52 := sp_52 sq_53 sq_93 sq_54
theorem sq_51 {sx : zX} : zEe sx 51 3 qP_51 := fun m => (sc_atom sq_91 sq_93 sq_94 sq_52 sq_54 m).1
theorem sq_50 {sx : zX} : zEe sx 50 3 qP_50 := fun m => (sc_atom sq_91 sq_93 sq_94 sq_52 sq_54 m).2
theorem sq_228 {sx : zX} : zEe sx 228 2 qP_228 := sp_228 sq_204 sq_207 sq_205 sq_227
theorem sq_184 {sx : zX} : zEe sx 184 1 qP_184 := sp_184 
theorem sq_185 {sx : zX} : zEe sx 185 1 qP_185 := sp_185 
theorem sq_186 {sx : zX} : zEe sx 186 2 qP_186 := sp_186 
theorem sq_187 {sx : zX} : zEe sx 187 1 qP_187 := sp_187 
theorem sq_178 {sx : zX} : zEe sx 178 2 qP_178 := sp_178 
theorem sq_189 {sx : zX} : zEe sx 189 2 qP_189 := sp_189 
theorem sq_192 {sx : zX} : zEe sx 192 2 qP_192 := sp_192 
theorem sq_208 {sx : zX} : zEe sx 208 4 qP_208 := sp_208 sq_203 sq_204 sq_207
theorem sq_211 {sx : zX} : zEe sx 211 4 qP_211 := sp_211 sq_207
theorem sq_212 {sx : zX} : zEe sx 212 1 qP_212 := sp_212 sq_207 sq_208 sq_187
theorem sq_213 {sx : zX} : zEe sx 213 3 qP_213 := sp_213 sq_178 sq_186
theorem sq_215 {sx : zX} : zEe sx 215 1 qP_215 := sp_215 sq_184 sq_207
theorem sq_214 {sx : zX} : zEe sx 214 1 qP_214 := sp_214 sq_184 sq_208 sq_205 sq_189 sq_213 sq_212
theorem sq_216 {sx : zX} : zEe sx 216 1 qP_216 := sp_216 sq_215 sq_212 sq_213
theorem sq_217 {sx : zX} : zEe sx 217 1 qP_217 := sp_217 sq_212 sq_213
theorem sq_218 {sx : zX} : zEe sx 218 1 qP_218 := sp_218 sq_215 sq_212 sq_189
theorem sq_219 {sx : zX} : zEe sx 219 1 qP_219 := sp_219 sq_185 sq_215 sq_208 sq_192 sq_205
theorem sq_220 {sx : zX} : zEe sx 220 1 qP_220 := sp_220 sq_204 sq_211 sq_218 sq_219 sq_217 sq_216 sq_214
theorem sq_210 {sx : zX} : zEe sx 210 1 qP_210 := sp_210 
theorem sq_176 {sx : zX} : zEe sx 176 3 qP_176 := sp_176 
theorem sq_229 {sx : zX} : zEe sx 229 3 qP_229 := sp_229 sq_203 sq_228 sq_220
theorem sq_230 {sx : zX} : zEe sx 230 2 qP_230 := sp_230 sq_210 sq_202 sq_229 sq_201
theorem sq_232 {sx : zX} : zEe sx 232 1 qP_232 := sp_232 sq_230 sq_176
theorem sq_49 {sx : zX} : zEe sx 49 2 qP_49 := sp_49 sq_91 sq_92
theorem sq_47 {sx : zX} : zEe sx 47 2 qP_47 := sp_47 sq_87 sq_89 sq_88 sq_90 sq_49 sq_96 sq_91 sq_50 sq_94
theorem sq_314 {sx : zX} : zEe sx 314 2 qP_314 := sp_314 
theorem sq_41 {sx : zX} : zEe sx 41 6 qP_41 := sp_41 sq_314
theorem sq_48 {sx : zX} : zEe sx 48 1 qP_48 := sp_48 sq_314 sq_41
theorem sq_64 {sx : zX} : zEe sx 64 1 qP_64 := sp_64 
theorem sq_121 {sx : zX} : zEe sx 121 1 qP_121 := sp_121 sq_47 sq_48 sq_64
theorem sq_316 {sx : zX} : zEe sx 316 2 qP_316 := sp_316 sq_121
theorem sq_85 {sx : zX} : zEe sx 85 2 qP_85 := sp_85 
theorem sq_118 {sx : zX} : zEe sx 118 6 qP_118 := sp_118 sq_85
theorem sq_199 {sx : zX} : zEe sx 199 6 qP_199 := sp_199 
end
section
/-! feed keeps the bytes alike; both readers of a law end alike -/
theorem zfeed_by {ty ty1 ty2 : List Nat} {h h1 h2 : zH} {v1 v2 v3 v4 v5 c1 c2 : Int32} {E : Nat} (T : zTY z_tt ty h) (T1 : zTY z_tt ty1 h1) (T2 : zTY z_tt ty2 h2) (X : zExt zty1 ty) (X1 : zExt zty1 ty1) (S : zSkl h) (S1 : zSkl h1) (S2 : zSkl h2) (Y : zByq h) (F1 : zFm (zcM zC_ap) ty h h1) (F2 : zFm [(20, 0, 0), (20, 9, 9), (26, 0, 399), (27, 0, 4)] ty1 h1 h2) (w1 : zv h 1 1 = .int (Int32.ofNat E)) (w9 : zv h 205 9 = .int (Int32.ofNat E)) (hE : E ≤ 400) (P1 : p_118 0 v1 v2 v3 v4 v5 (za h) c1 (za h1)) (P2 : p_199 205 v1 v2 v3 v4 v5 (za h1) c2 (za h2)) : zByq h2 := by
  have e2 : ∀ k, zv h2 2 k = zv h1 2 k := fun k => zv_keep T1 T2 F2 (X1 2 3 (by decide +kernel)) (zNo (by decide +kernel))
  have e211 : ∀ k, zv h1 211 k = zv h 211 k := fun k => zv_keep T T1 F1 (X 211 26 (by decide +kernel)) (zNo (by decide +kernel))
  have e205 : zv h1 205 9 = zv h 205 9 := zv_keep T T1 F1 (X 205 20 (by decide +kernel)) (zNo (by decide +kernel))
  have q1 := P1 1 2 E (S.at (0, 0, 1) (by decide +kernel)) (S.at (1, 0, 2) (by decide +kernel)) (by decide) (by decide) (by decide) w1 hE
  have q2 := P2 211 212 E ⟨S1.at (205, 8, 211) (by decide +kernel), S1.at (205, 15, 212) (by decide +kernel), by decide, by decide, by decide, e205.trans w9, hE⟩
  intro k
  have cuE : cu (za h2) 1 k = (q_i (zv h1 2 k)).toInt := by
    show (q_i (zv h2 (q_r (zv h2 1 0)) k)).toInt = _
    rw [S2.at (1, 0, 2) (by decide +kernel)]
    exact congrArg (fun v => (q_i v).toInt) (e2 k)
  have rbE : rb (za h2) 205 k = (q_i (zv h2 211 k)).toInt := by
    show (q_i (zv h2 (q_r (zv h2 205 8)) k)).toInt = _
    rw [S2.at (205, 8, 211) (by decide +kernel)]
    rfl
  have cu0 : cu (za h) 1 k = (q_i (zv h 2 k)).toInt := by
    show (q_i (zv h (q_r (zv h 1 0)) k)).toInt = _
    rw [S.at (1, 0, 2) (by decide +kernel)]
    rfl
  have rb0 : rb (za h) 205 k = (q_i (zv h 211 k)).toInt := by
    show (q_i (zv h (q_r (zv h 205 8)) k)).toInt = _
    rw [S.at (205, 8, 211) (by decide +kernel)]
    rfl
  have hY := Y k
  unfold cb at hY ⊢
  rw [cu0, rb0] at hY
  rw [cuE, rbE]
  by_cases hr : E + 20 ≤ 400
  · obtain ⟨-, g1⟩ := q1.1 hr
    obtain ⟨-, g2, -, -, g3⟩ := q2.1 hr
    have hv1 : ∀ k, zv h1 2 k = (cAp (za h) 1 2 E (cFv v1 v2 v3 v4 v5) 20).1 2 k := fun k => by
      show (za h1).1 2 k = _
      rw [g1]
    by_cases hk : E ≤ k ∧ k < E + 20
    · have a1 : zv h1 2 k = .int (cFv v1 v2 v3 v4 v5 (k - E)) := by
        rw [hv1]
        have := cAp_at (σ := za h) (t := 1) (B := 2) (E := E) (j := 20) (i := k - E) (f := cFv v1 v2 v3 v4 v5) (by omega)
        rw [show E + (k - E) = k by omega] at this
        exact this
      have a2 : zv h2 211 k = .int (rFv v1 v2 v3 v4 v5 (k - E)) := by
        have := g3 (k - E) (by omega)
        rw [show E + (k - E) = k by omega] at this
        exact this
      rw [a1, a2]
      have hn : byN (24 - 8 * ((k - E) % 4)) := by unfold byN; omega
      exact ⟨(cby_le _ hn).1, (cby_le _ hn).2, cby_rby _ hn⟩
    · have a1 : zv h1 2 k = zv h 2 k := (hv1 k).trans (cAp_ne (fun q => hk q.2) (fun q => absurd q.1 (by decide)))
      have a2 : zv h2 211 k = zv h 211 k := (g2.2 211 k (fun q => absurd q.1 (by decide)) (fun q => hk q.2) (by decide)).trans (e211 k)
      rw [a1, a2]
      exact hY
  · have g1 := (q1.2 (by omega)).2
    have g2 := (q2.2 (by omega)).2
    have a1 : zv h1 2 k = zv h 2 k := by
      show (za h1).1 2 k = _
      rw [g1]
      rfl
    have a2 : zv h2 211 k = zv h 211 k := by
      show (za h2).1 211 k = _
      rw [g2]
      exact (q_w_ne (fun e _ => absurd e (by decide))).trans (e211 k)
    rw [a1, a2]
    exact hY
theorem zlaw_eq {ty ty1 ty2 : List Nat} {h h1 h2 : zH} {c1 c2 : Int32} {E : Nat} {ms : List zMod} (T : zTY z_tt ty h) (T1 : zTY z_tt ty1 h1) (T2 : zTY z_tt ty2 h2) (X : zExt zty1 ty) (X1 : zExt zty1 ty1) (S : zSkl h) (S1 : zSkl h1) (Y : zByq h) (F1 : zFm ms ty h h1) (F2 : zFm zLm ty1 h1 h2) (m1 : ms.all (fun m => decide (m.1 ≠ 26) && decide (m.1 ≠ 20)) = true) (w1 : zv h 1 1 = .int (Int32.ofNat E)) (w9 : zv h 205 9 = .int (Int32.ofNat E)) (hE : E ≤ 400) (P1 : p_316 0 218 (za h) c1 (za h1)) (P2 : p_232 205 (za h1) c2 (za h2)) : ∃ t : Int32, zv h2 205 0 = .int t ∧ t.toInt = c1.toInt ∧ (c1.toInt = 0 → zv h2 218 0 = .long c2.toInt64) := by
  have hb := List.all_eq_true.mp m1
  have e205 : ∀ k, zv h1 205 k = zv h 205 k := fun k => zv_keep T T1 F1 (X 205 20 (by decide +kernel)) (zNo (fun m h9 => by have := hb m h9; rw [Bool.and_eq_true, decide_eq_true_eq, decide_eq_true_eq] at this; exact this.2))
  have e211 : ∀ k, zv h1 211 k = zv h 211 k := fun k => zv_keep T T1 F1 (X 211 26 (by decide +kernel)) (zNo (fun m h9 => by have := hb m h9; rw [Bool.and_eq_true, decide_eq_true_eq, decide_eq_true_eq] at this; exact this.1))
  have e218 : zv h2 218 0 = zv h1 218 0 := zv_keep T1 T2 F2 (X1 218 33 (by decide +kernel)) (zNo (by decide +kernel))
  have eb : rb (za h1) 205 = rb (za h) 205 := by
    funext k
    show (q_i (zv h1 (q_r (zv h1 205 8)) k)).toInt = (q_i (zv h (q_r (zv h 205 8)) k)).toInt
    rw [S.at (205, 8, 211) (by decide +kernel), S1.at (205, 8, 211) (by decide +kernel)]
    exact congrArg (fun v => (q_i v).toInt) (e211 k)
  have cl := cLw_of T X S hE w1 Y
  have ra := rA_of T1 X1 S1 hE ((e205 9).trans w9)
  obtain ⟨R, hR, hm⟩ := P1 _ _ _ _ _ _ _ _ _ _ _ cl
  obtain ⟨-, -, R', hR', hl⟩ := P2 _ _ _ ra
  rw [eb] at hR'
  cases GLaw.det hR hR'
  cases R with
  | inl q =>
    obtain ⟨ls, l⟩ := q
    obtain ⟨k1, k2, k3⟩ := hm
    obtain ⟨j1, -, j3, -⟩ := hl
    refine ⟨_, j3, by rw [k1]; rfl, fun _ => ?_⟩
    rw [e218, j1]
    exact k3
  | inr F =>
    have k1 : c1.toInt = 1 := hm
    obtain ⟨-, j3, -⟩ := hl
    exact ⟨_, j3, by rw [k1]; rfl, fun h0 => by omega⟩
end
section
/-! the class's deed, image, back, undo, exact; printed with wip/gen/gen_db.py -/
noncomputable def xSk (σ : zSg) : Prop := σ.1 0 0 = .ref 1 ∧ σ.1 0 2 = .ref 8 ∧ σ.1 0 3 = .ref 21 ∧ σ.1 0 4 = .ref 34 ∧ σ.1 0 5 = .ref 47
theorem xSk.q {σ : zSg} (K : xSk σ) : q_r (σ.1 0 0) = 1 ∧ q_r (σ.1 0 2) = 8 ∧ q_r (σ.1 0 3) = 21 ∧ q_r (σ.1 0 4) = 34 ∧ q_r (σ.1 0 5) = 47 := by
  obtain ⟨h1, h2, h3, h4, h5⟩ := K
  rw [h1, h2, h3, h4, h5]
  exact ⟨rfl, rfl, rfl, rfl, rfl⟩
theorem xSk.of {σ τ : zSg} (K : xSk σ) (h : ∀ k, k ≤ 5 → τ.1 0 k = σ.1 0 k) : xSk τ := by
  obtain ⟨h1, h2, h3, h4, h5⟩ := K
  exact ⟨by rw [h 0 (by omega)]; exact h1, by rw [h 2 (by omega)]; exact h2, by rw [h 3 (by omega)]; exact h3, by rw [h 4 (by omega)]; exact h4, by rw [h 5 (by omega)]; exact h5⟩
theorem cS0.el {σ τ : zSg} {E : Nat} (K : cS0 σ 1 E) (h0 : σ.1 1 0 = .ref 2) (h1 : ∀ k, τ.1 1 k = σ.1 1 k) (h2 : ∀ k, τ.1 2 k = σ.1 2 k) : cS0 τ 1 E ∧ cb τ 1 = cb σ 1 := by
  have gb : cu τ 1 = cu σ 1 := by
    funext i
    unfold cu
    rw [h1 0, h0]
    show (q_i (τ.1 2 i)).toInt = (q_i (σ.1 2 i)).toInt
    rw [h2]
  refine ⟨?_, ?_⟩
  · unfold cS0 at K ⊢
    rw [h1 0, h1 1, gb]
    exact K
  · funext i
    unfold cb
    rw [gb]
/-- ahead of a deed -/
noncomputable def xD (σ : zSg) (b : Nat → Int) (E nf nt tx : Nat) (H D0 : Nat → Int32) : Prop := xSk σ ∧ cS0 σ 1 E ∧ cb σ 1 = b ∧ σ.1 1 0 = .ref 2 ∧ hH σ 8 H ∧ dC nf nt H ∧ H 2 = Int32.ofNat tx ∧ tx ≤ 12 ∧ hH σ 21 D0
noncomputable def xDF (σ σ' : zSg) : Prop := σ'.2 = σ.2 ∧ ∀ c k, ¬ (c = 0 ∧ k = 7) → ¬ (c = 1 ∧ (k = 1 ∨ k = 2 ∨ k = 3)) → ¬ (8 ≤ c ∧ c ≤ 33) → ¬ (c = 47 ∧ k = 2) → σ'.1 c k = σ.1 c k
abbrev xDo (σ σ' : zSg) (nf nt tx : Nat) (H : Nat → Int32) (e : Int32 ⊕ Nat) (R : List dOp ⊕ Nat) : Prop := match R with
  | .inl os => σ'.1 0 7 = .int (Int32.ofInt (-1)) ∧ (tx = 12 → e = .inr 1 ∧ hH σ' 8 H ∧ σ'.1 47 2 = σ.1 47 2) ∧ (tx < 12 → e = .inl (Int32.ofNat (tx + 1)) ∧ hH σ' 8 (aU (dApps os nf nt H) 2 (Int32.ofNat (tx + 1))) ∧ σ'.1 47 2 = .int (Int32.ofInt 0))
  | .inr F => e = .inr 0 ∧ σ'.1 0 7 = .int (Int32.ofNat F) ∧ hH σ' 8 H ∧ σ'.1 47 2 = σ.1 47 2
noncomputable def p_120 (a : Nat) (σ : zSg) (e : Int32 ⊕ Nat) (σ' : zSg) : Prop := a = 0 → ∀ b E nf nt tx H D0, xD σ b E nf nt tx H D0 → xDF σ σ' ∧ (∃ D', hH σ' 21 D') ∧ σ'.1 1 1 = .int (Int32.ofInt 0) ∧ σ'.1 8 5 = σ.1 8 5 ∧ xDo σ σ' nf nt tx H e (dDeed b E nf nt)
theorem sp_120_ett (a0 : Nat) (σ : zSg) (τ1 : zSg) (τ2 : zSg) (r2 : Int32) (τ5 : zSg) (τ6 : zSg) (g1 : p_23 (q_r (σ.1 a0 3)) (q_r (σ.1 a0 2)) σ τ1) (g2 : p_0 (q_r (τ1.1 a0 3)) (q_r (τ1.1 a0 0)) τ1 r2 τ2) (h3 : (q_i ((q_w (q_w τ2 a0 7 (.int r2)) (q_r ((q_w τ2 a0 7 (.int r2)).1 a0 0)) 1 (.int (Int32.ofInt (0)))).1 a0 7)).toInt = (-1 : Int)) (h4 : (q_i ((q_w (q_w τ2 a0 7 (.int r2)) (q_r ((q_w τ2 a0 7 (.int r2)).1 a0 0)) 1 (.int (Int32.ofInt (0)))).1 (q_r ((q_w (q_w τ2 a0 7 (.int r2)) (q_r ((q_w τ2 a0 7 (.int r2)).1 a0 0)) 1 (.int (Int32.ofInt (0)))).1 a0 2)) 6)).toInt < (12 : Int)) (g5 : p_23 (q_r ((q_w (q_w τ2 a0 7 (.int r2)) (q_r ((q_w τ2 a0 7 (.int r2)).1 a0 0)) 1 (.int (Int32.ofInt (0)))).1 a0 2)) (q_r ((q_w (q_w τ2 a0 7 (.int r2)) (q_r ((q_w τ2 a0 7 (.int r2)).1 a0 0)) 1 (.int (Int32.ofInt (0)))).1 a0 3)) (q_w (q_w τ2 a0 7 (.int r2)) (q_r ((q_w τ2 a0 7 (.int r2)).1 a0 0)) 1 (.int (Int32.ofInt (0)))) τ5) (g6 : p_64 (q_r ((q_w τ5 (q_r (τ5.1 a0 2)) 6 (.int ((q_i (τ5.1 (q_r (τ5.1 a0 2)) 6)) + (Int32.ofInt (1))))).1 a0 5)) (q_w τ5 (q_r (τ5.1 a0 2)) 6 (.int ((q_i (τ5.1 (q_r (τ5.1 a0 2)) 6)) + (Int32.ofInt (1))))) τ6) :
    p_120 (a0) σ (.inl (q_i (τ6.1 (q_r (τ6.1 a0 2)) 6))) τ6 := by
  rintro rfl b E nf nt tx H D0 ⟨K, s0, sb, s2, K8, hc, h2, ht, KD⟩
  have q0 := K.q
  rw [q0.2.1, q0.2.2.1] at g1
  have I1 := g1 (by unfold dsj; omega) KD.ks K8.ks K8.ii
  obtain ⟨G1, G5⟩ := I1.hH K8 KD
  have e1 : ∀ c k, ¬ (21 ≤ c ∧ c ≤ 33) → τ1.1 c k = σ.1 c k := fun c k q => I1.fr (by omega)
  have K1 : xSk τ1 := K.of (fun k _ => e1 0 k (by omega))
  have q1 := K1.q
  rw [q1.1, q1.2.2.1] at g2
  obtain ⟨t0, tb⟩ := s0.el s2 (fun k => e1 1 k (by omega)) (fun k => e1 2 k (by omega))
  obtain ⟨f2, R⟩ := g2 rfl rfl b E nf nt H ⟨t0, tb.trans sb, by rw [e1 1 0 (by omega)]; exact s2, G1, hc⟩
  have e2 : ∀ c k, ¬ (c = 1 ∧ (k = 2 ∨ k = 3)) → ¬ (21 ≤ c ∧ c ≤ 33 ∧ ¬ (c = 21 ∧ k = 5)) → τ2.1 c k = τ1.1 c k := f2.2
  have K2 : xSk τ2 := K1.of (fun k _ => e2 0 k (by omega) (by omega))
  have q2 : q_r ((q_w τ2 0 7 (.int r2)).1 0 0) = 1 := by rw [q_w_ne (fun _ q => by omega)]; exact K2.q.1
  have L8 : hH τ2 8 H := (K8.fr I1.1 (fun c j h1 h2 => e1 c j (by omega))).fr f2.1 (fun c j h1 h2 => e2 c j (by omega) (by omega))
  have M8 : hH (q_w (q_w τ2 0 7 (.int r2)) 1 1 (.int (Int32.ofInt 0))) 8 H := (L8.el (by omega)).el (by omega)
  have K3 : xSk (q_w (q_w τ2 0 7 (.int r2)) 1 1 (.int (Int32.ofInt 0))) := K2.of (fun k _ => by rw [q_w_ne (fun q _ => by omega), q_w_ne (fun _ q => by omega)])
  have q3 := K3.q
  have v7 : (q_w (q_w τ2 0 7 (.int r2)) 1 1 (.int (Int32.ofInt 0))).1 0 7 = .int r2 := by rw [q_w_ne (fun q _ => by omega), q_w_at]
  have v5 : (q_w (q_w τ2 0 7 (.int r2)) 1 1 (.int (Int32.ofInt 0))).1 8 5 = σ.1 8 5 := by rw [q_w_ne (fun q _ => by omega), q_w_ne (fun q _ => by omega), e2 8 5 (by omega) (by omega), e1 8 5 (by omega)]
  have v47 : (q_w (q_w τ2 0 7 (.int r2)) 1 1 (.int (Int32.ofInt 0))).1 47 2 = σ.1 47 2 := by rw [q_w_ne (fun q _ => by omega), q_w_ne (fun q _ => by omega), e2 47 2 (by omega) (by omega), e1 47 2 (by omega)]
  have ff : xDF σ (q_w (q_w τ2 0 7 (.int r2)) 1 1 (.int (Int32.ofInt 0))) := ⟨f2.1.trans I1.1, fun c k p1 p2 p3 p4 => by
    rw [q_w_ne (fun e8 e9 => p2 ⟨e8, by omega⟩), q_w_ne (fun e8 e9 => p1 ⟨e8, e9⟩), e2 c k (fun q => p2 ⟨q.1, by omega⟩) (by omega), e1 c k (by omega)]⟩
  simp only [q2, q3.2.1, q3.2.2.1, q3.2.2.2.2, v7, q_ii] at *
  have v7 : (q_w (q_w τ2 0 7 (.int r2)) 1 1 (.int (Int32.ofInt 0))).1 0 7 = .int r2 := by rw [q_w_ne (fun q _ => by omega), q_w_at]
  cases hD : dDeed b E nf nt with
  | inr F =>
    rw [hD] at R
    obtain ⟨eX, hF, -⟩ := R
    rw [eX, o32 (by omega)] at h3
    omega
  | inl os =>
    rw [hD] at R
    obtain ⟨eX, hD', -⟩ := R
    have p2 := (M8.p hp_2).trans h2
    rw [p2, o32 (by omega)] at h4
    have eX' : r2 = Int32.ofInt (-1) := Int32.toInt_inj.mp eX
    have M21 := (hD'.el (c := 0) (k := 7) (v := .int r2) (by omega)).el (c := 1) (k := 1) (v := .int (Int32.ofInt 0)) (by omega)
    have I3 := g5 (by unfold dsj; omega) M8.ks M21.ks M21.ii
    obtain ⟨g1, g2⟩ := I3.hH M21 M8
    have e3 : ∀ c k, ¬ (8 ≤ c ∧ c ≤ 20) → τ5.1 c k = (q_w (q_w τ2 0 7 (.int r2)) 1 1 (.int (Int32.ofInt 0))).1 c k := fun c k q => I3.fr (by omega)
    have K4 : xSk τ5 := K3.of (fun k _ => e3 0 k (by omega))
    have q4 := K4.q
    have i6 : q_i (τ5.1 8 6) = Int32.ofNat tx := by rw [g1.p hp_2, dApps_ne hD hc.2.1 hc.2.2.2.1 (by omega)]; exact h2
    have i7 : Int32.ofNat tx + Int32.ofInt 1 = Int32.ofNat (tx + 1) := o32i (by omega)
    have N8 := g1.ww (v := Int32.ofNat (tx + 1)) hp_2
    have K5 : xSk (q_w τ5 8 6 (.int (Int32.ofNat (tx + 1)))) := K4.of (fun k _ => by rw [q_w_ne (fun q _ => by omega)])
    simp only [q4.2.1, i6, i7, K5.q.2.2.2.2] at g6
    obtain rfl := g6
    have O8 := N8.el (c := 47) (k := 2) (v := .int (Int32.ofInt 0)) (by omega)
    have K6 : xSk (q_w (q_w τ5 8 6 (.int (Int32.ofNat (tx + 1)))) 47 2 (.int (Int32.ofInt 0))) := K5.of (fun k _ => by rw [q_w_ne (fun q _ => by omega)])
    have i8 := (O8.p hp_2).trans aU_at
    simp only [K6.q.2.1, i8]
    refine ⟨⟨I3.1.trans ff.1, fun c k p1 p2 p3 p4 => ?_⟩, ⟨_, ((M21.ho I3 (by unfold dsj; omega)).el (by omega)).el (by omega)⟩, ?_, ?_, ?_, fun h => absurd h (by omega), fun _ => ⟨rfl, O8, q_w_at _ _ _ _⟩⟩
    · rw [q_w_ne (fun e8 e9 => p4 ⟨e8, e9⟩), q_w_ne (fun e8 e9 => by omega), e3 c k (by omega)]; exact ff.2 c k p1 p2 p3 p4
    · rw [q_w_ne (fun q _ => by omega), q_w_ne (fun q _ => by omega), e3 1 1 (by omega), q_w_at]
    · rw [q_w_ne (fun q _ => by omega), q_w_ne (fun _ q => by omega), g2, q_w_ne (fun q _ => by omega), q_w_ne (fun q _ => by omega), e2 21 5 (by omega) (by omega)]; exact G5
    · rw [q_w_ne (fun q _ => by omega), q_w_ne (fun q _ => by omega), e3 0 7 (by omega), v7, eX']
theorem sp_120_etf (a0 : Nat) (σ : zSg) (τ1 : zSg) (τ2 : zSg) (r2 : Int32) (g1 : p_23 (q_r (σ.1 a0 3)) (q_r (σ.1 a0 2)) σ τ1) (g2 : p_0 (q_r (τ1.1 a0 3)) (q_r (τ1.1 a0 0)) τ1 r2 τ2) (h3 : (q_i ((q_w (q_w τ2 a0 7 (.int r2)) (q_r ((q_w τ2 a0 7 (.int r2)).1 a0 0)) 1 (.int (Int32.ofInt (0)))).1 a0 7)).toInt = (-1 : Int)) (h4 : (q_i ((q_w (q_w τ2 a0 7 (.int r2)) (q_r ((q_w τ2 a0 7 (.int r2)).1 a0 0)) 1 (.int (Int32.ofInt (0)))).1 (q_r ((q_w (q_w τ2 a0 7 (.int r2)) (q_r ((q_w τ2 a0 7 (.int r2)).1 a0 0)) 1 (.int (Int32.ofInt (0)))).1 a0 2)) 6)).toInt ≥ (12 : Int)) :
    p_120 (a0) σ (.inr 1) (q_w (q_w τ2 a0 7 (.int r2)) (q_r ((q_w τ2 a0 7 (.int r2)).1 a0 0)) 1 (.int (Int32.ofInt (0)))) := by
  rintro rfl b E nf nt tx H D0 ⟨K, s0, sb, s2, K8, hc, h2, ht, KD⟩
  have q0 := K.q
  rw [q0.2.1, q0.2.2.1] at g1
  have I1 := g1 (by unfold dsj; omega) KD.ks K8.ks K8.ii
  obtain ⟨G1, G5⟩ := I1.hH K8 KD
  have e1 : ∀ c k, ¬ (21 ≤ c ∧ c ≤ 33) → τ1.1 c k = σ.1 c k := fun c k q => I1.fr (by omega)
  have K1 : xSk τ1 := K.of (fun k _ => e1 0 k (by omega))
  have q1 := K1.q
  rw [q1.1, q1.2.2.1] at g2
  obtain ⟨t0, tb⟩ := s0.el s2 (fun k => e1 1 k (by omega)) (fun k => e1 2 k (by omega))
  obtain ⟨f2, R⟩ := g2 rfl rfl b E nf nt H ⟨t0, tb.trans sb, by rw [e1 1 0 (by omega)]; exact s2, G1, hc⟩
  have e2 : ∀ c k, ¬ (c = 1 ∧ (k = 2 ∨ k = 3)) → ¬ (21 ≤ c ∧ c ≤ 33 ∧ ¬ (c = 21 ∧ k = 5)) → τ2.1 c k = τ1.1 c k := f2.2
  have K2 : xSk τ2 := K1.of (fun k _ => e2 0 k (by omega) (by omega))
  have q2 : q_r ((q_w τ2 0 7 (.int r2)).1 0 0) = 1 := by rw [q_w_ne (fun _ q => by omega)]; exact K2.q.1
  have L8 : hH τ2 8 H := (K8.fr I1.1 (fun c j h1 h2 => e1 c j (by omega))).fr f2.1 (fun c j h1 h2 => e2 c j (by omega) (by omega))
  have M8 : hH (q_w (q_w τ2 0 7 (.int r2)) 1 1 (.int (Int32.ofInt 0))) 8 H := (L8.el (by omega)).el (by omega)
  have K3 : xSk (q_w (q_w τ2 0 7 (.int r2)) 1 1 (.int (Int32.ofInt 0))) := K2.of (fun k _ => by rw [q_w_ne (fun q _ => by omega), q_w_ne (fun _ q => by omega)])
  have q3 := K3.q
  have v7 : (q_w (q_w τ2 0 7 (.int r2)) 1 1 (.int (Int32.ofInt 0))).1 0 7 = .int r2 := by rw [q_w_ne (fun q _ => by omega), q_w_at]
  have v5 : (q_w (q_w τ2 0 7 (.int r2)) 1 1 (.int (Int32.ofInt 0))).1 8 5 = σ.1 8 5 := by rw [q_w_ne (fun q _ => by omega), q_w_ne (fun q _ => by omega), e2 8 5 (by omega) (by omega), e1 8 5 (by omega)]
  have v47 : (q_w (q_w τ2 0 7 (.int r2)) 1 1 (.int (Int32.ofInt 0))).1 47 2 = σ.1 47 2 := by rw [q_w_ne (fun q _ => by omega), q_w_ne (fun q _ => by omega), e2 47 2 (by omega) (by omega), e1 47 2 (by omega)]
  have ff : xDF σ (q_w (q_w τ2 0 7 (.int r2)) 1 1 (.int (Int32.ofInt 0))) := ⟨f2.1.trans I1.1, fun c k p1 p2 p3 p4 => by
    rw [q_w_ne (fun e8 e9 => p2 ⟨e8, by omega⟩), q_w_ne (fun e8 e9 => p1 ⟨e8, e9⟩), e2 c k (fun q => p2 ⟨q.1, by omega⟩) (by omega), e1 c k (by omega)]⟩
  simp only [q2, q3.2.1, q3.2.2.1, q3.2.2.2.2, v7, q_ii] at *
  have v7 : (q_w (q_w τ2 0 7 (.int r2)) 1 1 (.int (Int32.ofInt 0))).1 0 7 = .int r2 := by rw [q_w_ne (fun q _ => by omega), q_w_at]
  cases hD : dDeed b E nf nt with
  | inr F =>
    rw [hD] at R
    obtain ⟨eX, hF, -⟩ := R
    rw [eX, o32 (by omega)] at h3
    omega
  | inl os =>
    rw [hD] at R
    obtain ⟨eX, hD', -⟩ := R
    have p2 := (M8.p hp_2).trans h2
    rw [p2, o32 (by omega)] at h4
    have eX' : r2 = Int32.ofInt (-1) := Int32.toInt_inj.mp eX
    exact ⟨ff, ⟨_, (hD'.el (by omega)).el (by omega)⟩, q_w_at _ _ _ _, v5, by rw [v7, eX'], fun _ => ⟨rfl, M8, v47⟩, fun h => absurd h4 (by omega)⟩
theorem sp_120_ef (a0 : Nat) (σ : zSg) (τ1 : zSg) (τ2 : zSg) (r2 : Int32) (g1 : p_23 (q_r (σ.1 a0 3)) (q_r (σ.1 a0 2)) σ τ1) (g2 : p_0 (q_r (τ1.1 a0 3)) (q_r (τ1.1 a0 0)) τ1 r2 τ2) (h3 : (q_i ((q_w (q_w τ2 a0 7 (.int r2)) (q_r ((q_w τ2 a0 7 (.int r2)).1 a0 0)) 1 (.int (Int32.ofInt (0)))).1 a0 7)).toInt ≠ (-1 : Int)) :
    p_120 (a0) σ (.inr 0) (q_w (q_w τ2 a0 7 (.int r2)) (q_r ((q_w τ2 a0 7 (.int r2)).1 a0 0)) 1 (.int (Int32.ofInt (0)))) := by
  rintro rfl b E nf nt tx H D0 ⟨K, s0, sb, s2, K8, hc, h2, ht, KD⟩
  have q0 := K.q
  rw [q0.2.1, q0.2.2.1] at g1
  have I1 := g1 (by unfold dsj; omega) KD.ks K8.ks K8.ii
  obtain ⟨G1, G5⟩ := I1.hH K8 KD
  have e1 : ∀ c k, ¬ (21 ≤ c ∧ c ≤ 33) → τ1.1 c k = σ.1 c k := fun c k q => I1.fr (by omega)
  have K1 : xSk τ1 := K.of (fun k _ => e1 0 k (by omega))
  have q1 := K1.q
  rw [q1.1, q1.2.2.1] at g2
  obtain ⟨t0, tb⟩ := s0.el s2 (fun k => e1 1 k (by omega)) (fun k => e1 2 k (by omega))
  obtain ⟨f2, R⟩ := g2 rfl rfl b E nf nt H ⟨t0, tb.trans sb, by rw [e1 1 0 (by omega)]; exact s2, G1, hc⟩
  have e2 : ∀ c k, ¬ (c = 1 ∧ (k = 2 ∨ k = 3)) → ¬ (21 ≤ c ∧ c ≤ 33 ∧ ¬ (c = 21 ∧ k = 5)) → τ2.1 c k = τ1.1 c k := f2.2
  have K2 : xSk τ2 := K1.of (fun k _ => e2 0 k (by omega) (by omega))
  have q2 : q_r ((q_w τ2 0 7 (.int r2)).1 0 0) = 1 := by rw [q_w_ne (fun _ q => by omega)]; exact K2.q.1
  have L8 : hH τ2 8 H := (K8.fr I1.1 (fun c j h1 h2 => e1 c j (by omega))).fr f2.1 (fun c j h1 h2 => e2 c j (by omega) (by omega))
  have M8 : hH (q_w (q_w τ2 0 7 (.int r2)) 1 1 (.int (Int32.ofInt 0))) 8 H := (L8.el (by omega)).el (by omega)
  have K3 : xSk (q_w (q_w τ2 0 7 (.int r2)) 1 1 (.int (Int32.ofInt 0))) := K2.of (fun k _ => by rw [q_w_ne (fun q _ => by omega), q_w_ne (fun _ q => by omega)])
  have q3 := K3.q
  have v7 : (q_w (q_w τ2 0 7 (.int r2)) 1 1 (.int (Int32.ofInt 0))).1 0 7 = .int r2 := by rw [q_w_ne (fun q _ => by omega), q_w_at]
  have v5 : (q_w (q_w τ2 0 7 (.int r2)) 1 1 (.int (Int32.ofInt 0))).1 8 5 = σ.1 8 5 := by rw [q_w_ne (fun q _ => by omega), q_w_ne (fun q _ => by omega), e2 8 5 (by omega) (by omega), e1 8 5 (by omega)]
  have v47 : (q_w (q_w τ2 0 7 (.int r2)) 1 1 (.int (Int32.ofInt 0))).1 47 2 = σ.1 47 2 := by rw [q_w_ne (fun q _ => by omega), q_w_ne (fun q _ => by omega), e2 47 2 (by omega) (by omega), e1 47 2 (by omega)]
  have ff : xDF σ (q_w (q_w τ2 0 7 (.int r2)) 1 1 (.int (Int32.ofInt 0))) := ⟨f2.1.trans I1.1, fun c k p1 p2 p3 p4 => by
    rw [q_w_ne (fun e8 e9 => p2 ⟨e8, by omega⟩), q_w_ne (fun e8 e9 => p1 ⟨e8, e9⟩), e2 c k (fun q => p2 ⟨q.1, by omega⟩) (by omega), e1 c k (by omega)]⟩
  simp only [q2, q3.2.1, q3.2.2.1, q3.2.2.2.2, v7, q_ii] at *
  have v7 : (q_w (q_w τ2 0 7 (.int r2)) 1 1 (.int (Int32.ofInt 0))).1 0 7 = .int r2 := by rw [q_w_ne (fun q _ => by omega), q_w_at]
  cases hD : dDeed b E nf nt with
  | inl os => rw [hD] at R; exact absurd R.1 h3
  | inr F =>
    rw [hD] at R
    obtain ⟨eX, hF, D', hD'⟩ := R
    exact ⟨ff, ⟨D', (hD'.el (by omega)).el (by omega)⟩, q_w_at _ _ _ _, v5, rfl, by rw [v7, eX], M8, v47⟩
noncomputable def qP_120 : zPp := fun as σ o σ' => match as with
  | [a0] => (∃ r, o = .inl (some (.int r)) ∧ p_120 (q_r a0) σ (.inl r) σ') ∨ (o = .inr 0 ∧ p_120 (q_r a0) σ (.inr 0) σ') ∨ (o = .inr 1 ∧ p_120 (q_r a0) σ (.inr 1) σ')
  | _ => True
set_option maxRecDepth 100000 in
theorem sp_120 {sx : zX} (S23 : zEe sx 23 2 qP_23) (S0 : zEe sx 0 2 qP_0) (S64 : zEe sx 64 1 qP_64) : zEe sx 120 1 qP_120 := by
  refine zfle zJ_120 (sps := [(23, 2, qP_23), (0, 2, qP_0), (64, 1, qP_64)]) (fun q hq => by
    simp only [List.mem_cons, List.not_mem_nil, or_false] at hq
    rcases hq with rfl | rfl | rfl
    · exact S23
    · exact S0
    · exact S64) (fun as σ hl => ?_)
  match as, hl with
  | [a0], _ =>
  refine ⟨[], 400, ?_, ?_⟩
  · exact fun q hq => absurd hq List.not_mem_nil
  · refine fun o1 τ1 g1 => ?_
    obtain ⟨rfl, g1⟩ := g1
    refine fun o2 τ2 g2 => ?_
    obtain ⟨r2, rfl, g2⟩ := g2
    refine And.intro (fun h3 => ?_) (fun h3 => ?_)
    · refine And.intro (fun h4 => ?_) (fun h4 => ?_)
      · refine fun o5 τ5 g5 => ?_
        obtain ⟨rfl, g5⟩ := g5
        refine fun o6 τ6 g6 => ?_
        obtain ⟨rfl, g6⟩ := g6
        exact Or.inl ⟨_, rfl, sp_120_ett (q_r a0) σ τ1 τ2 r2 τ5 τ6 g1 g2 (cm0t h3) (cm2t h4) g5 g6⟩
      · exact Or.inr (Or.inr (⟨rfl, sp_120_etf (q_r a0) σ τ1 τ2 r2 g1 g2 (cm0t h3) (cm2f h4)⟩))
    · exact Or.inr (Or.inl (⟨rfl, sp_120_ef (q_r a0) σ τ1 τ2 r2 g1 g2 (cm0f h3)⟩))
theorem zJ_163 : zJ3 163 z_m163 z_c163 z_h163 := ⟨rfl, rfl, rfl⟩
noncomputable def p_163 (a : Nat) (σ σ' : zSg) : Prop := a = 0 → xSk σ → ∀ A B, hH σ 8 A → hH σ 34 B → (σ'.2 = σ.2 ∧ ∀ c k, ¬ (c = 0 ∧ k = 6) → ¬ (34 ≤ c ∧ c ≤ 46) → σ'.1 c k = σ.1 c k) ∧ hH σ' 34 A ∧ σ'.1 34 5 = σ.1 8 5 ∧ σ'.1 0 6 = .int (Int32.ofInt 1)
theorem sp_163_e (a0 : Nat) (σ : zSg) (τ1 : zSg) (g1 : p_23 (q_r (σ.1 a0 4)) (q_r (σ.1 a0 2)) σ τ1) :
    p_163 (a0) σ (q_w τ1 a0 6 (.int (Int32.ofInt (1)))) := by
  rintro rfl K A B K8 K34
  have q0 := K.q
  rw [q0.2.1, q0.2.2.2.1] at g1
  have I := g1 (by unfold dsj; omega) K34.ks K8.ks K8.ii
  obtain ⟨g1, g2⟩ := I.hH K8 K34
  refine ⟨⟨I.1, fun c k p1 p2 => ?_⟩, g1.el (by omega), ?_, q_w_at _ _ _ _⟩
  · rw [q_w_ne (fun e8 e9 => p1 ⟨e8, e9⟩)]; exact I.fr (by omega)
  · rw [q_w_ne (fun q _ => by omega)]; exact g2
noncomputable def qP_163 : zPp := fun as σ o σ' => match as with
  | [a0] => o = .inl none ∧ p_163 (q_r a0) σ σ'
  | _ => True
set_option maxRecDepth 100000 in
theorem sp_163 {sx : zX} (S23 : zEe sx 23 2 qP_23) : zEe sx 163 1 qP_163 := by
  refine zfle zJ_163 (sps := [(23, 2, qP_23)]) (fun q hq => by
    simp only [List.mem_cons, List.not_mem_nil, or_false] at hq
    rcases hq with rfl
    · exact S23) (fun as σ hl => ?_)
  match as, hl with
  | [a0], _ =>
  refine ⟨[], 400, ?_, ?_⟩
  · exact fun q hq => absurd hq List.not_mem_nil
  · refine fun o1 τ1 g1 => ?_
    obtain ⟨rfl, g1⟩ := g1
    exact ⟨rfl, sp_163_e (q_r a0) σ τ1 g1⟩
theorem zJ_164 : zJ3 164 z_m164 z_c164 z_h164 := ⟨rfl, rfl, rfl⟩
noncomputable def p_164 (a : Nat) (σ : zSg) (r : Int32) (σ' : zSg) : Prop := a = 0 → xSk σ → ∀ A B, hH σ 8 A → hH σ 34 B → ((q_i (σ.1 0 6)).toInt = 0 → r = Int32.ofInt 0 ∧ σ' = σ) ∧ ((q_i (σ.1 0 6)).toInt ≠ 0 → r = Int32.ofInt 1 ∧ (σ'.2 = σ.2 ∧ ∀ c k, ¬ (c = 47 ∧ k = 2) → ¬ (8 ≤ c ∧ c ≤ 20) → σ'.1 c k = σ.1 c k) ∧ hH σ' 8 B ∧ σ'.1 8 5 = σ.1 34 5 ∧ σ'.1 47 2 = .int (Int32.ofInt 0))
theorem sp_164_et (a0 : Nat) (σ : zSg) (τ2 : zSg) (τ3 : zSg) (h1 : (q_i (σ.1 a0 6)).toInt ≠ (0 : Int)) (g2 : p_23 (q_r (σ.1 a0 2)) (q_r (σ.1 a0 4)) σ τ2) (g3 : p_64 (q_r (τ2.1 a0 5)) τ2 τ3) :
    p_164 (a0) σ (Int32.ofInt (1)) τ3 := by
  rintro rfl K A B K8 K34
  refine ⟨fun h => absurd h h1, fun _ => ?_⟩
  have q0 := K.q
  rw [q0.2.1, q0.2.2.2.1] at g2
  have I := g2 (by unfold dsj; omega) K8.ks K34.ks K34.ii
  obtain ⟨g1, g2⟩ := I.hH K34 K8
  have K1 : xSk τ2 := K.of (fun k _ => I.fr (by omega))
  rw [K1.q.2.2.2.2] at g3
  obtain rfl := g3
  refine ⟨rfl, ⟨I.1, fun c k p1 p2 => ?_⟩, g1.el (by omega), ?_, q_w_at _ _ _ _⟩
  · rw [q_w_ne (fun e8 e9 => p1 ⟨e8, e9⟩)]; exact I.fr (by omega)
  · rw [q_w_ne (fun q _ => by omega)]; exact g2
theorem sp_164_ef (a0 : Nat) (σ : zSg) (h1 : (q_i (σ.1 a0 6)).toInt = (0 : Int)) :
    p_164 (a0) σ (Int32.ofInt (0)) σ := by
  rintro rfl K A B K8 K34
  exact ⟨fun _ => ⟨rfl, rfl⟩, fun h => absurd h1 h⟩
noncomputable def qP_164 : zPp := fun as σ o σ' => match as with
  | [a0] => ∃ r, o = .inl (some (.int r)) ∧ p_164 (q_r a0) σ r σ'
  | _ => True
set_option maxRecDepth 100000 in
theorem sp_164 {sx : zX} (S23 : zEe sx 23 2 qP_23) (S64 : zEe sx 64 1 qP_64) : zEe sx 164 1 qP_164 := by
  refine zfle zJ_164 (sps := [(23, 2, qP_23), (64, 1, qP_64)]) (fun q hq => by
    simp only [List.mem_cons, List.not_mem_nil, or_false] at hq
    rcases hq with rfl | rfl
    · exact S23
    · exact S64) (fun as σ hl => ?_)
  match as, hl with
  | [a0], _ =>
  refine ⟨[], 400, ?_, ?_⟩
  · exact fun q hq => absurd hq List.not_mem_nil
  · refine And.intro (fun h1 => ?_) (fun h1 => ?_)
    · refine fun o2 τ2 g2 => ?_
      obtain ⟨rfl, g2⟩ := g2
      refine fun o3 τ3 g3 => ?_
      obtain ⟨rfl, g3⟩ := g3
      exact ⟨_, rfl, sp_164_et (q_r a0) σ τ2 τ3 (cm1t h1) g2 g3⟩
    · exact ⟨_, rfl, sp_164_ef (q_r a0) σ (cm1f h1)⟩
theorem zJ_162 : zJ3 162 z_m162 z_c162 z_h162 := ⟨rfl, rfl, rfl⟩
noncomputable def p_162 (a : Nat) (σ : zSg) (r : Int32) (σ' : zSg) : Prop := a = 0 → xSk σ → p_63 47 8 σ r σ'
theorem sp_162_e (a0 : Nat) (σ : zSg) (τ1 : zSg) (r1 : Int32) (g1 : p_63 (q_r (σ.1 a0 5)) (q_r (σ.1 a0 2)) σ r1 τ1) :
    p_162 (a0) σ r1 τ1 := by
  rintro rfl K
  have q0 := K.q
  rw [q0.2.1, q0.2.2.2.2] at g1
  exact g1
noncomputable def qP_162 : zPp := fun as σ o σ' => match as with
  | [a0] => ∃ r, o = .inl (some (.int r)) ∧ p_162 (q_r a0) σ r σ'
  | _ => True
set_option maxRecDepth 100000 in
theorem sp_162 {sx : zX} (S63 : zEe sx 63 2 qP_63) : zEe sx 162 1 qP_162 := by
  refine zfle zJ_162 (sps := [(63, 2, qP_63)]) (fun q hq => by
    simp only [List.mem_cons, List.not_mem_nil, or_false] at hq
    rcases hq with rfl
    · exact S63) (fun as σ hl => ?_)
  match as, hl with
  | [a0], _ =>
  refine ⟨[], 400, ?_, ?_⟩
  · exact fun q hq => absurd hq List.not_mem_nil
  · refine fun o1 τ1 g1 => ?_
    obtain ⟨r1, rfl, g1⟩ := g1
    exact ⟨_, rfl, sp_162_e (q_r a0) σ τ1 r1 g1⟩
theorem zJ_161 : zJ3 161 z_m161 z_c161 z_h161 := ⟨rfl, rfl, rfl⟩
noncomputable def p_161 (a : Nat) (n : Int32) (σ : zSg) (r : Int32) (σ' : zSg) : Prop := a = 0 → xSk σ → r = q_i (σ.1 8 17) ∧ σ' = q_w σ 8 17 (.int n)
theorem sp_161_e (a0 : Nat) (a1 : Int32) (σ : zSg)  :
    p_161 (a0) (a1) σ (q_i (σ.1 (q_r (σ.1 a0 2)) 17)) (q_w σ (q_r (σ.1 a0 2)) 17 (.int a1)) := by
  rintro rfl K
  have q0 := K.q
  rw [q0.2.1]
  exact ⟨rfl, rfl⟩
noncomputable def qP_161 : zPp := fun as σ o σ' => match as with
  | [a0, a1] => ∃ r, o = .inl (some (.int r)) ∧ p_161 (q_r a0) (q_i a1) σ r σ'
  | _ => True
set_option maxRecDepth 100000 in
theorem sp_161 {sx : zX}  : zEe sx 161 2 qP_161 := by
  refine zfle zJ_161 (sps := []) (fun q hq => absurd hq List.not_mem_nil) (fun as σ hl => ?_)
  match as, hl with
  | [a0, a1], _ =>
  refine ⟨[], 400, ?_, ?_⟩
  · exact fun q hq => absurd hq List.not_mem_nil
  · exact ⟨_, rfl, sp_161_e (q_r a0) (q_i a1) σ ⟩
theorem zJ_166 : zJ3 166 z_m166 z_c166 z_h166 := ⟨rfl, rfl, rfl⟩
noncomputable def p_166 (a : Nat) (h : Int32) (σ : zSg) (e : Int32 ⊕ Nat) (σ' : zSg) : Prop := σ' = σ ∧ (e = .inl 0 → 0 ≤ h.toInt ∧ h.toInt < 24) ∧ (e = .inr 2 → ¬ (0 ≤ h.toInt ∧ h.toInt < 24))
theorem sp_166_et (a0 : Nat) (a1 : Int32) (σ : zSg) (h1 : a1.toInt < (0 : Int)) :
    p_166 (a0) (a1) σ (.inr 2) σ := by
  refine ⟨rfl, fun h => ?_, fun h => ?_⟩
  · first
    | (cases h; done)
    | omega
  · first
    | (cases h; done)
    | omega
theorem sp_166_eft (a0 : Nat) (a1 : Int32) (σ : zSg) (h1 : a1.toInt ≥ (0 : Int)) (h2 : a1.toInt < (24 : Int)) :
    p_166 (a0) (a1) σ (.inl 0) σ := by
  refine ⟨rfl, fun h => ?_, fun h => ?_⟩
  · first
    | (cases h; done)
    | omega
  · first
    | (cases h; done)
    | omega
theorem sp_166_eff (a0 : Nat) (a1 : Int32) (σ : zSg) (h1 : a1.toInt ≥ (0 : Int)) (h2 : a1.toInt ≥ (24 : Int)) :
    p_166 (a0) (a1) σ (.inr 2) σ := by
  refine ⟨rfl, fun h => ?_, fun h => ?_⟩
  · first
    | (cases h; done)
    | omega
  · first
    | (cases h; done)
    | omega
noncomputable def qP_166 : zPp := fun as σ o σ' => match as with
  | [a0, a1] => (o = .inl none ∧ p_166 (q_r a0) (q_i a1) σ (.inl 0) σ') ∨ (o = .inr 2 ∧ p_166 (q_r a0) (q_i a1) σ (.inr 2) σ')
  | _ => True
set_option maxRecDepth 100000 in
theorem sp_166 {sx : zX}  : zEe sx 166 2 qP_166 := by
  refine zfle zJ_166 (sps := []) (fun q hq => absurd hq List.not_mem_nil) (fun as σ hl => ?_)
  match as, hl with
  | [a0, a1], _ =>
  refine ⟨[], 400, ?_, ?_⟩
  · exact fun q hq => absurd hq List.not_mem_nil
  · refine And.intro (fun h1 => ?_) (fun h1 => ?_)
    · exact Or.inr (⟨rfl, sp_166_et (q_r a0) (q_i a1) σ (cm2t h1)⟩)
    · refine And.intro (fun h2 => ?_) (fun h2 => ?_)
      · exact Or.inl ⟨rfl, sp_166_eft (q_r a0) (q_i a1) σ (cm2f h1) (cm2t h2)⟩
      · exact Or.inr (⟨rfl, sp_166_eff (q_r a0) (q_i a1) σ (cm2f h1) (cm2f h2)⟩)
theorem zJ_169 : zJ3 169 z_m169 z_c169 z_h169 := ⟨rfl, rfl, rfl⟩
noncomputable def p_169 (a : Nat) (w t : Int32) (σ : zSg) (e : Int32 ⊕ Nat) (σ' : zSg) : Prop := σ' = σ ∧ (e = .inl 0 → 0 ≤ w.toInt ∧ w.toInt ≤ t.toInt) ∧ (e = .inr 3 → ¬ (0 ≤ w.toInt ∧ w.toInt ≤ t.toInt))
theorem sp_169_et (a0 : Nat) (a1 : Int32) (a2 : Int32) (σ : zSg) (h1 : a1.toInt < (0 : Int)) :
    p_169 (a0) (a1) (a2) σ (.inr 3) σ := by
  refine ⟨rfl, fun h => ?_, fun h => ?_⟩
  · first
    | (cases h; done)
    | omega
  · first
    | (cases h; done)
    | omega
theorem sp_169_eft (a0 : Nat) (a1 : Int32) (a2 : Int32) (σ : zSg) (h1 : a1.toInt ≥ (0 : Int)) (h2 : a1.toInt ≤ a2.toInt) :
    p_169 (a0) (a1) (a2) σ (.inl 0) σ := by
  refine ⟨rfl, fun h => ?_, fun h => ?_⟩
  · first
    | (cases h; done)
    | omega
  · first
    | (cases h; done)
    | omega
theorem sp_169_eff (a0 : Nat) (a1 : Int32) (a2 : Int32) (σ : zSg) (h1 : a1.toInt ≥ (0 : Int)) (h2 : a1.toInt > a2.toInt) :
    p_169 (a0) (a1) (a2) σ (.inr 3) σ := by
  refine ⟨rfl, fun h => ?_, fun h => ?_⟩
  · first
    | (cases h; done)
    | omega
  · first
    | (cases h; done)
    | omega
noncomputable def qP_169 : zPp := fun as σ o σ' => match as with
  | [a0, a1, a2] => (o = .inl none ∧ p_169 (q_r a0) (q_i a1) (q_i a2) σ (.inl 0) σ') ∨ (o = .inr 3 ∧ p_169 (q_r a0) (q_i a1) (q_i a2) σ (.inr 3) σ')
  | _ => True
set_option maxRecDepth 100000 in
theorem sp_169 {sx : zX}  : zEe sx 169 3 qP_169 := by
  refine zfle zJ_169 (sps := []) (fun q hq => absurd hq List.not_mem_nil) (fun as σ hl => ?_)
  match as, hl with
  | [a0, a1, a2], _ =>
  refine ⟨[], 400, ?_, ?_⟩
  · exact fun q hq => absurd hq List.not_mem_nil
  · refine And.intro (fun h1 => ?_) (fun h1 => ?_)
    · exact Or.inr (⟨rfl, sp_169_et (q_r a0) (q_i a1) (q_i a2) σ (cm2t h1)⟩)
    · refine And.intro (fun h2 => ?_) (fun h2 => ?_)
      · exact Or.inl ⟨rfl, sp_169_eft (q_r a0) (q_i a1) (q_i a2) σ (cm2f h1) (cm5t h2)⟩
      · exact Or.inr (⟨rfl, sp_169_eff (q_r a0) (q_i a1) (q_i a2) σ (cm2f h1) (cm5f h2)⟩)
theorem zJ_170 : zJ3 170 z_m170 z_c170 z_h170 := ⟨rfl, rfl, rfl⟩
noncomputable def p_170 (a : Nat) (n l t : Int32) (σ : zSg) (e : Int32 ⊕ Nat) (σ' : zSg) : Prop := σ' = σ ∧ (e = .inl 0 → l.toInt ≤ n.toInt ∧ n.toInt ≤ t.toInt) ∧ (e = .inr 0 → ¬ (l.toInt ≤ n.toInt ∧ n.toInt ≤ t.toInt))
theorem sp_170_et (a0 : Nat) (a1 : Int32) (a2 : Int32) (a3 : Int32) (σ : zSg) (h1 : a1.toInt < a2.toInt) :
    p_170 (a0) (a1) (a2) (a3) σ (.inr 0) σ := by
  refine ⟨rfl, fun h => ?_, fun h => ?_⟩
  · first
    | (cases h; done)
    | omega
  · first
    | (cases h; done)
    | omega
theorem sp_170_eft (a0 : Nat) (a1 : Int32) (a2 : Int32) (a3 : Int32) (σ : zSg) (h1 : a1.toInt ≥ a2.toInt) (h2 : a1.toInt ≤ a3.toInt) :
    p_170 (a0) (a1) (a2) (a3) σ (.inl 0) σ := by
  refine ⟨rfl, fun h => ?_, fun h => ?_⟩
  · first
    | (cases h; done)
    | omega
  · first
    | (cases h; done)
    | omega
theorem sp_170_eff (a0 : Nat) (a1 : Int32) (a2 : Int32) (a3 : Int32) (σ : zSg) (h1 : a1.toInt ≥ a2.toInt) (h2 : a1.toInt > a3.toInt) :
    p_170 (a0) (a1) (a2) (a3) σ (.inr 0) σ := by
  refine ⟨rfl, fun h => ?_, fun h => ?_⟩
  · first
    | (cases h; done)
    | omega
  · first
    | (cases h; done)
    | omega
noncomputable def qP_170 : zPp := fun as σ o σ' => match as with
  | [a0, a1, a2, a3] => (o = .inl none ∧ p_170 (q_r a0) (q_i a1) (q_i a2) (q_i a3) σ (.inl 0) σ') ∨ (o = .inr 0 ∧ p_170 (q_r a0) (q_i a1) (q_i a2) (q_i a3) σ (.inr 0) σ')
  | _ => True
set_option maxRecDepth 100000 in
theorem sp_170 {sx : zX}  : zEe sx 170 4 qP_170 := by
  refine zfle zJ_170 (sps := []) (fun q hq => absurd hq List.not_mem_nil) (fun as σ hl => ?_)
  match as, hl with
  | [a0, a1, a2, a3], _ =>
  refine ⟨[], 400, ?_, ?_⟩
  · exact fun q hq => absurd hq List.not_mem_nil
  · refine And.intro (fun h1 => ?_) (fun h1 => ?_)
    · exact Or.inr (⟨rfl, sp_170_et (q_r a0) (q_i a1) (q_i a2) (q_i a3) σ (cm2t h1)⟩)
    · refine And.intro (fun h2 => ?_) (fun h2 => ?_)
      · exact Or.inl ⟨rfl, sp_170_eft (q_r a0) (q_i a1) (q_i a2) (q_i a3) σ (cm2f h1) (cm5t h2)⟩
      · exact Or.inr (⟨rfl, sp_170_eff (q_r a0) (q_i a1) (q_i a2) (q_i a3) σ (cm2f h1) (cm5f h2)⟩)
theorem zJ_171 : zJ3 171 z_m171 z_c171 z_h171 := ⟨rfl, rfl, rfl⟩
noncomputable def p_171 (a : Nat) (x y : Int32) (σ : zSg) (e : Int32 ⊕ Nat) (σ' : zSg) : Prop := σ' = σ ∧ (e = .inl 0 → x.toInt ≠ y.toInt) ∧ (e = .inr 0 → x.toInt = y.toInt)
theorem sp_171_et (a0 : Nat) (a1 : Int32) (a2 : Int32) (σ : zSg) (h1 : a1.toInt ≠ a2.toInt) :
    p_171 (a0) (a1) (a2) σ (.inl 0) σ := by
  refine ⟨rfl, fun h => ?_, fun h => ?_⟩
  · first
    | (cases h; done)
    | omega
  · first
    | (cases h; done)
    | omega
theorem sp_171_ef (a0 : Nat) (a1 : Int32) (a2 : Int32) (σ : zSg) (h1 : a1.toInt = a2.toInt) :
    p_171 (a0) (a1) (a2) σ (.inr 0) σ := by
  refine ⟨rfl, fun h => ?_, fun h => ?_⟩
  · first
    | (cases h; done)
    | omega
  · first
    | (cases h; done)
    | omega
noncomputable def qP_171 : zPp := fun as σ o σ' => match as with
  | [a0, a1, a2] => (o = .inl none ∧ p_171 (q_r a0) (q_i a1) (q_i a2) σ (.inl 0) σ') ∨ (o = .inr 0 ∧ p_171 (q_r a0) (q_i a1) (q_i a2) σ (.inr 0) σ')
  | _ => True
set_option maxRecDepth 100000 in
theorem sp_171 {sx : zX}  : zEe sx 171 3 qP_171 := by
  refine zfle zJ_171 (sps := []) (fun q hq => absurd hq List.not_mem_nil) (fun as σ hl => ?_)
  match as, hl with
  | [a0, a1, a2], _ =>
  refine ⟨[], 400, ?_, ?_⟩
  · exact fun q hq => absurd hq List.not_mem_nil
  · refine And.intro (fun h1 => ?_) (fun h1 => ?_)
    · exact Or.inl ⟨rfl, sp_171_et (q_r a0) (q_i a1) (q_i a2) σ (cm1t h1)⟩
    · exact Or.inr (⟨rfl, sp_171_ef (q_r a0) (q_i a1) (q_i a2) σ (cm1f h1)⟩)
theorem zJ_172 : zJ3 172 z_m172 z_c172 z_h172 := ⟨rfl, rfl, rfl⟩
noncomputable def p_172 (a : Nat) (x : Int32) (σ : zSg) (e : Int32 ⊕ Nat) (σ' : zSg) : Prop := σ' = σ ∧ (e = .inl 0 → x.toInt ≠ 0) ∧ (e = .inr 4 → x.toInt = 0)
theorem sp_172_et (a0 : Nat) (a1 : Int32) (σ : zSg) (h1 : a1.toInt ≠ (0 : Int)) :
    p_172 (a0) (a1) σ (.inl 0) σ := by
  refine ⟨rfl, fun h => ?_, fun h => ?_⟩
  · first
    | (cases h; done)
    | omega
  · first
    | (cases h; done)
    | omega
theorem sp_172_ef (a0 : Nat) (a1 : Int32) (σ : zSg) (h1 : a1.toInt = (0 : Int)) :
    p_172 (a0) (a1) σ (.inr 4) σ := by
  refine ⟨rfl, fun h => ?_, fun h => ?_⟩
  · first
    | (cases h; done)
    | omega
  · first
    | (cases h; done)
    | omega
noncomputable def qP_172 : zPp := fun as σ o σ' => match as with
  | [a0, a1] => (o = .inl none ∧ p_172 (q_r a0) (q_i a1) σ (.inl 0) σ') ∨ (o = .inr 4 ∧ p_172 (q_r a0) (q_i a1) σ (.inr 4) σ')
  | _ => True
set_option maxRecDepth 100000 in
theorem sp_172 {sx : zX}  : zEe sx 172 2 qP_172 := by
  refine zfle zJ_172 (sps := []) (fun q hq => absurd hq List.not_mem_nil) (fun as σ hl => ?_)
  match as, hl with
  | [a0, a1], _ =>
  refine ⟨[], 400, ?_, ?_⟩
  · exact fun q hq => absurd hq List.not_mem_nil
  · refine And.intro (fun h1 => ?_) (fun h1 => ?_)
    · exact Or.inl ⟨rfl, sp_172_et (q_r a0) (q_i a1) σ (cm1t h1)⟩
    · exact Or.inr (⟨rfl, sp_172_ef (q_r a0) (q_i a1) σ (cm1f h1)⟩)
end
section
/-! small methods of both sides, exact; printed with wip/gen/gen_dc.py -/
theorem p_9.of {σ τ : zSg} {b nf F : Nat} {f r : Int32} {H : Nat → Int32} (G : p_9 (b + 2) f σ r τ) (K : hH σ b H) (h0 : H 0 = Int32.ofNat nf) (h6 : nf ≤ 6) : τ = σ ∧ (r.toInt ≠ 0 ↔ 0 ≤ f.toInt ∧ f.toInt < (nf : Int)) := by
  obtain ⟨g1, g2⟩ := G
  have p0 : q_i (σ.1 (b + 2) 4) = H 0 := K.p hp_0
  rw [p0, h0, o32 (by omega)] at g2
  exact ⟨g1, g2.trans ⟨fun h => ⟨h.1, h.2.1⟩, fun h => ⟨h.1, h.2, by omega⟩⟩⟩
theorem zJ_14 : zJ3 14 z_m14 z_c14 z_h14 := ⟨rfl, rfl, rfl⟩
noncomputable def p_14 (a : Nat) (f h : Int32) (σ : zSg) (r : Int32) (σ' : zSg) : Prop := σ' = σ ∧ ∀ b H nf, a = b + 2 → hH σ b H → H 0 = Int32.ofNat nf → nf ≤ 6 → ∀ F, f = Int32.ofNat F → F < nf → r = if btb (H (43 + 4 * F)) h = true then Int32.ofInt 1 else Int32.ofInt 0
theorem sp_14_et (a0 : Nat) (a1 : Int32) (a2 : Int32) (σ : zSg) (τ1 : zSg) (r1 : Int32) (g1 : p_9 a0 a1 σ r1 τ1) (h2 : r1.toInt = (0 : Int)) :
    p_14 (a0) (a1) (a2) σ (Int32.ofInt (0)) τ1 := by
  obtain ⟨rfl, g⟩ := g1
  refine ⟨rfl, ?_⟩
  rintro b H nf rfl K h0 h6 F rfl hF
  have p0 : q_i (τ1.1 (b + 2) 4) = H 0 := K.p hp_0
  rw [p0, h0, o32 (by omega), o32 (by omega)] at g
  have nF : (Int32.ofNat F).toNatClampNeg = F := o32n (by omega)
  exact absurd h2 (g.mpr (by omega))
theorem sp_14_eft (a0 : Nat) (a1 : Int32) (a2 : Int32) (σ : zSg) (τ1 : zSg) (r1 : Int32) (g1 : p_9 a0 a1 σ r1 τ1) (h2 : r1.toInt ≠ (0 : Int)) (h3 : 0 ≤ a1.toInt ∧ a1.toInt < (τ1.2.1 (q_r (τ1.1 a0 3)) : Int)) (h4 : (((q_i (τ1.1 (q_r (τ1.1 a0 3)) a1.toNatClampNeg)) >>> (a2 &&& 31)) &&& (Int32.ofInt (1))).toInt ≠ (1 : Int)) :
    p_14 (a0) (a1) (a2) σ (Int32.ofInt (0)) τ1 := by
  obtain ⟨rfl, g⟩ := g1
  refine ⟨rfl, ?_⟩
  rintro b H nf rfl K h0 h6 F rfl hF
  have p0 : q_i (τ1.1 (b + 2) 4) = H 0 := K.p hp_0
  rw [p0, h0, o32 (by omega), o32 (by omega)] at g
  have nF : (Int32.ofNat F).toNatClampNeg = F := o32n (by omega)
  have d3 := K.k hk_f3
  have p3 := K.p (hp_f3 (f := F) (by omega))
  simp only [d3, nF, p3] at h4
  exact (if_neg (fun q => h4 (of_decide_eq_true q))).symm
theorem sp_14_eff (a0 : Nat) (a1 : Int32) (a2 : Int32) (σ : zSg) (τ1 : zSg) (r1 : Int32) (g1 : p_9 a0 a1 σ r1 τ1) (h2 : r1.toInt ≠ (0 : Int)) (h3 : 0 ≤ a1.toInt ∧ a1.toInt < (τ1.2.1 (q_r (τ1.1 a0 3)) : Int)) (h4 : (((q_i (τ1.1 (q_r (τ1.1 a0 3)) a1.toNatClampNeg)) >>> (a2 &&& 31)) &&& (Int32.ofInt (1))).toInt = (1 : Int)) :
    p_14 (a0) (a1) (a2) σ (Int32.ofInt (1)) τ1 := by
  obtain ⟨rfl, g⟩ := g1
  refine ⟨rfl, ?_⟩
  rintro b H nf rfl K h0 h6 F rfl hF
  have p0 : q_i (τ1.1 (b + 2) 4) = H 0 := K.p hp_0
  rw [p0, h0, o32 (by omega), o32 (by omega)] at g
  have nF : (Int32.ofNat F).toNatClampNeg = F := o32n (by omega)
  have d3 := K.k hk_f3
  have p3 := K.p (hp_f3 (f := F) (by omega))
  simp only [d3, nF, p3] at h4
  exact (if_pos (decide_eq_true h4)).symm
noncomputable def qP_14 : zPp := fun as σ o σ' => match as with
  | [a0, a1, a2] => ∃ r, o = .inl (some (.int r)) ∧ p_14 (q_r a0) (q_i a1) (q_i a2) σ r σ'
  | _ => True
set_option maxRecDepth 100000 in
theorem sp_14 {sx : zX} (S9 : zEe sx 9 2 qP_9) : zEe sx 14 3 qP_14 := by
  refine zfle zJ_14 (sps := [(9, 2, qP_9)]) (fun q hq => by
    simp only [List.mem_cons, List.not_mem_nil, or_false] at hq
    rcases hq with rfl
    · exact S9) (fun as σ hl => ?_)
  match as, hl with
  | [a0, a1, a2], _ =>
  refine ⟨[], 400, ?_, ?_⟩
  · exact fun q hq => absurd hq List.not_mem_nil
  · refine fun o1 τ1 g1 => ?_
    obtain ⟨r1, rfl, g1⟩ := g1
    refine And.intro (fun h2 => ?_) (fun h2 => ?_)
    · exact ⟨_, rfl, sp_14_et (q_r a0) (q_i a1) (q_i a2) σ τ1 r1 g1 (cm0t h2)⟩
    · refine fun h3 => ?_
      refine And.intro (fun h4 => ?_) (fun h4 => ?_)
      · exact ⟨_, rfl, sp_14_eft (q_r a0) (q_i a1) (q_i a2) σ τ1 r1 g1 (cm0f h2) (q_inp h3) (cm1t h4)⟩
      · exact ⟨_, rfl, sp_14_eff (q_r a0) (q_i a1) (q_i a2) σ τ1 r1 g1 (cm0f h2) (q_inp h3) (cm1f h4)⟩
theorem zJ_16 : zJ3 16 z_m16 z_c16 z_h16 := ⟨rfl, rfl, rfl⟩
noncomputable def p_16 (a : Nat) (f : Int32) (σ : zSg) (r : Int32) (σ' : zSg) : Prop := σ' = σ ∧ ∀ b H nf, a = b + 2 → hH σ b H → H 0 = Int32.ofNat nf → nf ≤ 6 → ∀ F, f = Int32.ofNat F → F < nf → r = H (40 + 4 * F)
theorem sp_16_et (a0 : Nat) (a1 : Int32) (σ : zSg) (τ1 : zSg) (r1 : Int32) (g1 : p_9 a0 a1 σ r1 τ1) (h2 : r1.toInt = (0 : Int)) :
    p_16 (a0) (a1) σ (Int32.ofInt (0)) τ1 := by
  obtain ⟨rfl, g⟩ := g1
  refine ⟨rfl, ?_⟩
  rintro b H nf rfl K h0 h6 F rfl hF
  have p0 : q_i (τ1.1 (b + 2) 4) = H 0 := K.p hp_0
  rw [p0, h0, o32 (by omega), o32 (by omega)] at g
  have nF : (Int32.ofNat F).toNatClampNeg = F := o32n (by omega)
  exact absurd h2 (g.mpr (by omega))
theorem sp_16_ef (a0 : Nat) (a1 : Int32) (σ : zSg) (τ1 : zSg) (r1 : Int32) (g1 : p_9 a0 a1 σ r1 τ1) (h2 : r1.toInt ≠ (0 : Int)) (h3 : 0 ≤ a1.toInt ∧ a1.toInt < (τ1.2.1 (q_r (τ1.1 a0 0)) : Int)) :
    p_16 (a0) (a1) σ (q_i (τ1.1 (q_r (τ1.1 a0 0)) a1.toNatClampNeg)) τ1 := by
  obtain ⟨rfl, g⟩ := g1
  refine ⟨rfl, ?_⟩
  rintro b H nf rfl K h0 h6 F rfl hF
  have p0 : q_i (τ1.1 (b + 2) 4) = H 0 := K.p hp_0
  rw [p0, h0, o32 (by omega), o32 (by omega)] at g
  have nF : (Int32.ofNat F).toNatClampNeg = F := o32n (by omega)
  have d3 := K.k hk_f0
  have p3 := K.p (hp_f0 (f := F) (by omega))
  simp only [d3, nF, p3]
noncomputable def qP_16 : zPp := fun as σ o σ' => match as with
  | [a0, a1] => ∃ r, o = .inl (some (.int r)) ∧ p_16 (q_r a0) (q_i a1) σ r σ'
  | _ => True
set_option maxRecDepth 100000 in
theorem sp_16 {sx : zX} (S9 : zEe sx 9 2 qP_9) : zEe sx 16 2 qP_16 := by
  refine zfle zJ_16 (sps := [(9, 2, qP_9)]) (fun q hq => by
    simp only [List.mem_cons, List.not_mem_nil, or_false] at hq
    rcases hq with rfl
    · exact S9) (fun as σ hl => ?_)
  match as, hl with
  | [a0, a1], _ =>
  refine ⟨[], 400, ?_, ?_⟩
  · exact fun q hq => absurd hq List.not_mem_nil
  · refine fun o1 τ1 g1 => ?_
    obtain ⟨r1, rfl, g1⟩ := g1
    refine And.intro (fun h2 => ?_) (fun h2 => ?_)
    · exact ⟨_, rfl, sp_16_et (q_r a0) (q_i a1) σ τ1 r1 g1 (cm0t h2)⟩
    · refine fun h3 => ?_
      exact ⟨_, rfl, sp_16_ef (q_r a0) (q_i a1) σ τ1 r1 g1 (cm0f h2) (q_inp h3)⟩
noncomputable def aPy (p s : Int32) : Int32 := if Int32.ofInt 0 < p - s then p - s else Int32.ofInt 0
noncomputable def aEn (p s : Int32) : Int32 := if p + s < Int32.ofInt 9999 then p + s else Int32.ofInt 9999
theorem zJ_17 : zJ3 17 z_m17 z_c17 z_h17 := ⟨rfl, rfl, rfl⟩
noncomputable def p_17 (a : Nat) (f s : Int32) (σ σ' : zSg) : Prop := ∀ b H nf, a = b + 2 → hH σ b H → H 0 = Int32.ofNat nf → nf ≤ 6 → ∀ F, f = Int32.ofNat F → F < nf → hHF b σ σ' ∧ hH σ' b (aU H (40 + 4 * F) (aPy (H (40 + 4 * F)) s))
theorem sp_17_et (a0 : Nat) (a1 : Int32) (a2 : Int32) (σ : zSg) (τ1 : zSg) (r1 : Int32) (g1 : p_9 a0 a1 σ r1 τ1) (h2 : r1.toInt = (0 : Int)) :
    p_17 (a0) (a1) (a2) σ τ1 := by
  obtain ⟨rfl, g⟩ := g1
  rintro b H nf rfl K h0 h6 F rfl hF
  have p0 : q_i (τ1.1 (b + 2) 4) = H 0 := K.p hp_0
  rw [p0, h0, o32 (by omega), o32 (by omega)] at g
  have nF : (Int32.ofNat F).toNatClampNeg = F := o32n (by omega)
  exact absurd h2 (g.mpr (by omega))
theorem sp_17_ef (a0 : Nat) (a1 : Int32) (a2 : Int32) (σ : zSg) (τ1 : zSg) (r1 : Int32) (g1 : p_9 a0 a1 σ r1 τ1) (h2 : r1.toInt ≠ (0 : Int)) (h3 : 0 ≤ a1.toInt ∧ a1.toInt < (τ1.2.1 (q_r (τ1.1 a0 0)) : Int)) (h4 : 0 ≤ a1.toInt ∧ a1.toInt < (τ1.2.1 (q_r (τ1.1 a0 0)) : Int)) :
    p_17 (a0) (a1) (a2) σ (q_w τ1 (q_r (τ1.1 a0 0)) a1.toNatClampNeg (.int (if (Int32.ofInt (0)) < ((q_i (τ1.1 (q_r (τ1.1 a0 0)) a1.toNatClampNeg)) - a2) then ((q_i (τ1.1 (q_r (τ1.1 a0 0)) a1.toNatClampNeg)) - a2) else (Int32.ofInt (0))))) := by
  obtain ⟨rfl, g⟩ := g1
  rintro b H nf rfl K h0 h6 F rfl hF
  have p0 : q_i (τ1.1 (b + 2) 4) = H 0 := K.p hp_0
  rw [p0, h0, o32 (by omega), o32 (by omega)] at g
  have nF : (Int32.ofNat F).toNatClampNeg = F := o32n (by omega)
  have d3 := K.k hk_f0
  have p3 := K.p (hp_f0 (f := F) (by omega))
  simp only [d3, nF, p3]
  exact ⟨hHF.w (hp_f0 (by omega)), K.ww (hp_f0 (by omega))⟩
noncomputable def qP_17 : zPp := fun as σ o σ' => match as with
  | [a0, a1, a2] => o = .inl none ∧ p_17 (q_r a0) (q_i a1) (q_i a2) σ σ'
  | _ => True
set_option maxRecDepth 100000 in
theorem sp_17 {sx : zX} (S9 : zEe sx 9 2 qP_9) : zEe sx 17 3 qP_17 := by
  refine zfle zJ_17 (sps := [(9, 2, qP_9)]) (fun q hq => by
    simp only [List.mem_cons, List.not_mem_nil, or_false] at hq
    rcases hq with rfl
    · exact S9) (fun as σ hl => ?_)
  match as, hl with
  | [a0, a1, a2], _ =>
  refine ⟨[], 400, ?_, ?_⟩
  · exact fun q hq => absurd hq List.not_mem_nil
  · refine fun o1 τ1 g1 => ?_
    obtain ⟨r1, rfl, g1⟩ := g1
    refine And.intro (fun h2 => ?_) (fun h2 => ?_)
    · exact ⟨rfl, sp_17_et (q_r a0) (q_i a1) (q_i a2) σ τ1 r1 g1 (cm0t h2)⟩
    · refine fun h3 => ?_
      refine fun h4 => ?_
      exact ⟨rfl, sp_17_ef (q_r a0) (q_i a1) (q_i a2) σ τ1 r1 g1 (cm0f h2) (q_inp h3) (q_inp h4)⟩
theorem zJ_18 : zJ3 18 z_m18 z_c18 z_h18 := ⟨rfl, rfl, rfl⟩
noncomputable def p_18 (a : Nat) (f s : Int32) (σ σ' : zSg) : Prop := ∀ b H nf, a = b + 2 → hH σ b H → H 0 = Int32.ofNat nf → nf ≤ 6 → ∀ F, f = Int32.ofNat F → F < nf → hHF b σ σ' ∧ hH σ' b (aU H (40 + 4 * F) (aEn (H (40 + 4 * F)) s))
theorem sp_18_et (a0 : Nat) (a1 : Int32) (a2 : Int32) (σ : zSg) (τ1 : zSg) (r1 : Int32) (g1 : p_9 a0 a1 σ r1 τ1) (h2 : r1.toInt = (0 : Int)) :
    p_18 (a0) (a1) (a2) σ τ1 := by
  obtain ⟨rfl, g⟩ := g1
  rintro b H nf rfl K h0 h6 F rfl hF
  have p0 : q_i (τ1.1 (b + 2) 4) = H 0 := K.p hp_0
  rw [p0, h0, o32 (by omega), o32 (by omega)] at g
  have nF : (Int32.ofNat F).toNatClampNeg = F := o32n (by omega)
  exact absurd h2 (g.mpr (by omega))
theorem sp_18_ef (a0 : Nat) (a1 : Int32) (a2 : Int32) (σ : zSg) (τ1 : zSg) (r1 : Int32) (g1 : p_9 a0 a1 σ r1 τ1) (h2 : r1.toInt ≠ (0 : Int)) (h3 : 0 ≤ a1.toInt ∧ a1.toInt < (τ1.2.1 (q_r (τ1.1 a0 0)) : Int)) (h4 : 0 ≤ a1.toInt ∧ a1.toInt < (τ1.2.1 (q_r (τ1.1 a0 0)) : Int)) :
    p_18 (a0) (a1) (a2) σ (q_w τ1 (q_r (τ1.1 a0 0)) a1.toNatClampNeg (.int (if ((q_i (τ1.1 (q_r (τ1.1 a0 0)) a1.toNatClampNeg)) + a2) < (Int32.ofInt (9999)) then ((q_i (τ1.1 (q_r (τ1.1 a0 0)) a1.toNatClampNeg)) + a2) else (Int32.ofInt (9999))))) := by
  obtain ⟨rfl, g⟩ := g1
  rintro b H nf rfl K h0 h6 F rfl hF
  have p0 : q_i (τ1.1 (b + 2) 4) = H 0 := K.p hp_0
  rw [p0, h0, o32 (by omega), o32 (by omega)] at g
  have nF : (Int32.ofNat F).toNatClampNeg = F := o32n (by omega)
  have d3 := K.k hk_f0
  have p3 := K.p (hp_f0 (f := F) (by omega))
  simp only [d3, nF, p3]
  exact ⟨hHF.w (hp_f0 (by omega)), K.ww (hp_f0 (by omega))⟩
noncomputable def qP_18 : zPp := fun as σ o σ' => match as with
  | [a0, a1, a2] => o = .inl none ∧ p_18 (q_r a0) (q_i a1) (q_i a2) σ σ'
  | _ => True
set_option maxRecDepth 100000 in
theorem sp_18 {sx : zX} (S9 : zEe sx 9 2 qP_9) : zEe sx 18 3 qP_18 := by
  refine zfle zJ_18 (sps := [(9, 2, qP_9)]) (fun q hq => by
    simp only [List.mem_cons, List.not_mem_nil, or_false] at hq
    rcases hq with rfl
    · exact S9) (fun as σ hl => ?_)
  match as, hl with
  | [a0, a1, a2], _ =>
  refine ⟨[], 400, ?_, ?_⟩
  · exact fun q hq => absurd hq List.not_mem_nil
  · refine fun o1 τ1 g1 => ?_
    obtain ⟨r1, rfl, g1⟩ := g1
    refine And.intro (fun h2 => ?_) (fun h2 => ?_)
    · exact ⟨rfl, sp_18_et (q_r a0) (q_i a1) (q_i a2) σ τ1 r1 g1 (cm0t h2)⟩
    · refine fun h3 => ?_
      refine fun h4 => ?_
      exact ⟨rfl, sp_18_ef (q_r a0) (q_i a1) (q_i a2) σ τ1 r1 g1 (cm0f h2) (q_inp h3) (q_inp h4)⟩
theorem zJ_26 : zJ3 26 z_m26 z_c26 z_h26 := ⟨rfl, rfl, rfl⟩
noncomputable def p_26 (a : Nat) (t : Int32) (σ : zSg) (r : Int32) (σ' : zSg) : Prop := σ' = σ ∧ ∀ H n, hH σ a H → t = Int32.ofNat n → n < 24 → r = H (16 + n)
theorem sp_26_e (a0 : Nat) (a1 : Int32) (σ : zSg) (τ1 : zSg) (r1 : Int32) (g1 : p_312 a1 (Int32.ofInt (24)) σ r1 τ1) (h2 : 0 ≤ r1.toInt ∧ r1.toInt < (τ1.2.1 (q_r (σ.1 a0 0)) : Int)) :
    p_26 (a0) (a1) σ (q_i (τ1.1 (q_r (σ.1 a0 0)) r1.toNatClampNeg)) τ1 := by
  obtain ⟨rfl, g⟩ := g1
  refine ⟨rfl, ?_⟩
  rintro H n K rfl hn
  have e := g rfl 0 n (by omega) hn (by rw [show Int32.ofNat 0 = 0 from rfl, Int32.sub_zero])
  rw [show (n + 24 - 0) % 24 = n by omega] at e
  rw [e, o32n (by omega), K.k hk_0]
  exact K.p (hp_h hn)
noncomputable def qP_26 : zPp := fun as σ o σ' => match as with
  | [a0, a1] => ∃ r, o = .inl (some (.int r)) ∧ p_26 (q_r a0) (q_i a1) σ r σ'
  | _ => True
set_option maxRecDepth 100000 in
theorem sp_26 {sx : zX} (S312 : zEe sx 312 2 qP_312) : zEe sx 26 2 qP_26 := by
  refine zfle zJ_26 (sps := [(312, 2, qP_312)]) (fun q hq => by
    simp only [List.mem_cons, List.not_mem_nil, or_false] at hq
    rcases hq with rfl
    · exact S312) (fun as σ hl => ?_)
  match as, hl with
  | [a0, a1], _ =>
  refine ⟨[], 400, ?_, ?_⟩
  · exact fun q hq => absurd hq List.not_mem_nil
  · refine fun o1 τ1 g1 => ?_
    obtain ⟨r1, rfl, g1⟩ := g1
    refine fun h2 => ?_
    exact ⟨_, rfl, sp_26_e (q_r a0) (q_i a1) σ τ1 r1 g1 (q_inp h2)⟩
theorem zJ_27 : zJ3 27 z_m27 z_c27 z_h27 := ⟨rfl, rfl, rfl⟩
noncomputable def p_27 (a : Nat) (σ : zSg) (r : Int32) (σ' : zSg) : Prop := σ' = σ ∧ ∀ H n, hH σ a H → H 4 = Int32.ofNat n → n < 24 → r = H (16 + n)
theorem sp_27_e (a0 : Nat) (σ : zSg) (τ1 : zSg) (r1 : Int32) (g1 : p_26 a0 (q_i (σ.1 a0 7)) σ r1 τ1) :
    p_27 (a0) σ r1 τ1 := by
  obtain ⟨rfl, g⟩ := g1
  refine ⟨rfl, fun H n K h4 hn => ?_⟩
  exact g H n K ((K.p (hp_s (k := 4) (by omega) (by omega))).trans h4) hn
noncomputable def qP_27 : zPp := fun as σ o σ' => match as with
  | [a0] => ∃ r, o = .inl (some (.int r)) ∧ p_27 (q_r a0) σ r σ'
  | _ => True
set_option maxRecDepth 100000 in
theorem sp_27 {sx : zX} (S26 : zEe sx 26 2 qP_26) : zEe sx 27 1 qP_27 := by
  refine zfle zJ_27 (sps := [(26, 2, qP_26)]) (fun q hq => by
    simp only [List.mem_cons, List.not_mem_nil, or_false] at hq
    rcases hq with rfl
    · exact S26) (fun as σ hl => ?_)
  match as, hl with
  | [a0], _ =>
  refine ⟨[], 400, ?_, ?_⟩
  · exact fun q hq => absurd hq List.not_mem_nil
  · refine fun o1 τ1 g1 => ?_
    obtain ⟨r1, rfl, g1⟩ := g1
    exact ⟨_, rfl, sp_27_e (q_r a0) σ τ1 r1 g1⟩
theorem zJ_102 : zJ3 102 z_m102 z_c102 z_h102 := ⟨rfl, rfl, rfl⟩
noncomputable def p_102 (a : Nat) (t : Int32) (σ : zSg) (r : Int32) (σ' : zSg) : Prop := σ' = σ ∧ (r.toInt ≠ 0 ↔ 0 ≤ t.toInt ∧ t.toInt < (q_i (σ.1 a 3)).toInt ∧ t.toInt < 8)
theorem sp_102_et (a0 : Nat) (a1 : Int32) (σ : zSg) (h1 : a1.toInt < (0 : Int)) :
    p_102 (a0) (a1) σ (Int32.ofInt (0)) σ := by
  exact ⟨rfl, fun h => absurd rfl h, fun h => by omega⟩
theorem sp_102_eft (a0 : Nat) (a1 : Int32) (σ : zSg) (h1 : a1.toInt ≥ (0 : Int)) (h2 : a1.toInt ≥ (q_i (σ.1 a0 3)).toInt) :
    p_102 (a0) (a1) σ (Int32.ofInt (0)) σ := by
  exact ⟨rfl, fun h => absurd rfl h, fun h => by omega⟩
theorem sp_102_efft (a0 : Nat) (a1 : Int32) (σ : zSg) (h1 : a1.toInt ≥ (0 : Int)) (h2 : a1.toInt < (q_i (σ.1 a0 3)).toInt) (h3 : a1.toInt ≥ (8 : Int)) :
    p_102 (a0) (a1) σ (Int32.ofInt (0)) σ := by
  exact ⟨rfl, fun h => absurd rfl h, fun h => by omega⟩
theorem sp_102_efff (a0 : Nat) (a1 : Int32) (σ : zSg) (h1 : a1.toInt ≥ (0 : Int)) (h2 : a1.toInt < (q_i (σ.1 a0 3)).toInt) (h3 : a1.toInt < (8 : Int)) :
    p_102 (a0) (a1) σ (Int32.ofInt (1)) σ := by
  exact ⟨rfl, fun _ => ⟨by omega, by omega, by omega⟩, fun _ => by decide⟩
noncomputable def qP_102 : zPp := fun as σ o σ' => match as with
  | [a0, a1] => ∃ r, o = .inl (some (.int r)) ∧ p_102 (q_r a0) (q_i a1) σ r σ'
  | _ => True
set_option maxRecDepth 100000 in
theorem sp_102 {sx : zX}  : zEe sx 102 2 qP_102 := by
  refine zfle zJ_102 (sps := []) (fun q hq => absurd hq List.not_mem_nil) (fun as σ hl => ?_)
  match as, hl with
  | [a0, a1], _ =>
  refine ⟨[], 400, ?_, ?_⟩
  · exact fun q hq => absurd hq List.not_mem_nil
  · refine And.intro (fun h1 => ?_) (fun h1 => ?_)
    · exact ⟨_, rfl, sp_102_et (q_r a0) (q_i a1) σ (cm2t h1)⟩
    · refine And.intro (fun h2 => ?_) (fun h2 => ?_)
      · exact ⟨_, rfl, sp_102_eft (q_r a0) (q_i a1) σ (cm2f h1) (cm3t h2)⟩
      · refine And.intro (fun h3 => ?_) (fun h3 => ?_)
        · exact ⟨_, rfl, sp_102_efft (q_r a0) (q_i a1) σ (cm2f h1) (cm3f h2) (cm3t h3)⟩
        · exact ⟨_, rfl, sp_102_efff (q_r a0) (q_i a1) σ (cm2f h1) (cm3f h2) (cm3f h3)⟩
theorem zJ_105 : zJ3 105 z_m105 z_c105 z_h105 := ⟨rfl, rfl, rfl⟩
noncomputable def p_105 (a : Nat) (t : Int32) (σ : zSg) (r : Int32) (σ' : zSg) : Prop := σ' = σ ∧ ∀ b H, a = b + 7 → hH σ b H → ∀ T, t = Int32.ofNat T → T < 8 → r = H (66 + 3 * T)
theorem sp_105_et (a0 : Nat) (a1 : Int32) (σ : zSg) (h1 : (((q_i (σ.1 a0 2)) >>> (a1 &&& 31)) &&& (Int32.ofInt (1))).toInt ≠ (1 : Int)) :
    p_105 (a0) (a1) σ (Int32.ofInt (0)) σ := by
  refine ⟨rfl, ?_⟩
  rintro b H rfl K T rfl hT
  obtain ⟨l, hl, hl'⟩ := K.2.2.1
  rw [hl' T hT]
  simp only [hl, q_ii] at h1
  exact (if_neg (fun q => h1 (of_decide_eq_true q))).symm
theorem sp_105_ef (a0 : Nat) (a1 : Int32) (σ : zSg) (h1 : (((q_i (σ.1 a0 2)) >>> (a1 &&& 31)) &&& (Int32.ofInt (1))).toInt = (1 : Int)) :
    p_105 (a0) (a1) σ (Int32.ofInt (1)) σ := by
  refine ⟨rfl, ?_⟩
  rintro b H rfl K T rfl hT
  obtain ⟨l, hl, hl'⟩ := K.2.2.1
  rw [hl' T hT]
  simp only [hl, q_ii] at h1
  exact (if_pos (decide_eq_true h1)).symm
noncomputable def qP_105 : zPp := fun as σ o σ' => match as with
  | [a0, a1] => ∃ r, o = .inl (some (.int r)) ∧ p_105 (q_r a0) (q_i a1) σ r σ'
  | _ => True
set_option maxRecDepth 100000 in
theorem sp_105 {sx : zX}  : zEe sx 105 2 qP_105 := by
  refine zfle zJ_105 (sps := []) (fun q hq => absurd hq List.not_mem_nil) (fun as σ hl => ?_)
  match as, hl with
  | [a0, a1], _ =>
  refine ⟨[], 400, ?_, ?_⟩
  · exact fun q hq => absurd hq List.not_mem_nil
  · refine And.intro (fun h1 => ?_) (fun h1 => ?_)
    · exact ⟨_, rfl, sp_105_et (q_r a0) (q_i a1) σ (cm1t h1)⟩
    · exact ⟨_, rfl, sp_105_ef (q_r a0) (q_i a1) σ (cm1f h1)⟩
theorem zJ_107 : zJ3 107 z_m107 z_c107 z_h107 := ⟨rfl, rfl, rfl⟩
noncomputable def p_107 (a : Nat) (t : Int32) (σ σ' : zSg) : Prop := σ' = q_w σ a 2 (.int (q_i (σ.1 a 2) &&& ((Int32.ofInt 1 <<< (t &&& 31)) ^^^ Int32.ofInt (-1))))
theorem sp_107_e (a0 : Nat) (a1 : Int32) (σ : zSg)  :
    p_107 (a0) (a1) σ (q_w σ a0 2 (.int ((q_i (σ.1 a0 2)) &&& (((Int32.ofInt (1)) <<< (a1 &&& 31)) ^^^ (Int32.ofInt (-1)))))) := by
  exact rfl
noncomputable def qP_107 : zPp := fun as σ o σ' => match as with
  | [a0, a1] => o = .inl none ∧ p_107 (q_r a0) (q_i a1) σ σ'
  | _ => True
set_option maxRecDepth 100000 in
theorem sp_107 {sx : zX}  : zEe sx 107 2 qP_107 := by
  refine zfle zJ_107 (sps := []) (fun q hq => absurd hq List.not_mem_nil) (fun as σ hl => ?_)
  match as, hl with
  | [a0, a1], _ =>
  refine ⟨[], 400, ?_, ?_⟩
  · exact fun q hq => absurd hq List.not_mem_nil
  · exact ⟨rfl, sp_107_e (q_r a0) (q_i a1) σ ⟩
noncomputable def aSm (f : Nat → Int32) : Nat → Int32
  | 0 => Int32.ofInt 0
  | n + 1 => aSm f n + f n
theorem aSm_cg {f g : Nat → Int32} : ∀ n, (∀ k, k < n → f k = g k) → aSm f n = aSm g n
  | 0, _ => rfl
  | n + 1, h => by
    show aSm f n + f n = aSm g n + g n
    rw [aSm_cg n (fun k hk => h k (by omega)), h n (by omega)]
noncomputable def aB1 (H : Nat → Int32) (g : Int32) (t : Nat) : Int32 := if H (66 + 3 * t) = Int32.ofInt 1 ∧ H (64 + 3 * t) ≠ g then H (65 + 3 * t) else Int32.ofInt 0
noncomputable def aBo (H : Nat → Int32) (g : Int32) (n : Nat) : Int32 := aSm (aB1 H g) n
theorem if1 {c : Bool} : ((if c = true then Int32.ofInt 1 else Int32.ofInt 0) = Int32.ofInt 1) ↔ c = true := by cases c <;> decide
theorem zJ_109 : zJ3 109 z_m109 z_c109 z_h109 := ⟨rfl, rfl, rfl⟩
noncomputable def p_109 (a : Nat) (g : Int32) (σ : zSg) (r : Int32) (σ' : zSg) : Prop := ∀ b H nt, a = b + 7 → hH σ b H → H 1 = Int32.ofNat nt → nt ≤ 8 → σ' = σ ∧ r = aBo H g nt
noncomputable def i_109 (a : Nat) (g : Int32) (σ : zSg) (l0 : Nat) (l1 l2 l3 : Int32) (τ : zSg) : Prop := l0 = a ∧ l1 = g ∧ ∀ b H nt, a = b + 7 → hH σ b H → H 1 = Int32.ofNat nt → nt ≤ 8 → τ = σ ∧ ∃ n, n ≤ nt ∧ l3 = Int32.ofNat n ∧ l2 = aBo H g n
theorem sp_109_e (a0 : Nat) (a1 : Int32) (σ : zSg)  :
    i_109 a0 a1 σ a0 a1 (Int32.ofInt (0)) (Int32.ofInt (0)) σ := by
  exact ⟨rfl, rfl, fun b H nt _ _ _ _ => ⟨rfl, 0, by omega, rfl, rfl⟩⟩
theorem sp_109_c4_t (a0 : Nat) (a1 : Int32) (σ : zSg) (l0 : Nat) (l1 : Int32) (l2 : Int32) (l3 : Int32) (τ : zSg) (hI : i_109 a0 a1 σ l0 l1 l2 l3 τ) (h1 : l3.toInt ≥ (q_i (τ.1 l0 3)).toInt) :
    p_109 (a0) (a1) σ l2 τ := by
  obtain ⟨rfl, rfl, hI⟩ := hI
  rintro b H nt rfl K u1 u8
  obtain ⟨rfl, n, hn, rfl, rfl⟩ := hI b H nt rfl K u1 u8
  have p1 := (K.p hp_1).trans u1
  rw [p1, o32 (by omega), o32 (by omega)] at h1
  exact ⟨rfl, by rw [show n = nt by omega]⟩
theorem sp_109_c4_ft (a0 : Nat) (a1 : Int32) (σ : zSg) (l0 : Nat) (l1 : Int32) (l2 : Int32) (l3 : Int32) (τ : zSg) (hI : i_109 a0 a1 σ l0 l1 l2 l3 τ) (h1 : l3.toInt < (q_i (τ.1 l0 3)).toInt) (h2 : (((q_i (τ.1 l0 2)) >>> (l3 &&& 31)) &&& (Int32.ofInt (1))).toInt ≠ (1 : Int)) :
    i_109 a0 a1 σ l0 l1 l2 (l3 + Int32.ofInt (1)) τ := by
  obtain ⟨rfl, rfl, hI⟩ := hI
  refine ⟨rfl, rfl, ?_⟩
  rintro b H nt rfl K u1 u8
  obtain ⟨rfl, n, hn, rfl, rfl⟩ := hI b H nt rfl K u1 u8
  have p1 := (K.p hp_1).trans u1
  rw [p1, o32 (by omega), o32 (by omega)] at h1
  have nn : (Int32.ofNat n).toNatClampNeg = n := o32n (by omega)
  obtain ⟨l, hl, hl'⟩ := K.2.2.1
  have hb := hl' n (by omega)
  simp only [hl, q_ii] at h2
  refine ⟨rfl, n + 1, by omega, o32i (by omega), ?_⟩
  show _ = aBo H l1 n + aB1 H l1 n
  have : aB1 H l1 n = 0 := by
    unfold aB1
    rw [if_neg]
    · rfl
    rintro ⟨q, -⟩
    rw [hb, if1] at q
    exact h2 (of_decide_eq_true q)
  rw [this, Int32.add_zero]
theorem sp_109_c4_fft (a0 : Nat) (a1 : Int32) (σ : zSg) (l0 : Nat) (l1 : Int32) (l2 : Int32) (l3 : Int32) (τ : zSg) (hI : i_109 a0 a1 σ l0 l1 l2 l3 τ) (h1 : l3.toInt < (q_i (τ.1 l0 3)).toInt) (h2 : (((q_i (τ.1 l0 2)) >>> (l3 &&& 31)) &&& (Int32.ofInt (1))).toInt = (1 : Int)) (h3 : 0 ≤ l3.toInt ∧ l3.toInt < (τ.2.1 (q_r (τ.1 l0 0)) : Int)) (h4 : (q_i (τ.1 (q_r (τ.1 l0 0)) l3.toNatClampNeg)).toInt = l1.toInt) :
    i_109 a0 a1 σ l0 l1 l2 (l3 + Int32.ofInt (1)) τ := by
  obtain ⟨rfl, rfl, hI⟩ := hI
  refine ⟨rfl, rfl, ?_⟩
  rintro b H nt rfl K u1 u8
  obtain ⟨rfl, n, hn, rfl, rfl⟩ := hI b H nt rfl K u1 u8
  have p1 := (K.p hp_1).trans u1
  rw [p1, o32 (by omega), o32 (by omega)] at h1
  have nn : (Int32.ofNat n).toNatClampNeg = n := o32n (by omega)
  obtain ⟨l, hl, hl'⟩ := K.2.2.1
  have hb := hl' n (by omega)
  simp only [hl, q_ii] at h2
  have d0 := K.k hk_t0
  have p2 := K.p (hp_o (t := n) (by omega))
  simp only [d0, nn, p2] at h4
  refine ⟨rfl, n + 1, by omega, o32i (by omega), ?_⟩
  show _ = aBo H l1 n + aB1 H l1 n
  have : aB1 H l1 n = 0 := by
    unfold aB1
    rw [if_neg]
    · rfl
    rintro ⟨-, q⟩
    exact q (Int32.toInt_inj.mp h4)
  rw [this, Int32.add_zero]
theorem sp_109_c4_fff (a0 : Nat) (a1 : Int32) (σ : zSg) (l0 : Nat) (l1 : Int32) (l2 : Int32) (l3 : Int32) (τ : zSg) (hI : i_109 a0 a1 σ l0 l1 l2 l3 τ) (h1 : l3.toInt < (q_i (τ.1 l0 3)).toInt) (h2 : (((q_i (τ.1 l0 2)) >>> (l3 &&& 31)) &&& (Int32.ofInt (1))).toInt = (1 : Int)) (h3 : 0 ≤ l3.toInt ∧ l3.toInt < (τ.2.1 (q_r (τ.1 l0 0)) : Int)) (h4 : (q_i (τ.1 (q_r (τ.1 l0 0)) l3.toNatClampNeg)).toInt ≠ l1.toInt) (h5 : 0 ≤ l3.toInt ∧ l3.toInt < (τ.2.1 (q_r (τ.1 l0 1)) : Int)) :
    i_109 a0 a1 σ l0 l1 (l2 + (q_i (τ.1 (q_r (τ.1 l0 1)) l3.toNatClampNeg))) (l3 + Int32.ofInt (1)) τ := by
  obtain ⟨rfl, rfl, hI⟩ := hI
  refine ⟨rfl, rfl, ?_⟩
  rintro b H nt rfl K u1 u8
  obtain ⟨rfl, n, hn, rfl, rfl⟩ := hI b H nt rfl K u1 u8
  have p1 := (K.p hp_1).trans u1
  rw [p1, o32 (by omega), o32 (by omega)] at h1
  have nn : (Int32.ofNat n).toNatClampNeg = n := o32n (by omega)
  obtain ⟨l, hl, hl'⟩ := K.2.2.1
  have hb := hl' n (by omega)
  simp only [hl, q_ii] at h2
  have d0 := K.k hk_t0
  have d1 := K.k hk_t1
  have p2 := K.p (hp_o (t := n) (by omega))
  have p3 := K.p (hp_b (t := n) (by omega))
  simp only [d0, nn, p2] at h4
  simp only [d1, nn, p3]
  refine ⟨trivial, n + 1, by omega, o32i (by omega), ?_⟩
  show _ = aBo H l1 n + aB1 H l1 n
  have : aB1 H l1 n = H (65 + 3 * n) := by
    unfold aB1
    rw [if_pos]
    refine ⟨?_, fun q => h4 (by rw [q])⟩
    rw [hb, if1]
    exact decide_eq_true h2
  rw [this]
noncomputable def qP_109 : zPp := fun as σ o σ' => match as with
  | [a0, a1] => ∃ r, o = .inl (some (.int r)) ∧ p_109 (q_r a0) (q_i a1) σ r σ'
  | _ => True
set_option maxRecDepth 100000 in
theorem sp_109 {sx : zX}  : zEe sx 109 2 qP_109 := by
  refine zfle zJ_109 (sps := []) (fun q hq => absurd hq List.not_mem_nil) (fun as σ hl => ?_)
  match as, hl with
  | [a0, a1], _ =>
  refine ⟨[(4, fun lo st τ => st = [] ∧ i_109 (q_r a0) (q_i a1) σ (q_r (lo 0)) (q_i (lo 1)) (q_i (lo 2)) (q_i (lo 3)) τ)], 400, ?_, ?_⟩
  · intro q hq
    simp only [List.mem_cons, List.not_mem_nil, or_false] at hq
    rcases hq with rfl
    · rintro lo st τ ⟨rfl, hI⟩
      refine ⟨400, ?_⟩
      refine And.intro (fun h1 => ?_) (fun h1 => ?_)
      · exact ⟨_, rfl, sp_109_c4_t (q_r a0) (q_i a1) σ (q_r (lo 0)) (q_i (lo 1)) (q_i (lo 2)) (q_i (lo 3)) τ hI (cm3t h1)⟩
      · refine And.intro (fun h2 => ?_) (fun h2 => ?_)
        · exact ⟨rfl, sp_109_c4_ft (q_r a0) (q_i a1) σ (q_r (lo 0)) (q_i (lo 1)) (q_i (lo 2)) (q_i (lo 3)) τ hI (cm3f h1) (cm1t h2)⟩
        · refine fun h3 => ?_
          refine And.intro (fun h4 => ?_) (fun h4 => ?_)
          · exact ⟨rfl, sp_109_c4_fft (q_r a0) (q_i a1) σ (q_r (lo 0)) (q_i (lo 1)) (q_i (lo 2)) (q_i (lo 3)) τ hI (cm3f h1) (cm1f h2) (q_inp h3) (cm0t h4)⟩
          · refine fun h5 => ?_
            exact ⟨rfl, sp_109_c4_fff (q_r a0) (q_i a1) σ (q_r (lo 0)) (q_i (lo 1)) (q_i (lo 2)) (q_i (lo 3)) τ hI (cm3f h1) (cm1f h2) (q_inp h3) (cm0f h4) (q_inp h5)⟩
  · exact ⟨rfl, sp_109_e (q_r a0) (q_i a1) σ ⟩
theorem zJ_108 : zJ3 108 z_m108 z_c108 z_h108 := ⟨rfl, rfl, rfl⟩
noncomputable def p_108 (a : Nat) (σ : zSg) (r : Int32) (σ' : zSg) : Prop := ∀ b H nt, a = b + 7 → hH σ b H → H 1 = Int32.ofNat nt → nt ≤ 8 → σ' = σ ∧ r = aBo H (Int32.ofInt (-1)) nt
theorem sp_108_e (a0 : Nat) (σ : zSg) (τ1 : zSg) (r1 : Int32) (g1 : p_109 a0 (Int32.ofInt (-1)) σ r1 τ1) :
    p_108 (a0) σ r1 τ1 := by
  exact g1
noncomputable def qP_108 : zPp := fun as σ o σ' => match as with
  | [a0] => ∃ r, o = .inl (some (.int r)) ∧ p_108 (q_r a0) σ r σ'
  | _ => True
set_option maxRecDepth 100000 in
theorem sp_108 {sx : zX} (S109 : zEe sx 109 2 qP_109) : zEe sx 108 1 qP_108 := by
  refine zfle zJ_108 (sps := [(109, 2, qP_109)]) (fun q hq => by
    simp only [List.mem_cons, List.not_mem_nil, or_false] at hq
    rcases hq with rfl
    · exact S109) (fun as σ hl => ?_)
  match as, hl with
  | [a0], _ =>
  refine ⟨[], 400, ?_, ?_⟩
  · exact fun q hq => absurd hq List.not_mem_nil
  · refine fun o1 τ1 g1 => ?_
    obtain ⟨r1, rfl, g1⟩ := g1
    exact ⟨_, rfl, sp_108_e (q_r a0) σ τ1 r1 g1⟩
theorem zJ_177 : zJ3 177 z_m177 z_c177 z_h177 := ⟨rfl, rfl, rfl⟩
noncomputable def p_177 (v l t : Int32) (σ : zSg) (r : Int32) (σ' : zSg) : Prop := σ' = σ ∧ (r.toInt ≠ 0 ↔ l.toInt ≤ v.toInt ∧ v.toInt ≤ t.toInt)
theorem sp_177_et (a0 : Int32) (a1 : Int32) (a2 : Int32) (σ : zSg) (h1 : a0.toInt < a1.toInt) :
    p_177 (a0) (a1) (a2) σ (Int32.ofInt (0)) σ := by
  exact ⟨rfl, fun h => absurd rfl h, fun h => by omega⟩
theorem sp_177_eft (a0 : Int32) (a1 : Int32) (a2 : Int32) (σ : zSg) (h1 : a0.toInt ≥ a1.toInt) (h2 : a0.toInt > a2.toInt) :
    p_177 (a0) (a1) (a2) σ (Int32.ofInt (0)) σ := by
  exact ⟨rfl, fun h => absurd rfl h, fun h => by omega⟩
theorem sp_177_eff (a0 : Int32) (a1 : Int32) (a2 : Int32) (σ : zSg) (h1 : a0.toInt ≥ a1.toInt) (h2 : a0.toInt ≤ a2.toInt) :
    p_177 (a0) (a1) (a2) σ (Int32.ofInt (1)) σ := by
  exact ⟨rfl, fun _ => ⟨by omega, by omega⟩, fun _ => by decide⟩
noncomputable def qP_177 : zPp := fun as σ o σ' => match as with
  | [a0, a1, a2] => ∃ r, o = .inl (some (.int r)) ∧ p_177 (q_i a0) (q_i a1) (q_i a2) σ r σ'
  | _ => True
set_option maxRecDepth 100000 in
theorem sp_177 {sx : zX}  : zEe sx 177 3 qP_177 := by
  refine zfle zJ_177 (sps := []) (fun q hq => absurd hq List.not_mem_nil) (fun as σ hl => ?_)
  match as, hl with
  | [a0, a1, a2], _ =>
  refine ⟨[], 400, ?_, ?_⟩
  · exact fun q hq => absurd hq List.not_mem_nil
  · refine And.intro (fun h1 => ?_) (fun h1 => ?_)
    · exact ⟨_, rfl, sp_177_et (q_i a0) (q_i a1) (q_i a2) σ (cm2t h1)⟩
    · refine And.intro (fun h2 => ?_) (fun h2 => ?_)
      · exact ⟨_, rfl, sp_177_eft (q_i a0) (q_i a1) (q_i a2) σ (cm2f h1) (cm4t h2)⟩
      · exact ⟨_, rfl, sp_177_eff (q_i a0) (q_i a1) (q_i a2) σ (cm2f h1) (cm4f h2)⟩
theorem zJ_188 : zJ3 188 z_m188 z_c188 z_h188 := ⟨rfl, rfl, rfl⟩
noncomputable def p_188 (a : Nat) (σ : zSg) (r : Int32) (σ' : zSg) : Prop := σ' = σ ∧ (a = 205 → ∀ A, rW σ A → ∀ n, A 4 = Int32.ofNat n → n < 24 → r = A (16 + n))
theorem sp_188_e (a0 : Nat) (σ : zSg) (τ2 : zSg) (r2 : Int32) (h1 : 0 ≤ (Int32.ofInt (4)).toInt ∧ (Int32.ofInt (4)).toInt < (σ.2.1 (q_r (σ.1 a0 1)) : Int)) (g2 : p_186 a0 (q_i (σ.1 (q_r (σ.1 a0 1)) (Int32.ofInt (4)).toNatClampNeg)) σ r2 τ2) :
    p_188 (a0) σ r2 τ2 := by
  obtain ⟨rfl, g⟩ := g2
  refine ⟨rfl, ?_⟩
  rintro rfl A K n u4 un
  exact g rfl A n K (by rw [K.q]; exact (K.i (k := 4) (by omega)).trans u4) un
noncomputable def qP_188 : zPp := fun as σ o σ' => match as with
  | [a0] => ∃ r, o = .inl (some (.int r)) ∧ p_188 (q_r a0) σ r σ'
  | _ => True
set_option maxRecDepth 100000 in
theorem sp_188 {sx : zX} (S186 : zEe sx 186 2 qP_186) : zEe sx 188 1 qP_188 := by
  refine zfle zJ_188 (sps := [(186, 2, qP_186)]) (fun q hq => by
    simp only [List.mem_cons, List.not_mem_nil, or_false] at hq
    rcases hq with rfl
    · exact S186) (fun as σ hl => ?_)
  match as, hl with
  | [a0], _ =>
  refine ⟨[], 400, ?_, ?_⟩
  · exact fun q hq => absurd hq List.not_mem_nil
  · refine fun h1 => ?_
    refine fun o2 τ2 g2 => ?_
    obtain ⟨r2, rfl, g2⟩ := g2
    exact ⟨_, rfl, sp_188_e (q_r a0) σ τ2 r2 (q_inp h1) g2⟩
theorem zJ_190 : zJ3 190 z_m190 z_c190 z_h190 := ⟨rfl, rfl, rfl⟩
noncomputable def p_190 (a : Nat) (f w : Int32) (σ : zSg) (r : Int32) (σ' : zSg) : Prop := σ' = σ ∧ (a = 205 → ∀ A, rW σ A → ∀ F k, f = Int32.ofNat F → F < 6 → w = Int32.ofNat k → k < 4 → r = A (40 + k + 4 * F))
theorem sp_190_e (a0 : Nat) (a1 : Int32) (a2 : Int32) (σ : zSg) (τ1 : zSg) (r1 : Int32) (g1 : p_189 a1 a2 σ r1 τ1) (h2 : 0 ≤ r1.toInt ∧ r1.toInt < (τ1.2.1 (q_r (σ.1 a0 1)) : Int)) :
    p_190 (a0) (a1) (a2) σ (q_i (τ1.1 (q_r (σ.1 a0 1)) r1.toNatClampNeg)) τ1 := by
  obtain ⟨rfl, rfl⟩ := g1
  refine ⟨rfl, ?_⟩
  rintro rfl A K F k rfl uF rfl uk
  rw [K.q]
  have hk : k = 0 ∨ k = 1 ∨ k = 2 ∨ k = 3 := by omega
  rcases hk with rfl | rfl | rfl | rfl
  · exact (congrArg (fun i => q_i (τ1.1 206 i)) (at4_0 uF)).trans (K.i (by omega))
  · exact (congrArg (fun i => q_i (τ1.1 206 i)) (at4_1 uF)).trans (K.i (by omega))
  · exact (congrArg (fun i => q_i (τ1.1 206 i)) (at4_2 uF)).trans (K.i (by omega))
  · exact (congrArg (fun i => q_i (τ1.1 206 i)) (at4_3 uF)).trans (K.i (by omega))
noncomputable def qP_190 : zPp := fun as σ o σ' => match as with
  | [a0, a1, a2] => ∃ r, o = .inl (some (.int r)) ∧ p_190 (q_r a0) (q_i a1) (q_i a2) σ r σ'
  | _ => True
set_option maxRecDepth 100000 in
theorem sp_190 {sx : zX} (S189 : zEe sx 189 2 qP_189) : zEe sx 190 3 qP_190 := by
  refine zfle zJ_190 (sps := [(189, 2, qP_189)]) (fun q hq => by
    simp only [List.mem_cons, List.not_mem_nil, or_false] at hq
    rcases hq with rfl
    · exact S189) (fun as σ hl => ?_)
  match as, hl with
  | [a0, a1, a2], _ =>
  refine ⟨[], 400, ?_, ?_⟩
  · exact fun q hq => absurd hq List.not_mem_nil
  · refine fun o1 τ1 g1 => ?_
    obtain ⟨r1, rfl, g1⟩ := g1
    refine fun h2 => ?_
    exact ⟨_, rfl, sp_190_e (q_r a0) (q_i a1) (q_i a2) σ τ1 r1 g1 (q_inp h2)⟩
theorem zJ_193 : zJ3 193 z_m193 z_c193 z_h193 := ⟨rfl, rfl, rfl⟩
noncomputable def p_193 (a : Nat) (f w : Int32) (σ : zSg) (r : Int32) (σ' : zSg) : Prop := σ' = σ ∧ (a = 205 → ∀ A, rW σ A → ∀ F k, f = Int32.ofNat F → F < 8 → w = Int32.ofNat k → k < 3 → r = A (64 + k + 3 * F))
theorem sp_193_e (a0 : Nat) (a1 : Int32) (a2 : Int32) (σ : zSg) (τ1 : zSg) (r1 : Int32) (g1 : p_192 a1 a2 σ r1 τ1) (h2 : 0 ≤ r1.toInt ∧ r1.toInt < (τ1.2.1 (q_r (σ.1 a0 1)) : Int)) :
    p_193 (a0) (a1) (a2) σ (q_i (τ1.1 (q_r (σ.1 a0 1)) r1.toNatClampNeg)) τ1 := by
  obtain ⟨rfl, rfl⟩ := g1
  refine ⟨rfl, ?_⟩
  rintro rfl A K F k rfl uF rfl uk
  rw [K.q]
  have hk : k = 0 ∨ k = 1 ∨ k = 2 := by omega
  rcases hk with rfl | rfl | rfl
  · exact (congrArg (fun i => q_i (τ1.1 206 i)) (at3_0 uF)).trans (K.i (by omega))
  · exact (congrArg (fun i => q_i (τ1.1 206 i)) (at3_1 uF)).trans (K.i (by omega))
  · exact (congrArg (fun i => q_i (τ1.1 206 i)) (at3_2 uF)).trans (K.i (by omega))
noncomputable def qP_193 : zPp := fun as σ o σ' => match as with
  | [a0, a1, a2] => ∃ r, o = .inl (some (.int r)) ∧ p_193 (q_r a0) (q_i a1) (q_i a2) σ r σ'
  | _ => True
set_option maxRecDepth 100000 in
theorem sp_193 {sx : zX} (S192 : zEe sx 192 2 qP_192) : zEe sx 193 3 qP_193 := by
  refine zfle zJ_193 (sps := [(192, 2, qP_192)]) (fun q hq => by
    simp only [List.mem_cons, List.not_mem_nil, or_false] at hq
    rcases hq with rfl
    · exact S192) (fun as σ hl => ?_)
  match as, hl with
  | [a0, a1, a2], _ =>
  refine ⟨[], 400, ?_, ?_⟩
  · exact fun q hq => absurd hq List.not_mem_nil
  · refine fun o1 τ1 g1 => ?_
    obtain ⟨r1, rfl, g1⟩ := g1
    refine fun h2 => ?_
    exact ⟨_, rfl, sp_193_e (q_r a0) (q_i a1) (q_i a2) σ τ1 r1 g1 (q_inp h2)⟩
theorem zJ_191 : zJ3 191 z_m191 z_c191 z_h191 := ⟨rfl, rfl, rfl⟩
noncomputable def p_191 (a : Nat) (f h : Int32) (σ : zSg) (r : Int32) (σ' : zSg) : Prop := σ' = σ ∧ (a = 205 → ∀ A, rW σ A → ∀ F, f = Int32.ofNat F → F < 6 → r = if btb (A (43 + 4 * F)) h = true then Int32.ofInt 1 else Int32.ofInt 0)
theorem sp_191_e (a0 : Nat) (a1 : Int32) (a2 : Int32) (σ : zSg) (τ1 : zSg) (r1 : Int32) (τ2 : zSg) (r2 : Int32) (g1 : p_190 a0 a1 (Int32.ofInt (3)) σ r1 τ1) (g2 : p_178 r1 a2 τ1 r2 τ2) :
    p_191 (a0) (a1) (a2) σ r2 τ2 := by
  obtain ⟨rfl, g⟩ := g1
  obtain ⟨rfl, e⟩ := g2
  refine ⟨rfl, ?_⟩
  rintro rfl A K F rfl uF
  rw [e, g rfl A K F 3 rfl uF rfl (by omega)]
noncomputable def qP_191 : zPp := fun as σ o σ' => match as with
  | [a0, a1, a2] => ∃ r, o = .inl (some (.int r)) ∧ p_191 (q_r a0) (q_i a1) (q_i a2) σ r σ'
  | _ => True
set_option maxRecDepth 100000 in
theorem sp_191 {sx : zX} (S190 : zEe sx 190 3 qP_190) (S178 : zEe sx 178 2 qP_178) : zEe sx 191 3 qP_191 := by
  refine zfle zJ_191 (sps := [(190, 3, qP_190), (178, 2, qP_178)]) (fun q hq => by
    simp only [List.mem_cons, List.not_mem_nil, or_false] at hq
    rcases hq with rfl | rfl
    · exact S190
    · exact S178) (fun as σ hl => ?_)
  match as, hl with
  | [a0, a1, a2], _ =>
  refine ⟨[], 400, ?_, ?_⟩
  · exact fun q hq => absurd hq List.not_mem_nil
  · refine fun o1 τ1 g1 => ?_
    obtain ⟨r1, rfl, g1⟩ := g1
    refine fun o2 τ2 g2 => ?_
    obtain ⟨r2, rfl, g2⟩ := g2
    exact ⟨_, rfl, sp_191_e (q_r a0) (q_i a1) (q_i a2) σ τ1 r1 τ2 r2 g1 g2⟩
theorem zJ_194 : zJ3 194 z_m194 z_c194 z_h194 := ⟨rfl, rfl, rfl⟩
noncomputable def p_194 (a : Nat) (t : Int32) (σ : zSg) (r : Int32) (σ' : zSg) : Prop := σ' = σ ∧ (a = 205 → ∀ A, rW σ A → ∀ F, t = Int32.ofNat F → F < 8 → r = if A (66 + 3 * F) = Int32.ofInt 1 then Int32.ofInt 1 else Int32.ofInt 0)
theorem sp_194_et (a0 : Nat) (a1 : Int32) (σ : zSg) (τ1 : zSg) (r1 : Int32) (g1 : p_193 a0 a1 (Int32.ofInt (2)) σ r1 τ1) (h2 : r1.toInt ≠ (1 : Int)) :
    p_194 (a0) (a1) σ (Int32.ofInt (0)) τ1 := by
  obtain ⟨rfl, g⟩ := g1
  refine ⟨rfl, ?_⟩
  rintro rfl A K F rfl uF
  have e := g rfl A K F 2 rfl uF rfl (by omega)
  rw [e] at h2
  exact (if_neg (fun q => h2 (by rw [q]; rfl))).symm
theorem sp_194_ef (a0 : Nat) (a1 : Int32) (σ : zSg) (τ1 : zSg) (r1 : Int32) (g1 : p_193 a0 a1 (Int32.ofInt (2)) σ r1 τ1) (h2 : r1.toInt = (1 : Int)) :
    p_194 (a0) (a1) σ (Int32.ofInt (1)) τ1 := by
  obtain ⟨rfl, g⟩ := g1
  refine ⟨rfl, ?_⟩
  rintro rfl A K F rfl uF
  have e := g rfl A K F 2 rfl uF rfl (by omega)
  rw [e] at h2
  exact (if_pos (Int32.toInt_inj.mp h2)).symm
noncomputable def qP_194 : zPp := fun as σ o σ' => match as with
  | [a0, a1] => ∃ r, o = .inl (some (.int r)) ∧ p_194 (q_r a0) (q_i a1) σ r σ'
  | _ => True
set_option maxRecDepth 100000 in
theorem sp_194 {sx : zX} (S193 : zEe sx 193 3 qP_193) : zEe sx 194 2 qP_194 := by
  refine zfle zJ_194 (sps := [(193, 3, qP_193)]) (fun q hq => by
    simp only [List.mem_cons, List.not_mem_nil, or_false] at hq
    rcases hq with rfl
    · exact S193) (fun as σ hl => ?_)
  match as, hl with
  | [a0, a1], _ =>
  refine ⟨[], 400, ?_, ?_⟩
  · exact fun q hq => absurd hq List.not_mem_nil
  · refine fun o1 τ1 g1 => ?_
    obtain ⟨r1, rfl, g1⟩ := g1
    refine And.intro (fun h2 => ?_) (fun h2 => ?_)
    · exact ⟨_, rfl, sp_194_et (q_r a0) (q_i a1) σ τ1 r1 g1 (cm1t h2)⟩
    · exact ⟨_, rfl, sp_194_ef (q_r a0) (q_i a1) σ τ1 r1 g1 (cm1f h2)⟩
theorem zJ_195 : zJ3 195 z_m195 z_c195 z_h195 := ⟨rfl, rfl, rfl⟩
noncomputable def p_195 (a : Nat) (f : Int32) (σ : zSg) (r : Int32) (σ' : zSg) : Prop := σ' = σ ∧ (a = 205 → ∀ A, rW σ A → ∀ nf, A 0 = Int32.ofNat nf → nf ≤ 6 → (r.toInt ≠ 0 ↔ ¬ (0 ≤ f.toInt ∧ f.toInt < (nf : Int))))
theorem sp_195_et (a0 : Nat) (a1 : Int32) (σ : zSg) (τ1 : zSg) (r1 : Int32) (τ2 : zSg) (r2 : Int32) (g1 : p_184 a0 σ r1 τ1) (g2 : p_177 a1 (Int32.ofInt (0)) (r1 - (Int32.ofInt (1))) τ1 r2 τ2) (h3 : r2.toInt ≠ (0 : Int)) :
    p_195 (a0) (a1) σ (Int32.ofInt (0)) τ2 := by
  obtain ⟨rfl, g⟩ := g1
  obtain ⟨rfl, e⟩ := g2
  refine ⟨rfl, ?_⟩
  rintro rfl A K nf u0 u6
  have e1 : (r1 - Int32.ofInt 1).toInt = (nf : Int) - 1 := by
    rw [g rfl A K, u0]
    exact zI_sub (o32 (by omega)) (zI_c (by omega) (by omega)) (by omega) (by omega)
  rw [e1, show (Int32.ofInt 0).toInt = 0 from rfl] at e
  exact ⟨fun h => absurd rfl h, fun h => absurd (e.mp h3) (by omega)⟩
theorem sp_195_ef (a0 : Nat) (a1 : Int32) (σ : zSg) (τ1 : zSg) (r1 : Int32) (τ2 : zSg) (r2 : Int32) (g1 : p_184 a0 σ r1 τ1) (g2 : p_177 a1 (Int32.ofInt (0)) (r1 - (Int32.ofInt (1))) τ1 r2 τ2) (h3 : r2.toInt = (0 : Int)) :
    p_195 (a0) (a1) σ (Int32.ofInt (1)) τ2 := by
  obtain ⟨rfl, g⟩ := g1
  obtain ⟨rfl, e⟩ := g2
  refine ⟨rfl, ?_⟩
  rintro rfl A K nf u0 u6
  have e1 : (r1 - Int32.ofInt 1).toInt = (nf : Int) - 1 := by
    rw [g rfl A K, u0]
    exact zI_sub (o32 (by omega)) (zI_c (by omega) (by omega)) (by omega) (by omega)
  rw [e1, show (Int32.ofInt 0).toInt = 0 from rfl] at e
  exact ⟨fun _ => fun q => absurd h3 (e.mpr (by omega)), fun _ => by decide⟩
noncomputable def qP_195 : zPp := fun as σ o σ' => match as with
  | [a0, a1] => ∃ r, o = .inl (some (.int r)) ∧ p_195 (q_r a0) (q_i a1) σ r σ'
  | _ => True
set_option maxRecDepth 100000 in
theorem sp_195 {sx : zX} (S184 : zEe sx 184 1 qP_184) (S177 : zEe sx 177 3 qP_177) : zEe sx 195 2 qP_195 := by
  refine zfle zJ_195 (sps := [(184, 1, qP_184), (177, 3, qP_177)]) (fun q hq => by
    simp only [List.mem_cons, List.not_mem_nil, or_false] at hq
    rcases hq with rfl | rfl
    · exact S184
    · exact S177) (fun as σ hl => ?_)
  match as, hl with
  | [a0, a1], _ =>
  refine ⟨[], 400, ?_, ?_⟩
  · exact fun q hq => absurd hq List.not_mem_nil
  · refine fun o1 τ1 g1 => ?_
    obtain ⟨r1, rfl, g1⟩ := g1
    refine fun o2 τ2 g2 => ?_
    obtain ⟨r2, rfl, g2⟩ := g2
    refine And.intro (fun h3 => ?_) (fun h3 => ?_)
    · exact ⟨_, rfl, sp_195_et (q_r a0) (q_i a1) σ τ1 r1 τ2 r2 g1 g2 (cm1t h3)⟩
    · exact ⟨_, rfl, sp_195_ef (q_r a0) (q_i a1) σ τ1 r1 τ2 r2 g1 g2 (cm1f h3)⟩
theorem zJ_196 : zJ3 196 z_m196 z_c196 z_h196 := ⟨rfl, rfl, rfl⟩
noncomputable def p_196 (a : Nat) (f : Int32) (σ : zSg) (r : Int32) (σ' : zSg) : Prop := σ' = σ ∧ (a = 205 → ∀ A, rW σ A → ∀ nf, A 1 = Int32.ofNat nf → nf ≤ 8 → (r.toInt ≠ 0 ↔ ¬ (0 ≤ f.toInt ∧ f.toInt < (nf : Int))))
theorem sp_196_et (a0 : Nat) (a1 : Int32) (σ : zSg) (τ1 : zSg) (r1 : Int32) (τ2 : zSg) (r2 : Int32) (g1 : p_185 a0 σ r1 τ1) (g2 : p_177 a1 (Int32.ofInt (0)) (r1 - (Int32.ofInt (1))) τ1 r2 τ2) (h3 : r2.toInt ≠ (0 : Int)) :
    p_196 (a0) (a1) σ (Int32.ofInt (0)) τ2 := by
  obtain ⟨rfl, g⟩ := g1
  obtain ⟨rfl, e⟩ := g2
  refine ⟨rfl, ?_⟩
  rintro rfl A K nf u0 u6
  have e1 : (r1 - Int32.ofInt 1).toInt = (nf : Int) - 1 := by
    rw [g rfl A K, u0]
    exact zI_sub (o32 (by omega)) (zI_c (by omega) (by omega)) (by omega) (by omega)
  rw [e1, show (Int32.ofInt 0).toInt = 0 from rfl] at e
  exact ⟨fun h => absurd rfl h, fun h => absurd (e.mp h3) (by omega)⟩
theorem sp_196_ef (a0 : Nat) (a1 : Int32) (σ : zSg) (τ1 : zSg) (r1 : Int32) (τ2 : zSg) (r2 : Int32) (g1 : p_185 a0 σ r1 τ1) (g2 : p_177 a1 (Int32.ofInt (0)) (r1 - (Int32.ofInt (1))) τ1 r2 τ2) (h3 : r2.toInt = (0 : Int)) :
    p_196 (a0) (a1) σ (Int32.ofInt (1)) τ2 := by
  obtain ⟨rfl, g⟩ := g1
  obtain ⟨rfl, e⟩ := g2
  refine ⟨rfl, ?_⟩
  rintro rfl A K nf u0 u6
  have e1 : (r1 - Int32.ofInt 1).toInt = (nf : Int) - 1 := by
    rw [g rfl A K, u0]
    exact zI_sub (o32 (by omega)) (zI_c (by omega) (by omega)) (by omega) (by omega)
  rw [e1, show (Int32.ofInt 0).toInt = 0 from rfl] at e
  exact ⟨fun _ => fun q => absurd h3 (e.mpr (by omega)), fun _ => by decide⟩
noncomputable def qP_196 : zPp := fun as σ o σ' => match as with
  | [a0, a1] => ∃ r, o = .inl (some (.int r)) ∧ p_196 (q_r a0) (q_i a1) σ r σ'
  | _ => True
set_option maxRecDepth 100000 in
theorem sp_196 {sx : zX} (S185 : zEe sx 185 1 qP_185) (S177 : zEe sx 177 3 qP_177) : zEe sx 196 2 qP_196 := by
  refine zfle zJ_196 (sps := [(185, 1, qP_185), (177, 3, qP_177)]) (fun q hq => by
    simp only [List.mem_cons, List.not_mem_nil, or_false] at hq
    rcases hq with rfl | rfl
    · exact S185
    · exact S177) (fun as σ hl => ?_)
  match as, hl with
  | [a0, a1], _ =>
  refine ⟨[], 400, ?_, ?_⟩
  · exact fun q hq => absurd hq List.not_mem_nil
  · refine fun o1 τ1 g1 => ?_
    obtain ⟨r1, rfl, g1⟩ := g1
    refine fun o2 τ2 g2 => ?_
    obtain ⟨r2, rfl, g2⟩ := g2
    refine And.intro (fun h3 => ?_) (fun h3 => ?_)
    · exact ⟨_, rfl, sp_196_et (q_r a0) (q_i a1) σ τ1 r1 τ2 r2 g1 g2 (cm1t h3)⟩
    · exact ⟨_, rfl, sp_196_ef (q_r a0) (q_i a1) σ τ1 r1 τ2 r2 g1 g2 (cm1f h3)⟩
theorem zJ_197 : zJ3 197 z_m197 z_c197 z_h197 := ⟨rfl, rfl, rfl⟩
noncomputable def p_197 (h : Int32) (σ : zSg) (r : Int32) (σ' : zSg) : Prop := σ' = σ ∧ (r.toInt ≠ 0 ↔ ¬ (0 ≤ h.toInt ∧ h.toInt < 24))
theorem sp_197_et (a0 : Int32) (σ : zSg) (τ1 : zSg) (r1 : Int32) (g1 : p_177 a0 (Int32.ofInt (0)) (Int32.ofInt (23)) σ r1 τ1) (h2 : r1.toInt ≠ (0 : Int)) :
    p_197 (a0) σ (Int32.ofInt (0)) τ1 := by
  obtain ⟨rfl, e⟩ := g1
  rw [show (Int32.ofInt 0).toInt = 0 from rfl, show (Int32.ofInt 23).toInt = 23 from rfl] at e
  exact ⟨rfl, fun h => absurd rfl h, fun h => absurd (e.mp h2) (by omega)⟩
theorem sp_197_ef (a0 : Int32) (σ : zSg) (τ1 : zSg) (r1 : Int32) (g1 : p_177 a0 (Int32.ofInt (0)) (Int32.ofInt (23)) σ r1 τ1) (h2 : r1.toInt = (0 : Int)) :
    p_197 (a0) σ (Int32.ofInt (1)) τ1 := by
  obtain ⟨rfl, e⟩ := g1
  rw [show (Int32.ofInt 0).toInt = 0 from rfl, show (Int32.ofInt 23).toInt = 23 from rfl] at e
  exact ⟨rfl, fun _ => fun q => absurd h2 (e.mpr (by omega)), fun _ => by decide⟩
noncomputable def qP_197 : zPp := fun as σ o σ' => match as with
  | [a0] => ∃ r, o = .inl (some (.int r)) ∧ p_197 (q_i a0) σ r σ'
  | _ => True
set_option maxRecDepth 100000 in
theorem sp_197 {sx : zX} (S177 : zEe sx 177 3 qP_177) : zEe sx 197 1 qP_197 := by
  refine zfle zJ_197 (sps := [(177, 3, qP_177)]) (fun q hq => by
    simp only [List.mem_cons, List.not_mem_nil, or_false] at hq
    rcases hq with rfl
    · exact S177) (fun as σ hl => ?_)
  match as, hl with
  | [a0], _ =>
  refine ⟨[], 400, ?_, ?_⟩
  · exact fun q hq => absurd hq List.not_mem_nil
  · refine fun o1 τ1 g1 => ?_
    obtain ⟨r1, rfl, g1⟩ := g1
    refine And.intro (fun h2 => ?_) (fun h2 => ?_)
    · exact ⟨_, rfl, sp_197_et (q_i a0) σ τ1 r1 g1 (cm1t h2)⟩
    · exact ⟨_, rfl, sp_197_ef (q_i a0) σ τ1 r1 g1 (cm1f h2)⟩
end
