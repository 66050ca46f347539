/-! feed, exact; printed with wip/gen/gen_ta.py -/
noncomputable def cby (v : Int32) (n : Nat) : Int32 := ((v.toUInt32 >>> ((Int32.ofNat n).toUInt32 &&& Int32.toUInt32 31)).toInt32) &&& Int32.ofInt 255
noncomputable def rby (v : Int32) (n : Nat) : Int32 := vp_nar .byte (v >>> (Int32.ofNat n &&& 31)).toInt8.toInt32
theorem cby_rby {n : Nat} (v : Int32) (h : byN n) : (rby v n).toInt = if 128 ≤ (cby v n).toInt then (cby v n).toInt - 256 else (cby v n).toInt := byQ v h
theorem cby_le {n : Nat} (v : Int32) (h : byN n) : 0 ≤ (cby v n).toInt ∧ (cby v n).toInt ≤ 255 := byB v h
noncomputable def cAp (σ : zSg) (t B E : Nat) (f : Nat → Int32) (j : Nat) : zSg := (fun c k => if c = B ∧ E ≤ k ∧ k < E + j then .int (f (k - E)) else if c = t ∧ k = 1 then .int (Int32.ofNat (E + j)) else σ.1 c k, σ.2)
theorem cAp_0 {σ : zSg} {t B E : Nat} {f : Nat → Int32} (h : σ.1 t 1 = .int (Int32.ofNat E)) : cAp σ t B E f 0 = σ := by
  refine Prod.ext ?_ rfl
  funext c k
  show (if c = B ∧ E ≤ k ∧ k < E + 0 then _ else if c = t ∧ k = 1 then _ else σ.1 c k) = _
  rw [if_neg (fun q => by omega)]
  by_cases hq : c = t ∧ k = 1
  · rw [if_pos hq, hq.1, hq.2, h]; rfl
  · rw [if_neg hq]
theorem cAp_s {σ : zSg} {t B E j : Nat} {f : Nat → Int32} (hB : B ≠ t) : q_w (q_w (cAp σ t B E f j) B (E + j) (.int (f j))) t 1 (.int (Int32.ofNat (E + j + 1))) = cAp σ t B E f (j + 1) := by
  refine Prod.ext ?_ rfl
  funext c k
  show _ = (if c = B ∧ E ≤ k ∧ k < E + (j + 1) then Value.int (f (k - E)) else if c = t ∧ k = 1 then .int (Int32.ofNat (E + (j + 1))) else σ.1 c k)
  by_cases h1 : c = t ∧ k = 1
  · obtain ⟨rfl, rfl⟩ := h1
    rw [q_w_at, if_neg (fun q => hB q.1.symm), if_pos ⟨rfl, rfl⟩]
    rfl
  · rw [q_w_ne (fun e1 e2 => h1 ⟨e1, e2⟩)]
    by_cases h2 : c = B ∧ k = E + j
    · obtain ⟨rfl, rfl⟩ := h2
      rw [q_w_at, if_pos ⟨rfl, by omega, by omega⟩, show E + j - E = j by omega]
    · rw [q_w_ne (fun e1 e2 => h2 ⟨e1, e2⟩)]
      show (if c = B ∧ E ≤ k ∧ k < E + j then Value.int (f (k - E)) else if c = t ∧ k = 1 then _ else σ.1 c k) = _
      rw [if_neg h1, if_neg h1]
      by_cases h3 : c = B ∧ E ≤ k ∧ k < E + j
      · rw [if_pos h3, if_pos ⟨h3.1, h3.2.1, by omega⟩]
      · rw [if_neg h3, if_neg (fun q => h3 ⟨q.1, q.2.1, by have := fun e => h2 ⟨q.1, e⟩; omega⟩)]
theorem cAp_t {σ : zSg} {t B E j : Nat} {f : Nat → Int32} (hB : B ≠ t) : (cAp σ t B E f j).1 t 1 = .int (Int32.ofNat (E + j)) := by
  show (if t = B ∧ _ then _ else if t = t ∧ 1 = 1 then _ else _) = _
  rw [if_neg (fun q => hB q.1.symm), if_pos ⟨rfl, rfl⟩]
theorem cAp_ne {σ : zSg} {t B E j c k : Nat} {f : Nat → Int32} (h1 : ¬ (c = B ∧ E ≤ k ∧ k < E + j)) (h2 : ¬ (c = t ∧ k = 1)) : (cAp σ t B E f j).1 c k = σ.1 c k := by
  show (if c = B ∧ E ≤ k ∧ k < E + j then _ else if c = t ∧ k = 1 then _ else σ.1 c k) = _
  rw [if_neg h1, if_neg h2]
theorem cAp_at {σ : zSg} {t B E j i : Nat} {f : Nat → Int32} (h : i < j) : (cAp σ t B E f j).1 B (E + i) = .int (f i) := by
  show (if B = B ∧ E ≤ E + i ∧ E + i < E + j then Value.int (f (E + i - E)) else _) = _
  rw [if_pos ⟨rfl, by omega, by omega⟩, show E + i - E = i by omega]
noncomputable def p_85 (t : Nat) (v : Int32) (σ σ' : zSg) : Prop := ∀ B E : Nat, σ.1 t 0 = .ref B → B ≠ t → σ.1 t 1 = .int (Int32.ofNat E) → E + 4 ≤ 400 → σ' = cAp σ t B E (fun i => cby v (24 - 8 * i)) 4
noncomputable def i_85 (t : Nat) (v : Int32) (σ : zSg) (l0 : Nat) (l1 s : Int32) (τ : zSg) : Prop := l0 = t ∧ l1 = v ∧ ∀ B E : Nat, σ.1 t 0 = .ref B → B ≠ t → σ.1 t 1 = .int (Int32.ofNat E) → E + 4 ≤ 400 → ∃ j : Nat, j ≤ 4 ∧ s.toInt = 24 - 8 * (j : Int) ∧ τ = cAp σ t B E (fun i => cby v (24 - 8 * i)) j
theorem sp_85_e (a0 : Nat) (a1 : Int32) (σ : zSg)  :
    i_85 a0 a1 σ a0 a1 (Int32.ofInt (24)) σ := by
  exact ⟨rfl, rfl, fun B E h0 hB h1 hE => ⟨0, by omega, rfl, (cAp_0 h1).symm⟩⟩
theorem sp_85_c2_t (a0 : Nat) (a1 : Int32) (σ : zSg) (l0 : Nat) (l1 : Int32) (l2 : Int32) (τ : zSg) (hI : i_85 a0 a1 σ l0 l1 l2 τ) (h1 : l2.toInt < (0 : Int)) :
    p_85 (a0) (a1) σ τ := by
  obtain ⟨rfl, rfl, G⟩ := hI
  intro B E h0 hB h1' hE
  obtain ⟨j, hj, hs, rfl⟩ := G B E h0 hB h1' hE
  have : j = 4 := by omega
  rw [this]
theorem sp_85_c2_ft (a0 : Nat) (a1 : Int32) (σ : zSg) (l0 : Nat) (l1 : Int32) (l2 : Int32) (τ : zSg) (hI : i_85 a0 a1 σ l0 l1 l2 τ) (h1 : l2.toInt ≥ (0 : Int)) (h2 : (q_i (τ.1 l0 1)).toInt ≥ (400 : Int)) :
    p_85 (a0) (a1) σ τ := by
  obtain ⟨rfl, rfl, G⟩ := hI
  intro B E h0 hB h1' hE
  obtain ⟨j, hj, hs, rfl⟩ := G B E h0 hB h1' hE
  exfalso
  rw [cAp_t hB] at h2
  have h9 : (Int32.ofNat (E + j)).toInt ≥ 400 := h2
  rw [o32 (by omega)] at h9
  omega
theorem sp_85_c2_ff (a0 : Nat) (a1 : Int32) (σ : zSg) (l0 : Nat) (l1 : Int32) (l2 : Int32) (τ : zSg) (hI : i_85 a0 a1 σ l0 l1 l2 τ) (h1 : l2.toInt ≥ (0 : Int)) (h2 : (q_i (τ.1 l0 1)).toInt < (400 : Int)) (h3 : 0 ≤ (q_i (τ.1 l0 1)).toInt ∧ (q_i (τ.1 l0 1)).toInt < (τ.2.1 (q_r (τ.1 l0 0)) : Int)) :
    i_85 a0 a1 σ l0 l1 (l2 + Int32.ofInt (-8)) (q_w (q_w τ (q_r (τ.1 l0 0)) (q_i (τ.1 l0 1)).toNatClampNeg (.int (((l1.toUInt32 >>> (l2.toUInt32 &&& Int32.toUInt32 31)).toInt32) &&& (Int32.ofInt (255))))) l0 1 (.int ((q_i ((q_w τ (q_r (τ.1 l0 0)) (q_i (τ.1 l0 1)).toNatClampNeg (.int (((l1.toUInt32 >>> (l2.toUInt32 &&& Int32.toUInt32 31)).toInt32) &&& (Int32.ofInt (255))))).1 l0 1)) + (Int32.ofInt (1))))) := by
  obtain ⟨rfl, rfl, G⟩ := hI
  refine ⟨rfl, rfl, fun B E h0 hB h1' hE => ?_⟩
  obtain ⟨j, hj, hs, rfl⟩ := G B E h0 hB h1' hE
  have hj4 : j < 4 := by omega
  have q0 : q_r ((cAp σ l0 B E (fun i => cby l1 (24 - 8 * i)) j).1 l0 0) = B := by
    rw [cAp_ne (fun q => hB q.1.symm) (fun q => by omega), h0]; rfl
  have q1 : q_i ((cAp σ l0 B E (fun i => cby l1 (24 - 8 * i)) j).1 l0 1) = Int32.ofNat (E + j) := by rw [cAp_t hB]; rfl
  have el : l2 = Int32.ofNat (24 - 8 * j) := Int32.toInt_inj.mp (by rw [hs, o32 (by omega)]; omega)
  have q2 : ∀ v, q_i ((q_w (cAp σ l0 B E (fun i => cby l1 (24 - 8 * i)) j) B (E + j) v).1 l0 1) = Int32.ofNat (E + j) := fun v => by rw [q_w_ne (fun q _ => hB q.symm)]; exact q1
  refine ⟨j + 1, by omega, ?_, ?_⟩
  · rw [zI_add hs (zI_c (n := -8) (by omega) (by omega)) (by omega) (by omega)]
    omega
  · rw [q0, q1, o32n (by omega), q2, o32i (by omega), ← cAp_s hB, el]
    rfl
noncomputable def qP_85 : zPp := fun as σ o σ' => match as with
  | [a0, a1] => o = .inl none ∧ p_85 (q_r a0) (q_i a1) σ σ'
  | _ => True
set_option maxRecDepth 100000 in
theorem sp_85 {sx : zX}  : zEe sx 85 2 qP_85 := by
  refine zfle zJ_85 (sps := []) (fun q hq => absurd hq List.not_mem_nil) (fun as σ hl => ?_)
  match as, hl with
  | [a0, a1], _ =>
  refine ⟨[(2, fun lo st τ => st = [] ∧ i_85 (q_r a0) (q_i a1) σ (q_r (lo 0)) (q_i (lo 1)) (q_i (lo 2)) τ)], 400, ?_, ?_⟩
  · intro q hq
    simp only [List.mem_cons, List.not_mem_nil, or_false] at hq
    rcases hq with rfl
    · rintro lo st τ ⟨rfl, hI⟩
      refine ⟨400, ?_⟩
      refine And.intro (fun h1 => ?_) (fun h1 => ?_)
      · exact ⟨rfl, sp_85_c2_t (q_r a0) (q_i a1) σ (q_r (lo 0)) (q_i (lo 1)) (q_i (lo 2)) τ hI (cm2t h1)⟩
      · refine And.intro (fun h2 => ?_) (fun h2 => ?_)
        · exact ⟨rfl, sp_85_c2_ft (q_r a0) (q_i a1) σ (q_r (lo 0)) (q_i (lo 1)) (q_i (lo 2)) τ hI (cm2f h1) (cm3t h2)⟩
        · refine fun h3 => ?_
          exact ⟨rfl, sp_85_c2_ff (q_r a0) (q_i a1) σ (q_r (lo 0)) (q_i (lo 1)) (q_i (lo 2)) τ hI (cm2f h1) (cm3f h2) (q_inp h3)⟩
  · exact ⟨rfl, sp_85_e (q_r a0) (q_i a1) σ ⟩
noncomputable def vf (a b c d e : Int32) (k : Nat) : Int32 := [a, b, c, d, e].getD (k / 4) 0
theorem cAp_c {σ : zSg} {t B E m n : Nat} {f g : Nat → Int32} (hB : B ≠ t) : cAp (cAp σ t B E f m) t B (E + m) g n = cAp σ t B E (fun i => if i < m then f i else g (i - m)) (m + n) := by
  refine Prod.ext ?_ rfl
  funext c k
  show (if c = B ∧ E + m ≤ k ∧ k < E + m + n then Value.int (g (k - (E + m))) else if c = t ∧ k = 1 then .int (Int32.ofNat (E + m + n)) else if c = B ∧ E ≤ k ∧ k < E + m then .int (f (k - E)) else if c = t ∧ k = 1 then _ else σ.1 c k) = if c = B ∧ E ≤ k ∧ k < E + (m + n) then Value.int (if k - E < m then f (k - E) else g (k - E - m)) else if c = t ∧ k = 1 then .int (Int32.ofNat (E + (m + n))) else σ.1 c k
  by_cases hc : c = B
  · subst hc
    have ht : ¬ (c = t ∧ k = 1) := fun q => hB q.1
    rw [if_neg ht, if_neg ht, if_neg ht]
    by_cases h1 : E + m ≤ k ∧ k < E + m + n
    · rw [if_pos ⟨rfl, h1⟩, if_pos ⟨rfl, by omega, by omega⟩, if_neg (by omega), show k - (E + m) = k - E - m by omega]
    · rw [if_neg (fun q => h1 q.2)]
      by_cases h2 : E ≤ k ∧ k < E + m
      · rw [if_pos ⟨rfl, h2⟩, if_pos ⟨rfl, by omega, by omega⟩, if_pos (by omega)]
      · rw [if_neg (fun q => h2 q.2), if_neg (fun q => by omega)]
  · have n1 : ∀ p : Prop, ¬ (c = B ∧ p) := fun p q => hc q.1
    rw [if_neg (n1 _), if_neg (n1 _), if_neg (n1 _)]
    by_cases ht : c = t ∧ k = 1
    · rw [if_pos ht, if_pos ht, Nat.add_assoc]
    · rw [if_neg ht, if_neg ht, if_neg ht]
noncomputable def cFv (a b c d e : Int32) (k : Nat) : Int32 := cby (vf a b c d e k) (24 - 8 * (k % 4))
noncomputable def p_118 (x : Nat) (a b c d e : Int32) (σ : zSg) (r : Int32) (σ' : zSg) : Prop := ∀ t B E : Nat, σ.1 x 0 = .ref t → σ.1 t 0 = .ref B → B ≠ t → x ≠ t → x ≠ B → σ.1 t 1 = .int (Int32.ofNat E) → E ≤ 400 → (E + 20 ≤ 400 → r = Int32.ofNat (E + 20) ∧ σ' = cAp σ t B E (cFv a b c d e) 20) ∧ (400 < E + 20 → r.toInt = -1 ∧ σ' = σ)
theorem cAp_x {σ : zSg} {t B E j : Nat} {f g : Nat → Int32} (h : ∀ i, i < j → f i = g i) : cAp σ t B E f j = cAp σ t B E g j := by
  refine Prod.ext ?_ rfl
  funext c k
  show (if c = B ∧ E ≤ k ∧ k < E + j then Value.int (f (k - E)) else _) = if c = B ∧ E ≤ k ∧ k < E + j then Value.int (g (k - E)) else _
  by_cases h1 : c = B ∧ E ≤ k ∧ k < E + j
  · rw [if_pos h1, if_pos h1, h _ (by omega)]
  · rw [if_neg h1, if_neg h1]
theorem sp_118_et (a0 : Nat) (a1 : Int32) (a2 : Int32) (a3 : Int32) (a4 : Int32) (a5 : Int32) (σ : zSg) (τ2 : zSg) (τ3 : zSg) (τ4 : zSg) (τ5 : zSg) (τ6 : zSg) (h1 : ((q_i (σ.1 (q_r (σ.1 a0 0)) 1)) + (Int32.ofInt (20))).toInt ≤ (400 : Int)) (g2 : p_85 (q_r (σ.1 a0 0)) a1 σ τ2) (g3 : p_85 (q_r (τ2.1 a0 0)) a2 τ2 τ3) (g4 : p_85 (q_r (τ3.1 a0 0)) a3 τ3 τ4) (g5 : p_85 (q_r (τ4.1 a0 0)) a4 τ4 τ5) (g6 : p_85 (q_r (τ5.1 a0 0)) a5 τ5 τ6) :
    p_118 (a0) (a1) (a2) (a3) (a4) (a5) σ (q_i (τ6.1 (q_r (τ6.1 a0 0)) 1)) τ6 := by
  intro t B E hx ht hB hxt hxB hl hE
  have e0 : q_r (σ.1 a0 0) = t := by rw [hx]; rfl
  rw [e0, hl] at h1
  have e1 : (Int32.ofNat E + Int32.ofInt 20).toInt = (E : Int) + 20 := zI_add (o32 (by omega)) (zI_c (by omega) (by omega)) (by omega) (by omega)
  have HX : (Int32.ofNat E + Int32.ofInt 20).toInt ≤ 400 := h1
  rw [e1] at HX
  refine ⟨fun _ => ?_, fun q => by omega⟩
  rw [e0] at g2
  obtain rfl := g2 B E ht hB hl (by omega)
  have kx : ∀ E' f j, q_r ((cAp σ t B E' f j).1 a0 0) = t := fun E' f j => by rw [cAp_ne (fun q => hxB q.1) (fun q => hxt q.1)]; exact e0
  have kt : ∀ E' f j, (cAp σ t B E' f j).1 t 0 = .ref B := fun E' f j => by rw [cAp_ne (fun q => hB q.1.symm) (fun q => by omega)]; exact ht
  rw [kx] at g3
  obtain rfl := g3 B (E + 4) (kt _ _ _) hB (cAp_t hB) (by omega)
  rw [cAp_c hB] at g4
  rw [kx] at g4
  obtain rfl := g4 B (E + 8) (kt _ _ _) hB (cAp_t hB) (by omega)
  rw [cAp_c hB] at g5
  rw [kx] at g5
  obtain rfl := g5 B (E + 12) (kt _ _ _) hB (cAp_t hB) (by omega)
  rw [cAp_c hB] at g6
  rw [kx] at g6
  obtain rfl := g6 B (E + 16) (kt _ _ _) hB (cAp_t hB) (by omega)
  rw [cAp_c hB]
  have q1 : ∀ f, q_i ((cAp σ t B E f (4 + 4 + 4 + 4 + 4)).1 (q_r ((cAp σ t B E f (4 + 4 + 4 + 4 + 4)).1 a0 0)) 1) = Int32.ofNat (E + 20) := fun f => by
    rw [kx]
    rw [cAp_t hB]
    rfl
  refine ⟨q1 _, cAp_x (fun i hi => ?_)⟩
  match i, hi with
  | 0, _ => rfl
  | 1, _ => rfl
  | 2, _ => rfl
  | 3, _ => rfl
  | 4, _ => rfl
  | 5, _ => rfl
  | 6, _ => rfl
  | 7, _ => rfl
  | 8, _ => rfl
  | 9, _ => rfl
  | 10, _ => rfl
  | 11, _ => rfl
  | 12, _ => rfl
  | 13, _ => rfl
  | 14, _ => rfl
  | 15, _ => rfl
  | 16, _ => rfl
  | 17, _ => rfl
  | 18, _ => rfl
  | 19, _ => rfl
  | i + 20, h => omega
theorem sp_118_ef (a0 : Nat) (a1 : Int32) (a2 : Int32) (a3 : Int32) (a4 : Int32) (a5 : Int32) (σ : zSg) (h1 : ((q_i (σ.1 (q_r (σ.1 a0 0)) 1)) + (Int32.ofInt (20))).toInt > (400 : Int)) :
    p_118 (a0) (a1) (a2) (a3) (a4) (a5) σ (Int32.ofInt (-1)) σ := by
  intro t B E hx ht hB hxt hxB hl hE
  have e0 : q_r (σ.1 a0 0) = t := by rw [hx]; rfl
  rw [e0, hl] at h1
  have e1 : (Int32.ofNat E + Int32.ofInt 20).toInt = (E : Int) + 20 := zI_add (o32 (by omega)) (zI_c (by omega) (by omega)) (by omega) (by omega)
  have HX : (Int32.ofNat E + Int32.ofInt 20).toInt > 400 := h1
  rw [e1] at HX
  exact ⟨fun q => by omega, fun _ => ⟨rfl, rfl⟩⟩
noncomputable def qP_118 : zPp := fun as σ o σ' => match as with
  | [a0, a1, a2, a3, a4, a5] => ∃ r, o = .inl (some (.int r)) ∧ p_118 (q_r a0) (q_i a1) (q_i a2) (q_i a3) (q_i a4) (q_i a5) σ r σ'
  | _ => True
set_option maxRecDepth 100000 in
theorem sp_118 {sx : zX} (S85 : zEe sx 85 2 qP_85) : zEe sx 118 6 qP_118 := by
  refine zfle zJ_118 (sps := [(85, 2, qP_85)]) (fun q hq => by
    simp only [List.mem_cons, List.not_mem_nil, or_false] at hq
    rcases hq with rfl
    · exact S85) (fun as σ hl => ?_)
  match as, hl with
  | [a0, a1, a2, a3, a4, a5], _ =>
  refine ⟨[], 400, ?_, ?_⟩
  · exact fun q hq => absurd hq List.not_mem_nil
  · refine And.intro (fun h1 => ?_) (fun h1 => ?_)
    · refine fun o2 τ2 g2 => ?_
      obtain ⟨rfl, g2⟩ := g2
      refine fun o3 τ3 g3 => ?_
      obtain ⟨rfl, g3⟩ := g3
      refine fun o4 τ4 g4 => ?_
      obtain ⟨rfl, g4⟩ := g4
      refine fun o5 τ5 g5 => ?_
      obtain ⟨rfl, g5⟩ := g5
      refine fun o6 τ6 g6 => ?_
      obtain ⟨rfl, g6⟩ := g6
      exact ⟨_, rfl, sp_118_et (q_r a0) (q_i a1) (q_i a2) (q_i a3) (q_i a4) (q_i a5) σ τ2 τ3 τ4 τ5 τ6 (cm5t h1) g2 g3 g4 g5 g6⟩
    · exact ⟨_, rfl, sp_118_ef (q_r a0) (q_i a1) (q_i a2) (q_i a3) (q_i a4) (q_i a5) σ (cm5f h1)⟩
noncomputable def rFv (a b c d e : Int32) (k : Nat) : Int32 := rby (vf a b c d e k) (24 - 8 * (k % 4))
theorem rK20 : (List.range 20).all (fun K => decide ((Int32.ofNat K / Int32.ofInt 4).toNatClampNeg = K / 4) && decide ((Int32.ofInt 24 - Int32.ofInt 8 * (Int32.ofNat K - Int32.ofNat K / Int32.ofInt 4 * Int32.ofInt 4)) = Int32.ofNat (24 - 8 * (K % 4)))) = true := by decide +kernel
theorem rK {K : Nat} (h : K < 20) : (Int32.ofNat K / Int32.ofInt 4).toNatClampNeg = K / 4 ∧ (Int32.ofInt 24 - Int32.ofInt 8 * (Int32.ofNat K - Int32.ofNat K / Int32.ofInt 4 * Int32.ofInt 4)) = Int32.ofNat (24 - 8 * (K % 4)) := by
  have := List.all_eq_true.mp rK20 K (List.mem_range.mpr h)
  rw [Bool.and_eq_true, decide_eq_true_eq, decide_eq_true_eq] at this
  exact this
noncomputable def rFd (σ : zSg) (a B F E : Nat) : Prop := σ.1 a 8 = .ref B ∧ σ.1 a 15 = .ref F ∧ B ≠ a ∧ F ≠ a ∧ F ≠ B ∧ σ.1 a 9 = .int (Int32.ofNat E) ∧ E ≤ 400
noncomputable def rFf (σ σ' : zSg) (a B F E K : Nat) : Prop := σ'.2 = σ.2 ∧ ∀ c k, ¬ (c = a ∧ (k = 0 ∨ k = 9)) → ¬ (c = B ∧ E ≤ k ∧ k < E + K) → c ≠ F → σ'.1 c k = σ.1 c k
noncomputable def p_199 (a : Nat) (v1 v2 v3 v4 v5 : Int32) (σ : zSg) (r : Int32) (σ' : zSg) : Prop := ∀ B F E, rFd σ a B F E → (E + 20 ≤ 400 → r = Int32.ofNat (E + 20) ∧ rFf σ σ' a B F E 20 ∧ σ'.1 a 0 = .int (Int32.ofInt 0) ∧ σ'.1 a 9 = .int (Int32.ofNat (E + 20)) ∧ ∀ k, k < 20 → σ'.1 B (E + k) = .int (rFv v1 v2 v3 v4 v5 k)) ∧ (400 < E + 20 → r.toInt = -1 ∧ σ' = q_w σ a 0 (.int (Int32.ofInt 0)))
noncomputable def i_199 (a : Nat) (v1 v2 v3 v4 v5 : Int32) (σ : zSg) (l0 : Nat) (l6 : Int32) (τ : zSg) : Prop := l0 = a ∧ ∀ B F E, rFd σ a B F E → E + 20 ≤ 400 ∧ ∃ K, K ≤ 20 ∧ l6 = Int32.ofNat K ∧ rFf σ τ a B F E K ∧ τ.1 a 0 = .int (Int32.ofInt 0) ∧ τ.1 a 9 = .int (Int32.ofNat E) ∧ (∀ i, i < 5 → τ.1 F i = .int (vf v1 v2 v3 v4 v5 (4 * i))) ∧ ∀ k, k < K → τ.1 B (E + k) = .int (rFv v1 v2 v3 v4 v5 k)
theorem vf_d {a b c d e : Int32} {k : Nat} : vf a b c d e (4 * (k / 4)) = vf a b c d e k := by
  unfold vf
  rw [Nat.mul_div_cancel_left _ (by omega)]
theorem sp_199_et (a0 : Nat) (a1 : Int32) (a2 : Int32) (a3 : Int32) (a4 : Int32) (a5 : Int32) (σ : zSg) (h1 : ((q_i ((q_w σ a0 0 (.int (Int32.ofInt (0)))).1 a0 9)) + (Int32.ofInt (20))).toInt ≤ (400 : Int)) (h2 : 0 ≤ (Int32.ofInt (0)).toInt ∧ (Int32.ofInt (0)).toInt < ((q_w σ a0 0 (.int (Int32.ofInt (0)))).2.1 (q_r ((q_w σ a0 0 (.int (Int32.ofInt (0)))).1 a0 15)) : Int)) (h3 : 0 ≤ (Int32.ofInt (1)).toInt ∧ (Int32.ofInt (1)).toInt < ((q_w (q_w σ a0 0 (.int (Int32.ofInt (0)))) (q_r ((q_w σ a0 0 (.int (Int32.ofInt (0)))).1 a0 15)) (Int32.ofInt (0)).toNatClampNeg (.int a1)).2.1 (q_r ((q_w (q_w σ a0 0 (.int (Int32.ofInt (0)))) (q_r ((q_w σ a0 0 (.int (Int32.ofInt (0)))).1 a0 15)) (Int32.ofInt (0)).toNatClampNeg (.int a1)).1 a0 15)) : Int)) (h4 : 0 ≤ (Int32.ofInt (2)).toInt ∧ (Int32.ofInt (2)).toInt < ((q_w (q_w (q_w σ a0 0 (.int (Int32.ofInt (0)))) (q_r ((q_w σ a0 0 (.int (Int32.ofInt (0)))).1 a0 15)) (Int32.ofInt (0)).toNatClampNeg (.int a1)) (q_r ((q_w (q_w σ a0 0 (.int (Int32.ofInt (0)))) (q_r ((q_w σ a0 0 (.int (Int32.ofInt (0)))).1 a0 15)) (Int32.ofInt (0)).toNatClampNeg (.int a1)).1 a0 15)) (Int32.ofInt (1)).toNatClampNeg (.int a2)).2.1 (q_r ((q_w (q_w (q_w σ a0 0 (.int (Int32.ofInt (0)))) (q_r ((q_w σ a0 0 (.int (Int32.ofInt (0)))).1 a0 15)) (Int32.ofInt (0)).toNatClampNeg (.int a1)) (q_r ((q_w (q_w σ a0 0 (.int (Int32.ofInt (0)))) (q_r ((q_w σ a0 0 (.int (Int32.ofInt (0)))).1 a0 15)) (Int32.ofInt (0)).toNatClampNeg (.int a1)).1 a0 15)) (Int32.ofInt (1)).toNatClampNeg (.int a2)).1 a0 15)) : Int)) (h5 : 0 ≤ (Int32.ofInt (3)).toInt ∧ (Int32.ofInt (3)).toInt < ((q_w (q_w (q_w (q_w σ a0 0 (.int (Int32.ofInt (0)))) (q_r ((q_w σ a0 0 (.int (Int32.ofInt (0)))).1 a0 15)) (Int32.ofInt (0)).toNatClampNeg (.int a1)) (q_r ((q_w (q_w σ a0 0 (.int (Int32.ofInt (0)))) (q_r ((q_w σ a0 0 (.int (Int32.ofInt (0)))).1 a0 15)) (Int32.ofInt (0)).toNatClampNeg (.int a1)).1 a0 15)) (Int32.ofInt (1)).toNatClampNeg (.int a2)) (q_r ((q_w (q_w (q_w σ a0 0 (.int (Int32.ofInt (0)))) (q_r ((q_w σ a0 0 (.int (Int32.ofInt (0)))).1 a0 15)) (Int32.ofInt (0)).toNatClampNeg (.int a1)) (q_r ((q_w (q_w σ a0 0 (.int (Int32.ofInt (0)))) (q_r ((q_w σ a0 0 (.int (Int32.ofInt (0)))).1 a0 15)) (Int32.ofInt (0)).toNatClampNeg (.int a1)).1 a0 15)) (Int32.ofInt (1)).toNatClampNeg (.int a2)).1 a0 15)) (Int32.ofInt (2)).toNatClampNeg (.int a3)).2.1 (q_r ((q_w (q_w (q_w (q_w σ a0 0 (.int (Int32.ofInt (0)))) (q_r ((q_w σ a0 0 (.int (Int32.ofInt (0)))).1 a0 15)) (Int32.ofInt (0)).toNatClampNeg (.int a1)) (q_r ((q_w (q_w σ a0 0 (.int (Int32.ofInt (0)))) (q_r ((q_w σ a0 0 (.int (Int32.ofInt (0)))).1 a0 15)) (Int32.ofInt (0)).toNatClampNeg (.int a1)).1 a0 15)) (Int32.ofInt (1)).toNatClampNeg (.int a2)) (q_r ((q_w (q_w (q_w σ a0 0 (.int (Int32.ofInt (0)))) (q_r ((q_w σ a0 0 (.int (Int32.ofInt (0)))).1 a0 15)) (Int32.ofInt (0)).toNatClampNeg (.int a1)) (q_r ((q_w (q_w σ a0 0 (.int (Int32.ofInt (0)))) (q_r ((q_w σ a0 0 (.int (Int32.ofInt (0)))).1 a0 15)) (Int32.ofInt (0)).toNatClampNeg (.int a1)).1 a0 15)) (Int32.ofInt (1)).toNatClampNeg (.int a2)).1 a0 15)) (Int32.ofInt (2)).toNatClampNeg (.int a3)).1 a0 15)) : Int)) (h6 : 0 ≤ (Int32.ofInt (4)).toInt ∧ (Int32.ofInt (4)).toInt < ((q_w (q_w (q_w (q_w (q_w σ a0 0 (.int (Int32.ofInt (0)))) (q_r ((q_w σ a0 0 (.int (Int32.ofInt (0)))).1 a0 15)) (Int32.ofInt (0)).toNatClampNeg (.int a1)) (q_r ((q_w (q_w σ a0 0 (.int (Int32.ofInt (0)))) (q_r ((q_w σ a0 0 (.int (Int32.ofInt (0)))).1 a0 15)) (Int32.ofInt (0)).toNatClampNeg (.int a1)).1 a0 15)) (Int32.ofInt (1)).toNatClampNeg (.int a2)) (q_r ((q_w (q_w (q_w σ a0 0 (.int (Int32.ofInt (0)))) (q_r ((q_w σ a0 0 (.int (Int32.ofInt (0)))).1 a0 15)) (Int32.ofInt (0)).toNatClampNeg (.int a1)) (q_r ((q_w (q_w σ a0 0 (.int (Int32.ofInt (0)))) (q_r ((q_w σ a0 0 (.int (Int32.ofInt (0)))).1 a0 15)) (Int32.ofInt (0)).toNatClampNeg (.int a1)).1 a0 15)) (Int32.ofInt (1)).toNatClampNeg (.int a2)).1 a0 15)) (Int32.ofInt (2)).toNatClampNeg (.int a3)) (q_r ((q_w (q_w (q_w (q_w σ a0 0 (.int (Int32.ofInt (0)))) (q_r ((q_w σ a0 0 (.int (Int32.ofInt (0)))).1 a0 15)) (Int32.ofInt (0)).toNatClampNeg (.int a1)) (q_r ((q_w (q_w σ a0 0 (.int (Int32.ofInt (0)))) (q_r ((q_w σ a0 0 (.int (Int32.ofInt (0)))).1 a0 15)) (Int32.ofInt (0)).toNatClampNeg (.int a1)).1 a0 15)) (Int32.ofInt (1)).toNatClampNeg (.int a2)) (q_r ((q_w (q_w (q_w σ a0 0 (.int (Int32.ofInt (0)))) (q_r ((q_w σ a0 0 (.int (Int32.ofInt (0)))).1 a0 15)) (Int32.ofInt (0)).toNatClampNeg (.int a1)) (q_r ((q_w (q_w σ a0 0 (.int (Int32.ofInt (0)))) (q_r ((q_w σ a0 0 (.int (Int32.ofInt (0)))).1 a0 15)) (Int32.ofInt (0)).toNatClampNeg (.int a1)).1 a0 15)) (Int32.ofInt (1)).toNatClampNeg (.int a2)).1 a0 15)) (Int32.ofInt (2)).toNatClampNeg (.int a3)).1 a0 15)) (Int32.ofInt (3)).toNatClampNeg (.int a4)).2.1 (q_r ((q_w (q_w (q_w (q_w (q_w σ a0 0 (.int (Int32.ofInt (0)))) (q_r ((q_w σ a0 0 (.int (Int32.ofInt (0)))).1 a0 15)) (Int32.ofInt (0)).toNatClampNeg (.int a1)) (q_r ((q_w (q_w σ a0 0 (.int (Int32.ofInt (0)))) (q_r ((q_w σ a0 0 (.int (Int32.ofInt (0)))).1 a0 15)) (Int32.ofInt (0)).toNatClampNeg (.int a1)).1 a0 15)) (Int32.ofInt (1)).toNatClampNeg (.int a2)) (q_r ((q_w (q_w (q_w σ a0 0 (.int (Int32.ofInt (0)))) (q_r ((q_w σ a0 0 (.int (Int32.ofInt (0)))).1 a0 15)) (Int32.ofInt (0)).toNatClampNeg (.int a1)) (q_r ((q_w (q_w σ a0 0 (.int (Int32.ofInt (0)))) (q_r ((q_w σ a0 0 (.int (Int32.ofInt (0)))).1 a0 15)) (Int32.ofInt (0)).toNatClampNeg (.int a1)).1 a0 15)) (Int32.ofInt (1)).toNatClampNeg (.int a2)).1 a0 15)) (Int32.ofInt (2)).toNatClampNeg (.int a3)) (q_r ((q_w (q_w (q_w (q_w σ a0 0 (.int (Int32.ofInt (0)))) (q_r ((q_w σ a0 0 (.int (Int32.ofInt (0)))).1 a0 15)) (Int32.ofInt (0)).toNatClampNeg (.int a1)) (q_r ((q_w (q_w σ a0 0 (.int (Int32.ofInt (0)))) (q_r ((q_w σ a0 0 (.int (Int32.ofInt (0)))).1 a0 15)) (Int32.ofInt (0)).toNatClampNeg (.int a1)).1 a0 15)) (Int32.ofInt (1)).toNatClampNeg (.int a2)) (q_r ((q_w (q_w (q_w σ a0 0 (.int (Int32.ofInt (0)))) (q_r ((q_w σ a0 0 (.int (Int32.ofInt (0)))).1 a0 15)) (Int32.ofInt (0)).toNatClampNeg (.int a1)) (q_r ((q_w (q_w σ a0 0 (.int (Int32.ofInt (0)))) (q_r ((q_w σ a0 0 (.int (Int32.ofInt (0)))).1 a0 15)) (Int32.ofInt (0)).toNatClampNeg (.int a1)).1 a0 15)) (Int32.ofInt (1)).toNatClampNeg (.int a2)).1 a0 15)) (Int32.ofInt (2)).toNatClampNeg (.int a3)).1 a0 15)) (Int32.ofInt (3)).toNatClampNeg (.int a4)).1 a0 15)) : Int)) :
    i_199 a0 a1 a2 a3 a4 a5 σ a0 (Int32.ofInt (0)) (q_w (q_w (q_w (q_w (q_w (q_w σ a0 0 (.int (Int32.ofInt (0)))) (q_r ((q_w σ a0 0 (.int (Int32.ofInt (0)))).1 a0 15)) (Int32.ofInt (0)).toNatClampNeg (.int a1)) (q_r ((q_w (q_w σ a0 0 (.int (Int32.ofInt (0)))) (q_r ((q_w σ a0 0 (.int (Int32.ofInt (0)))).1 a0 15)) (Int32.ofInt (0)).toNatClampNeg (.int a1)).1 a0 15)) (Int32.ofInt (1)).toNatClampNeg (.int a2)) (q_r ((q_w (q_w (q_w σ a0 0 (.int (Int32.ofInt (0)))) (q_r ((q_w σ a0 0 (.int (Int32.ofInt (0)))).1 a0 15)) (Int32.ofInt (0)).toNatClampNeg (.int a1)) (q_r ((q_w (q_w σ a0 0 (.int (Int32.ofInt (0)))) (q_r ((q_w σ a0 0 (.int (Int32.ofInt (0)))).1 a0 15)) (Int32.ofInt (0)).toNatClampNeg (.int a1)).1 a0 15)) (Int32.ofInt (1)).toNatClampNeg (.int a2)).1 a0 15)) (Int32.ofInt (2)).toNatClampNeg (.int a3)) (q_r ((q_w (q_w (q_w (q_w σ a0 0 (.int (Int32.ofInt (0)))) (q_r ((q_w σ a0 0 (.int (Int32.ofInt (0)))).1 a0 15)) (Int32.ofInt (0)).toNatClampNeg (.int a1)) (q_r ((q_w (q_w σ a0 0 (.int (Int32.ofInt (0)))) (q_r ((q_w σ a0 0 (.int (Int32.ofInt (0)))).1 a0 15)) (Int32.ofInt (0)).toNatClampNeg (.int a1)).1 a0 15)) (Int32.ofInt (1)).toNatClampNeg (.int a2)) (q_r ((q_w (q_w (q_w σ a0 0 (.int (Int32.ofInt (0)))) (q_r ((q_w σ a0 0 (.int (Int32.ofInt (0)))).1 a0 15)) (Int32.ofInt (0)).toNatClampNeg (.int a1)) (q_r ((q_w (q_w σ a0 0 (.int (Int32.ofInt (0)))) (q_r ((q_w σ a0 0 (.int (Int32.ofInt (0)))).1 a0 15)) (Int32.ofInt (0)).toNatClampNeg (.int a1)).1 a0 15)) (Int32.ofInt (1)).toNatClampNeg (.int a2)).1 a0 15)) (Int32.ofInt (2)).toNatClampNeg (.int a3)).1 a0 15)) (Int32.ofInt (3)).toNatClampNeg (.int a4)) (q_r ((q_w (q_w (q_w (q_w (q_w σ a0 0 (.int (Int32.ofInt (0)))) (q_r ((q_w σ a0 0 (.int (Int32.ofInt (0)))).1 a0 15)) (Int32.ofInt (0)).toNatClampNeg (.int a1)) (q_r ((q_w (q_w σ a0 0 (.int (Int32.ofInt (0)))) (q_r ((q_w σ a0 0 (.int (Int32.ofInt (0)))).1 a0 15)) (Int32.ofInt (0)).toNatClampNeg (.int a1)).1 a0 15)) (Int32.ofInt (1)).toNatClampNeg (.int a2)) (q_r ((q_w (q_w (q_w σ a0 0 (.int (Int32.ofInt (0)))) (q_r ((q_w σ a0 0 (.int (Int32.ofInt (0)))).1 a0 15)) (Int32.ofInt (0)).toNatClampNeg (.int a1)) (q_r ((q_w (q_w σ a0 0 (.int (Int32.ofInt (0)))) (q_r ((q_w σ a0 0 (.int (Int32.ofInt (0)))).1 a0 15)) (Int32.ofInt (0)).toNatClampNeg (.int a1)).1 a0 15)) (Int32.ofInt (1)).toNatClampNeg (.int a2)).1 a0 15)) (Int32.ofInt (2)).toNatClampNeg (.int a3)) (q_r ((q_w (q_w (q_w (q_w σ a0 0 (.int (Int32.ofInt (0)))) (q_r ((q_w σ a0 0 (.int (Int32.ofInt (0)))).1 a0 15)) (Int32.ofInt (0)).toNatClampNeg (.int a1)) (q_r ((q_w (q_w σ a0 0 (.int (Int32.ofInt (0)))) (q_r ((q_w σ a0 0 (.int (Int32.ofInt (0)))).1 a0 15)) (Int32.ofInt (0)).toNatClampNeg (.int a1)).1 a0 15)) (Int32.ofInt (1)).toNatClampNeg (.int a2)) (q_r ((q_w (q_w (q_w σ a0 0 (.int (Int32.ofInt (0)))) (q_r ((q_w σ a0 0 (.int (Int32.ofInt (0)))).1 a0 15)) (Int32.ofInt (0)).toNatClampNeg (.int a1)) (q_r ((q_w (q_w σ a0 0 (.int (Int32.ofInt (0)))) (q_r ((q_w σ a0 0 (.int (Int32.ofInt (0)))).1 a0 15)) (Int32.ofInt (0)).toNatClampNeg (.int a1)).1 a0 15)) (Int32.ofInt (1)).toNatClampNeg (.int a2)).1 a0 15)) (Int32.ofInt (2)).toNatClampNeg (.int a3)).1 a0 15)) (Int32.ofInt (3)).toNatClampNeg (.int a4)).1 a0 15)) (Int32.ofInt (4)).toNatClampNeg (.int a5)) := by
  refine ⟨rfl, fun B F E H => ?_⟩
  obtain ⟨x8, x15, hB, hFa, hFB, x9, hE⟩ := H
  rw [q_w_ne (fun _ q => by omega), x9] at h1
  have e1 : (Int32.ofNat E + Int32.ofInt 20).toInt = (E : Int) + 20 := zI_add (o32 (by omega)) (zI_c (by omega) (by omega)) (by omega) (by omega)
  have HX : (Int32.ofNat E + Int32.ofInt 20).toInt ≤ 400 := h1
  rw [e1] at HX
  refine ⟨by omega, 0, by omega, rfl, ?_⟩
  have s0 : (q_w σ a0 0 (.int (Int32.ofInt (0)))).1 a0 15 = .ref F := by rw [q_w_ne (fun _ q => by omega)]; exact x15
  have s1 : (q_w (q_w σ a0 0 (.int (Int32.ofInt (0)))) F (Int32.ofInt (0)).toNatClampNeg (.int a1)).1 a0 15 = .ref F := by rw [q_w_ne (fun q _ => hFa q.symm)]; exact s0
  have s2 : (q_w (q_w (q_w σ a0 0 (.int (Int32.ofInt (0)))) F (Int32.ofInt (0)).toNatClampNeg (.int a1)) F (Int32.ofInt (1)).toNatClampNeg (.int a2)).1 a0 15 = .ref F := by rw [q_w_ne (fun q _ => hFa q.symm)]; exact s1
  have s3 : (q_w (q_w (q_w (q_w σ a0 0 (.int (Int32.ofInt (0)))) F (Int32.ofInt (0)).toNatClampNeg (.int a1)) F (Int32.ofInt (1)).toNatClampNeg (.int a2)) F (Int32.ofInt (2)).toNatClampNeg (.int a3)).1 a0 15 = .ref F := by rw [q_w_ne (fun q _ => hFa q.symm)]; exact s2
  have s4 : (q_w (q_w (q_w (q_w (q_w σ a0 0 (.int (Int32.ofInt (0)))) F (Int32.ofInt (0)).toNatClampNeg (.int a1)) F (Int32.ofInt (1)).toNatClampNeg (.int a2)) F (Int32.ofInt (2)).toNatClampNeg (.int a3)) F (Int32.ofInt (3)).toNatClampNeg (.int a4)).1 a0 15 = .ref F := by rw [q_w_ne (fun q _ => hFa q.symm)]; exact s3
  have s5 : (q_w (q_w (q_w (q_w (q_w (q_w σ a0 0 (.int (Int32.ofInt (0)))) F (Int32.ofInt (0)).toNatClampNeg (.int a1)) F (Int32.ofInt (1)).toNatClampNeg (.int a2)) F (Int32.ofInt (2)).toNatClampNeg (.int a3)) F (Int32.ofInt (3)).toNatClampNeg (.int a4)) F (Int32.ofInt (4)).toNatClampNeg (.int a5)).1 a0 15 = .ref F := by rw [q_w_ne (fun q _ => hFa q.symm)]; exact s4
  have r0 : q_r ((q_w σ a0 0 (.int (Int32.ofInt (0)))).1 a0 15) = F := by rw [s0]; rfl
  have r1 : q_r ((q_w (q_w σ a0 0 (.int (Int32.ofInt (0)))) F (Int32.ofInt (0)).toNatClampNeg (.int a1)).1 a0 15) = F := by rw [s1]; rfl
  have r2 : q_r ((q_w (q_w (q_w σ a0 0 (.int (Int32.ofInt (0)))) F (Int32.ofInt (0)).toNatClampNeg (.int a1)) F (Int32.ofInt (1)).toNatClampNeg (.int a2)).1 a0 15) = F := by rw [s2]; rfl
  have r3 : q_r ((q_w (q_w (q_w (q_w σ a0 0 (.int (Int32.ofInt (0)))) F (Int32.ofInt (0)).toNatClampNeg (.int a1)) F (Int32.ofInt (1)).toNatClampNeg (.int a2)) F (Int32.ofInt (2)).toNatClampNeg (.int a3)).1 a0 15) = F := by rw [s3]; rfl
  have r4 : q_r ((q_w (q_w (q_w (q_w (q_w σ a0 0 (.int (Int32.ofInt (0)))) F (Int32.ofInt (0)).toNatClampNeg (.int a1)) F (Int32.ofInt (1)).toNatClampNeg (.int a2)) F (Int32.ofInt (2)).toNatClampNeg (.int a3)) F (Int32.ofInt (3)).toNatClampNeg (.int a4)).1 a0 15) = F := by rw [s4]; rfl
  rw [r0, r1, r2, r3, r4]
  have k0 : (Int32.ofInt (0)).toNatClampNeg = 0 := rfl
  have k1 : (Int32.ofInt (1)).toNatClampNeg = 1 := rfl
  have k2 : (Int32.ofInt (2)).toNatClampNeg = 2 := rfl
  have k3 : (Int32.ofInt (3)).toNatClampNeg = 3 := rfl
  have k4 : (Int32.ofInt (4)).toNatClampNeg = 4 := rfl
  rw [k0, k1, k2, k3, k4]
  have go : ∀ c k, c ≠ F → (q_w (q_w (q_w (q_w (q_w (q_w σ a0 0 (.int (Int32.ofInt (0)))) F 0 (.int a1)) F 1 (.int a2)) F 2 (.int a3)) F 3 (.int a4)) F 4 (.int a5)).1 c k = (q_w σ a0 0 (.int (Int32.ofInt (0)))).1 c k := by
    intro c k q
    rw [q_w_ne (fun e _ => q e), q_w_ne (fun e _ => q e), q_w_ne (fun e _ => q e), q_w_ne (fun e _ => q e), q_w_ne (fun e _ => q e)]
  refine ⟨⟨rfl, fun c k q1 q2 q3 => ?_⟩, ?_, ?_, ?_, fun k hk => by omega⟩
  · rw [go c k q3, q_w_ne (fun e1 e2 => q1 ⟨e1, by omega⟩)]
  · rw [go _ _ (fun q => hFa q.symm), q_w_at]
  · rw [go _ _ (fun q => hFa q.symm), q_w_ne (fun _ q => by omega)]; exact x9
  · intro i hi
    match i, hi with
    | 0, _ => rw [q_w_ne (fun _ q => by omega), q_w_ne (fun _ q => by omega), q_w_ne (fun _ q => by omega), q_w_ne (fun _ q => by omega), q_w_at]; rfl
    | 1, _ => rw [q_w_ne (fun _ q => by omega), q_w_ne (fun _ q => by omega), q_w_ne (fun _ q => by omega), q_w_at]; rfl
    | 2, _ => rw [q_w_ne (fun _ q => by omega), q_w_ne (fun _ q => by omega), q_w_at]; rfl
    | 3, _ => rw [q_w_ne (fun _ q => by omega), q_w_at]; rfl
    | 4, _ => rw [q_w_at]; rfl
    | i + 5, h => omega
theorem sp_199_ef (a0 : Nat) (a1 : Int32) (a2 : Int32) (a3 : Int32) (a4 : Int32) (a5 : Int32) (σ : zSg) (h1 : ((q_i ((q_w σ a0 0 (.int (Int32.ofInt (0)))).1 a0 9)) + (Int32.ofInt (20))).toInt > (400 : Int)) :
    p_199 (a0) (a1) (a2) (a3) (a4) (a5) σ (Int32.ofInt (-1)) (q_w σ a0 0 (.int (Int32.ofInt (0)))) := by
  intro B F E H
  obtain ⟨x8, x15, hB, hFa, hFB, x9, hE⟩ := H
  rw [q_w_ne (fun _ q => by omega), x9] at h1
  have e1 : (Int32.ofNat E + Int32.ofInt 20).toInt = (E : Int) + 20 := zI_add (o32 (by omega)) (zI_c (by omega) (by omega)) (by omega) (by omega)
  have HX : (Int32.ofNat E + Int32.ofInt 20).toInt > 400 := h1
  rw [e1] at HX
  exact ⟨fun q => by omega, fun _ => ⟨rfl, rfl⟩⟩
theorem sp_199_c38_t (a0 : Nat) (a1 : Int32) (a2 : Int32) (a3 : Int32) (a4 : Int32) (a5 : Int32) (σ : zSg) (l0 : Nat) (l6 : Int32) (τ : zSg) (hI : i_199 a0 a1 a2 a3 a4 a5 σ l0 l6 τ) (h7 : l6.toInt ≥ (20 : Int)) :
    p_199 (a0) (a1) (a2) (a3) (a4) (a5) σ (q_i ((q_w τ l0 9 (.int ((q_i (τ.1 l0 9)) + (Int32.ofInt (20))))).1 l0 9)) (q_w τ l0 9 (.int ((q_i (τ.1 l0 9)) + (Int32.ofInt (20))))) := by
  obtain ⟨rfl, G⟩ := hI
  intro B F E H
  obtain ⟨hE, K, hK, rfl, ⟨f1, f2⟩, z0, z9, hf, hb⟩ := G B F E H
  obtain ⟨x8, x15, hB, hFa, hFB, x9, hE4⟩ := H
  rw [o32 (by omega)] at h7
  have hK2 : K = 20 := by omega
  subst hK2
  have e9 : q_i (τ.1 l0 9) + Int32.ofInt 20 = Int32.ofNat (E + 20) := by
    rw [z9]
    exact Int32.toInt_inj.mp (by rw [show q_i (.int (Int32.ofNat E)) = Int32.ofNat E from rfl, zI_add (o32 (by omega)) (zI_c (by omega) (by omega)) (by omega) (by omega), o32 (by omega)]; omega)
  rw [e9, q_w_at]
  refine ⟨fun _ => ⟨rfl, ⟨f1, fun c k q1 q2 q3 => ?_⟩, ?_, rfl, fun k hk => ?_⟩, fun q => by omega⟩
  · rw [q_w_ne (fun e1 e2 => q1 ⟨e1, by omega⟩)]; exact f2 c k q1 q2 q3
  · rw [q_w_ne (fun _ q => by omega)]; exact z0
  · rw [q_w_ne (fun q _ => hB q)]; exact hb k hk
theorem sp_199_c38_f (a0 : Nat) (a1 : Int32) (a2 : Int32) (a3 : Int32) (a4 : Int32) (a5 : Int32) (σ : zSg) (l0 : Nat) (l6 : Int32) (τ : zSg) (hI : i_199 a0 a1 a2 a3 a4 a5 σ l0 l6 τ) (h7 : l6.toInt < (20 : Int)) (h8 : 0 ≤ (l6 / (Int32.ofInt (4))).toInt ∧ (l6 / (Int32.ofInt (4))).toInt < (τ.2.1 (q_r (τ.1 l0 15)) : Int)) (h9 : 0 ≤ ((q_i (τ.1 l0 9)) + l6).toInt ∧ ((q_i (τ.1 l0 9)) + l6).toInt < (τ.2.1 (q_r (τ.1 l0 8)) : Int)) :
    i_199 a0 a1 a2 a3 a4 a5 σ l0 (l6 + Int32.ofInt (1)) (q_w τ (q_r (τ.1 l0 8)) ((q_i (τ.1 l0 9)) + l6).toNatClampNeg (.int (vp_nar .byte (((q_i (τ.1 (q_r (τ.1 l0 15)) (l6 / (Int32.ofInt (4))).toNatClampNeg)) >>> (((Int32.ofInt (24)) - ((Int32.ofInt (8)) * (l6 - l6 / (Int32.ofInt (4)) * (Int32.ofInt (4))))) &&& 31)).toInt8.toInt32)))) := by
  obtain ⟨rfl, G⟩ := hI
  refine ⟨rfl, fun B F E H => ?_⟩
  obtain ⟨hE, K, hK, rfl, ⟨f1, f2⟩, z0, z9, hf, hb⟩ := G B F E H
  obtain ⟨x8, x15, hB, hFa, hFB, x9, hE4⟩ := H
  rw [o32 (by omega)] at h7
  obtain ⟨c1, c2⟩ := rK (K := K) (by omega)
  have q8 : q_r (τ.1 l0 8) = B := by rw [f2 l0 8 (fun q => by omega) (fun q => hB q.1.symm) (fun q => hFa q.symm), x8]; rfl
  have q15 : q_r (τ.1 l0 15) = F := by rw [f2 l0 15 (fun q => by omega) (fun q => hB q.1.symm) (fun q => hFa q.symm), x15]; rfl
  have e9 : q_i (τ.1 l0 9) + Int32.ofNat K = Int32.ofNat (E + K) := by
    rw [z9]
    exact o32a (by omega)
  have ev : q_i (τ.1 F (K / 4)) = vf a1 a2 a3 a4 a5 K := by
    rw [hf (K / 4) (by omega), vf_d]; rfl
  rw [q8, q15, e9, o32n (by omega), c1, c2, ev]
  refine ⟨hE, K + 1, by omega, o32i (by omega), ⟨f1, fun c k q1 q2 q3 => ?_⟩, ?_, ?_, fun i hi => ?_, fun k hk => ?_⟩
  · rw [q_w_ne (fun e1 e2 => q2 ⟨e1, by omega⟩)]; exact f2 c k q1 (fun q => q2 ⟨q.1, by omega⟩) q3
  · rw [q_w_ne (fun q _ => hB q.symm)]; exact z0
  · rw [q_w_ne (fun q _ => hB q.symm)]; exact z9
  · rw [q_w_ne (fun q _ => hFB q)]; exact hf i hi
  · by_cases hk2 : k = K
    · subst hk2
      rw [q_w_at]
      rfl
    · rw [q_w_ne (fun _ q => by omega)]; exact hb k (by omega)
noncomputable def qP_199 : zPp := fun as σ o σ' => match as with
  | [a0, a1, a2, a3, a4, a5] => ∃ r, o = .inl (some (.int r)) ∧ p_199 (q_r a0) (q_i a1) (q_i a2) (q_i a3) (q_i a4) (q_i a5) σ r σ'
  | _ => True
set_option maxRecDepth 100000 in
theorem sp_199 {sx : zX}  : zEe sx 199 6 qP_199 := by
  refine zfle zJ_199 (sps := []) (fun q hq => absurd hq List.not_mem_nil) (fun as σ hl => ?_)
  match as, hl with
  | [a0, a1, a2, a3, a4, a5], _ =>
  refine ⟨[(38, fun lo st τ => st = [] ∧ i_199 (q_r a0) (q_i a1) (q_i a2) (q_i a3) (q_i a4) (q_i a5) σ (q_r (lo 0)) (q_i (lo 6)) τ)], 400, ?_, ?_⟩
  · intro q hq
    simp only [List.mem_cons, List.not_mem_nil, or_false] at hq
    rcases hq with rfl
    · rintro lo st τ ⟨rfl, hI⟩
      refine ⟨400, ?_⟩
      refine And.intro (fun h7 => ?_) (fun h7 => ?_)
      · exact ⟨_, rfl, sp_199_c38_t (q_r a0) (q_i a1) (q_i a2) (q_i a3) (q_i a4) (q_i a5) σ (q_r (lo 0)) (q_i (lo 6)) τ hI (cm3t h7)⟩
      · refine fun h8 => ?_
        refine fun h9 => ?_
        exact ⟨rfl, sp_199_c38_f (q_r a0) (q_i a1) (q_i a2) (q_i a3) (q_i a4) (q_i a5) σ (q_r (lo 0)) (q_i (lo 6)) τ hI (cm3f h7) (q_inp h8) (q_inp h9)⟩
  · refine And.intro (fun h1 => ?_) (fun h1 => ?_)
    · refine fun h2 => ?_
      refine fun h3 => ?_
      refine fun h4 => ?_
      refine fun h5 => ?_
      refine fun h6 => ?_
      exact ⟨rfl, sp_199_et (q_r a0) (q_i a1) (q_i a2) (q_i a3) (q_i a4) (q_i a5) σ (cm5t h1) (q_inp h2) (q_inp h3) (q_inp h4) (q_inp h5) (q_inp h6)⟩
    · exact ⟨_, rfl, sp_199_ef (q_r a0) (q_i a1) (q_i a2) (q_i a3) (q_i a4) (q_i a5) σ (cm5f h1)⟩
