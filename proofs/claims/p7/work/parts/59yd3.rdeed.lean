/-! the reference's texts of a deed, exact; printed with wip/gen/gen_d2.py -/
noncomputable def p_229d (a : Nat) (dd n : Int32) (σ : zSg) (r : Int32) (σ' : zSg) : Prop := a = 205 → dd.toInt ≠ 0 → ∀ b P E nf nt A N, rD σ b P E A → A 0 = Int32.ofNat nf → nf ≤ 6 → A 1 = Int32.ofNat nt → nt ≤ 8 → n = Int32.ofNat N → N ≤ 14 → rDF σ σ' ∧ (N = 14 → r.toInt = 0 ∧ σ'.1 205 12 = .int (Int32.ofNat (zBl b E P))) ∧ (N < 14 → rOL σ' b E nf nt A r (dLine b E nf nt (zBl b E P)))
theorem sd_229_ett (a0 : Nat) (a1 : Int32) (a2 : Int32) (σ : zSg) (τ1 : zSg) (g1 : p_203 a0 σ τ1) (h2 : a1.toInt = (0 : Int)) (h3 : a2.toInt ≥ (12 : Int)) :
    p_229d (a0) (a1) (a2) σ (Int32.ofInt (0)) τ1 := by
  intro _ hd
  exact absurd h2 hd
theorem sd_229_etftt (a0 : Nat) (a1 : Int32) (a2 : Int32) (σ : zSg) (τ1 : zSg) (τ5 : zSg) (r5 : Int32) (g1 : p_203 a0 σ τ1) (h2 : a1.toInt = (0 : Int)) (h3 : a2.toInt < (12 : Int)) (h4 : a1.toInt = (0 : Int)) (g5 : p_228 a0 a2 τ1 r5 τ5) (h6 : r5.toInt = (0 : Int)) :
    p_229d (a0) (a1) (a2) σ (Int32.ofInt (0)) τ5 := by
  intro _ hd
  exact absurd h2 hd
theorem sd_229_etftf (a0 : Nat) (a1 : Int32) (a2 : Int32) (σ : zSg) (τ1 : zSg) (τ5 : zSg) (r5 : Int32) (g1 : p_203 a0 σ τ1) (h2 : a1.toInt = (0 : Int)) (h3 : a2.toInt < (12 : Int)) (h4 : a1.toInt = (0 : Int)) (g5 : p_228 a0 a2 τ1 r5 τ5) (h6 : r5.toInt ≠ (0 : Int)) :
    p_229d (a0) (a1) (a2) σ (Int32.ofInt (1)) τ5 := by
  intro _ hd
  exact absurd h2 hd
theorem sd_229_etfft (a0 : Nat) (a1 : Int32) (a2 : Int32) (σ : zSg) (τ1 : zSg) (τ7 : zSg) (r7 : Int32) (g1 : p_203 a0 σ τ1) (h2 : a1.toInt = (0 : Int)) (h3 : a2.toInt < (12 : Int)) (h4 : a1.toInt ≠ (0 : Int)) (g7 : p_220 a0 τ1 r7 τ7) (h8 : r7.toInt = (0 : Int)) :
    p_229d (a0) (a1) (a2) σ (Int32.ofInt (0)) τ7 := by
  intro _ hd
  exact absurd h2 hd
theorem sd_229_etfff (a0 : Nat) (a1 : Int32) (a2 : Int32) (σ : zSg) (τ1 : zSg) (τ7 : zSg) (r7 : Int32) (g1 : p_203 a0 σ τ1) (h2 : a1.toInt = (0 : Int)) (h3 : a2.toInt < (12 : Int)) (h4 : a1.toInt ≠ (0 : Int)) (g7 : p_220 a0 τ1 r7 τ7) (h8 : r7.toInt ≠ (0 : Int)) :
    p_229d (a0) (a1) (a2) σ (Int32.ofInt (1)) τ7 := by
  intro _ hd
  exact absurd h2 hd
theorem sd_229_eft (a0 : Nat) (a1 : Int32) (a2 : Int32) (σ : zSg) (τ1 : zSg) (g1 : p_203 a0 σ τ1) (h2 : a1.toInt ≠ (0 : Int)) (h9 : a2.toInt ≥ (14 : Int)) :
    p_229d (a0) (a1) (a2) σ (Int32.ofInt (0)) τ1 := by
  rintro rfl hd b P E nf nt A N H h0 hf h1 ht rfl hN
  obtain ⟨f1, t12, H1⟩ := H.lt g1
  rw [o32 (by omega)] at h9
  exact ⟨f1, fun _ => ⟨rfl, t12⟩, fun q => by omega⟩
theorem sd_229_efftt (a0 : Nat) (a1 : Int32) (a2 : Int32) (σ : zSg) (τ1 : zSg) (τ11 : zSg) (r11 : Int32) (g1 : p_203 a0 σ τ1) (h2 : a1.toInt ≠ (0 : Int)) (h9 : a2.toInt < (14 : Int)) (h10 : a1.toInt = (0 : Int)) (g11 : p_228 a0 a2 τ1 r11 τ11) (h12 : r11.toInt = (0 : Int)) :
    p_229d (a0) (a1) (a2) σ (Int32.ofInt (0)) τ11 := by
  exact absurd h10 h2
theorem sd_229_efftf (a0 : Nat) (a1 : Int32) (a2 : Int32) (σ : zSg) (τ1 : zSg) (τ11 : zSg) (r11 : Int32) (g1 : p_203 a0 σ τ1) (h2 : a1.toInt ≠ (0 : Int)) (h9 : a2.toInt < (14 : Int)) (h10 : a1.toInt = (0 : Int)) (g11 : p_228 a0 a2 τ1 r11 τ11) (h12 : r11.toInt ≠ (0 : Int)) :
    p_229d (a0) (a1) (a2) σ (Int32.ofInt (1)) τ11 := by
  exact absurd h10 h2
theorem sd_229_effft (a0 : Nat) (a1 : Int32) (a2 : Int32) (σ : zSg) (τ1 : zSg) (τ13 : zSg) (r13 : Int32) (g1 : p_203 a0 σ τ1) (h2 : a1.toInt ≠ (0 : Int)) (h9 : a2.toInt < (14 : Int)) (h10 : a1.toInt ≠ (0 : Int)) (g13 : p_220 a0 τ1 r13 τ13) (h14 : r13.toInt = (0 : Int)) :
    p_229d (a0) (a1) (a2) σ (Int32.ofInt (0)) τ13 := by
  rintro rfl hd b P E nf nt A N H h0 hf h1 ht rfl hN
  obtain ⟨f1, t12, H1⟩ := H.lt g1
  rw [o32 (by omega)] at h9
  obtain ⟨f2, g⟩ := g13 rfl b _ E nf nt A ⟨H1, t12, h0, hf, h1, ht⟩
  refine ⟨f1.tr f2, fun q => by omega, fun _ => ?_⟩
  cases hR : dLine b E nf nt (zBl b E P) with
  | inl q => rw [hR] at g; exact absurd h14 g.1
  | inr F => rw [hR] at g; exact ⟨rfl, g.2⟩
theorem sd_229_effff (a0 : Nat) (a1 : Int32) (a2 : Int32) (σ : zSg) (τ1 : zSg) (τ13 : zSg) (r13 : Int32) (g1 : p_203 a0 σ τ1) (h2 : a1.toInt ≠ (0 : Int)) (h9 : a2.toInt < (14 : Int)) (h10 : a1.toInt ≠ (0 : Int)) (g13 : p_220 a0 τ1 r13 τ13) (h14 : r13.toInt ≠ (0 : Int)) :
    p_229d (a0) (a1) (a2) σ (Int32.ofInt (1)) τ13 := by
  rintro rfl hd b P E nf nt A N H h0 hf h1 ht rfl hN
  obtain ⟨f1, t12, H1⟩ := H.lt g1
  rw [o32 (by omega)] at h9
  obtain ⟨f2, g⟩ := g13 rfl b _ E nf nt A ⟨H1, t12, h0, hf, h1, ht⟩
  refine ⟨f1.tr f2, fun q => by omega, fun _ => ?_⟩
  cases hR : dLine b E nf nt (zBl b E P) with
  | inl q => rw [hR] at g; exact ⟨by decide, g.2⟩
  | inr F => rw [hR] at g; exact absurd g.1 h14
noncomputable def qP_229d : zPp := fun as σ o σ' => match as with
  | [a0, a1, a2] => ∃ r, o = .inl (some (.int r)) ∧ p_229d (q_r a0) (q_i a1) (q_i a2) σ r σ'
  | _ => True
set_option maxRecDepth 100000 in
theorem sd_229 {sx : zX} (S203 : zEe sx 203 1 qP_203) (S228 : zEe sx 228 2 qP_228) (S220 : zEe sx 220 1 qP_220) : zEe sx 229 3 qP_229d := by
  refine zfle zJ_229 (sps := [(203, 1, qP_203), (228, 2, qP_228), (220, 1, qP_220)]) (fun q hq => by
    simp only [List.mem_cons, List.not_mem_nil, or_false] at hq
    rcases hq with rfl | rfl | rfl
    · exact S203
    · exact S228
    · exact S220) (fun as σ hl => ?_)
  match as, hl with
  | [a0, a1, a2], _ =>
  refine ⟨[], 400, ?_, ?_⟩
  · exact fun q hq => absurd hq List.not_mem_nil
  · refine fun o1 τ1 g1 => ?_
    obtain ⟨rfl, g1⟩ := g1
    refine And.intro (fun h2 => ?_) (fun h2 => ?_)
    · refine And.intro (fun h3 => ?_) (fun h3 => ?_)
      · exact ⟨_, rfl, sd_229_ett (q_r a0) (q_i a1) (q_i a2) σ τ1 g1 (cm0t h2) (cm3t h3)⟩
      · refine And.intro (fun h4 => ?_) (fun h4 => ?_)
        · refine fun o5 τ5 g5 => ?_
          obtain ⟨r5, rfl, g5⟩ := g5
          refine And.intro (fun h6 => ?_) (fun h6 => ?_)
          · exact ⟨_, rfl, sd_229_etftt (q_r a0) (q_i a1) (q_i a2) σ τ1 τ5 r5 g1 (cm0t h2) (cm3f h3) (cm0t h4) g5 (cm0t h6)⟩
          · exact ⟨_, rfl, sd_229_etftf (q_r a0) (q_i a1) (q_i a2) σ τ1 τ5 r5 g1 (cm0t h2) (cm3f h3) (cm0t h4) g5 (cm0f h6)⟩
        · refine fun o7 τ7 g7 => ?_
          obtain ⟨r7, rfl, g7⟩ := g7
          refine And.intro (fun h8 => ?_) (fun h8 => ?_)
          · exact ⟨_, rfl, sd_229_etfft (q_r a0) (q_i a1) (q_i a2) σ τ1 τ7 r7 g1 (cm0t h2) (cm3f h3) (cm0f h4) g7 (cm0t h8)⟩
          · exact ⟨_, rfl, sd_229_etfff (q_r a0) (q_i a1) (q_i a2) σ τ1 τ7 r7 g1 (cm0t h2) (cm3f h3) (cm0f h4) g7 (cm0f h8)⟩
    · refine And.intro (fun h9 => ?_) (fun h9 => ?_)
      · exact ⟨_, rfl, sd_229_eft (q_r a0) (q_i a1) (q_i a2) σ τ1 g1 (cm0f h2) (cm3t h9)⟩
      · refine And.intro (fun h10 => ?_) (fun h10 => ?_)
        · refine fun o11 τ11 g11 => ?_
          obtain ⟨r11, rfl, g11⟩ := g11
          refine And.intro (fun h12 => ?_) (fun h12 => ?_)
          · exact ⟨_, rfl, sd_229_efftt (q_r a0) (q_i a1) (q_i a2) σ τ1 τ11 r11 g1 (cm0f h2) (cm3f h9) (cm0t h10) g11 (cm0t h12)⟩
          · exact ⟨_, rfl, sd_229_efftf (q_r a0) (q_i a1) (q_i a2) σ τ1 τ11 r11 g1 (cm0f h2) (cm3f h9) (cm0t h10) g11 (cm0f h12)⟩
        · refine fun o13 τ13 g13 => ?_
          obtain ⟨r13, rfl, g13⟩ := g13
          refine And.intro (fun h14 => ?_) (fun h14 => ?_)
          · exact ⟨_, rfl, sd_229_effft (q_r a0) (q_i a1) (q_i a2) σ τ1 τ13 r13 g1 (cm0f h2) (cm3f h9) (cm0f h10) g13 (cm0t h14)⟩
          · exact ⟨_, rfl, sd_229_effff (q_r a0) (q_i a1) (q_i a2) σ τ1 τ13 r13 g1 (cm0f h2) (cm3f h9) (cm0f h10) g13 (cm0f h14)⟩
/-- ahead of a text -/
noncomputable def rE (σ : zSg) (b : Nat → Int) (E nf nt : Nat) (A : Nat → Int32) : Prop := σ.1 205 8 = .ref 211 ∧ rb σ 205 = b ∧ rW σ A ∧ σ.1 205 9 = .int (Int32.ofNat E) ∧ E ≤ 400 ∧ A 0 = Int32.ofNat nf ∧ nf ≤ 6 ∧ A 1 = Int32.ofNat nt ∧ nt ≤ 8
noncomputable def rEF (σ σ' : zSg) : Prop := σ'.2 = σ.2 ∧ ∀ c k, ¬ (c = 205 ∧ (k = 0 ∨ k = 9 ∨ k = 10 ∨ k = 11 ∨ k = 12 ∨ k = 16)) → ¬ (c = 206 ∧ k < 88) → σ'.1 c k = σ.1 c k
theorem rEF.tr {σ τ υ : zSg} (h1 : rEF σ τ) (h2 : rEF τ υ) : rEF σ υ := ⟨h2.1.trans h1.1, fun c k q1 q2 => (h2.2 c k q1 q2).trans (h1.2 c k q1 q2)⟩
theorem rEF.of {σ τ : zSg} (h : rDF σ τ) : rEF σ τ := ⟨h.1, fun c k q1 q2 => h.2 c k (fun q => q1 ⟨q.1, by omega⟩) q2⟩
theorem rEF.w {σ : zSg} {k : Nat} {v : Value} (h : k = 0 ∨ k = 9 ∨ k = 10 ∨ k = 11 ∨ k = 12 ∨ k = 16) : rEF σ (q_w σ 205 k v) := ⟨rfl, fun c i q1 _ => q_w_ne (fun e1 e2 => q1 ⟨e1, by omega⟩)⟩
theorem rEF.us {σ : zSg} : rEF σ (q_us σ 205) := (((rEF.w (by omega)).tr (rEF.w (by omega))).tr (rEF.w (by omega))).tr (rEF.w (by omega))
theorem rb_el {σ : zSg} {k : Nat} {v : Value} (h8 : σ.1 205 8 = .ref 211) (hk : k ≠ 8) : rb (q_w σ 205 k v) 205 = rb σ 205 := by
  funext i
  unfold rb
  rw [q_w_ne (c' := 205) (k' := 8) (fun _ q => by omega), h8]
  show (q_i ((q_w σ 205 k v).1 211 i)).toInt = (q_i (σ.1 211 i)).toInt
  rw [q_w_ne (fun q _ => by omega)]
theorem rW.el {σ : zSg} {k : Nat} {v : Value} {A : Nat → Int32} (H : rW σ A) (hk : k ≠ 1) : rW (q_w σ 205 k v) A := by
  refine ⟨?_, fun i hi => ?_⟩
  · rw [q_w_ne (fun _ q => by omega)]; exact H.1
  · rw [q_w_ne (fun q _ => by omega)]; exact H.2 i hi
theorem rD.el {σ : zSg} {b : Nat → Int} {P E k : Nat} {A : Nat → Int32} {v : Value} (H : rD σ b P E A) (hk : k ≠ 1 ∧ k ≠ 8 ∧ k ≠ 10 ∧ k ≠ 11) : rD (q_w σ 205 k v) b P E A := by
  obtain ⟨⟨g1, g2, g3, g4, g5⟩, h2, h3, h4⟩ := H
  refine ⟨⟨?_, ?_, ?_, g4, g5⟩, (rb_el h3 (by omega)).trans h2, ?_, h4.el (by omega)⟩
  · rw [q_w_ne (fun _ q => by omega)]; exact g1
  · rw [q_w_ne (fun _ q => by omega)]; exact g2
  · rw [q_w_ne (fun _ q => by omega)]; exact g3
  · rw [q_w_ne (fun _ q => by omega)]; exact h3
theorem rE.us {σ : zSg} {b : Nat → Int} {E nf nt : Nat} {A : Nat → Int32} (H : rE σ b E nf nt A) : rD (q_us σ 205) b 0 E A ∧ (q_us σ 205).1 205 0 = .int (Int32.ofInt 0) ∧ (q_us σ 205).1 205 9 = .int (Int32.ofInt 0) := by
  obtain ⟨h1, h2, h3, h4, h5, -⟩ := H
  have e9 : q_i (σ.1 205 9) = Int32.ofNat E := by rw [h4]; rfl
  unfold q_us
  rw [e9]
  have z : ∀ {τ : zSg} {k : Nat} {v : Value}, k ≠ 8 → τ.1 205 8 = .ref 211 → (q_w τ 205 k v).1 205 8 = .ref 211 := fun hk h => by rw [q_w_ne (fun _ q => by omega)]; exact h
  have a1 := z (v := .int (Int32.ofInt 0)) (show 0 ≠ 8 by omega) h1
  have a2 := z (v := .int (Int32.ofNat E)) (show 11 ≠ 8 by omega) a1
  have a3 := z (v := .int (Int32.ofInt 0)) (show 9 ≠ 8 by omega) a2
  have a4 := z (v := .int (Int32.ofInt 0)) (show 10 ≠ 8 by omega) a3
  refine ⟨⟨⟨?_, ?_, ?_, by omega, h5⟩, ?_, a4, ((((h3.el (by omega)).el (by omega)).el (by omega)).el (by omega))⟩, ?_, ?_⟩
  · rw [a4]; decide
  · rw [q_w_at]; rfl
  · rw [q_w_ne (fun _ q => by omega), q_w_ne (fun _ q => by omega), q_w_at]
  · rw [rb_el a3 (by omega), rb_el a2 (by omega), rb_el a1 (by omega), rb_el h1 (by omega)]; exact h2
  · rw [q_w_ne (fun _ q => by omega), q_w_ne (fun _ q => by omega), q_w_ne (fun _ q => by omega), q_w_at]
  · rw [q_w_ne (fun _ q => by omega), q_w_at]
theorem rDF.z {σ τ : zSg} {k : Nat} (h : rDF σ τ) (hk : k ≠ 10 ∧ k ≠ 12) : τ.1 205 k = σ.1 205 k := h.2 205 k (by omega) (by omega)
abbrev rDo (σ' : zSg) (nf nt : Nat) (A : Nat → Int32) (r : Int32) (R : List dOp ⊕ Nat) : Prop := match R with
  | .inl os => 0 ≤ r.toInt ∧ rW σ' (dApps os nf nt A)
  | .inr F => r.toInt = -1 ∧ σ'.1 205 12 = .int (Int32.ofNat F)
noncomputable def p_230d (a : Nat) (dd : Int32) (σ : zSg) (r : Int32) (σ' : zSg) : Prop := a = 205 → dd.toInt ≠ 0 → ∀ b E nf nt A, rE σ b E nf nt A → rEF σ σ' ∧ σ'.1 205 0 = .int (Int32.ofInt 0) ∧ σ'.1 205 9 = .int (Int32.ofInt 0) ∧ rDo σ' nf nt A r (dDeed b E nf nt)
noncomputable def i_230d (a : Nat) (dd : Int32) (σ : zSg) (l0 : Nat) (l1 l2 : Int32) (τ : zSg) : Prop := l0 = a ∧ l1 = dd ∧ (a = 205 → dd.toInt ≠ 0 → ∀ b E nf nt A, rE σ b E nf nt A → rEF σ τ ∧ τ.1 205 0 = .int (Int32.ofInt 0) ∧ τ.1 205 9 = .int (Int32.ofInt 0) ∧ ∃ P os N, l2 = Int32.ofNat N ∧ N ≤ 14 ∧ os.length = N ∧ rD τ b P E (dApps os nf nt A) ∧ dApps os nf nt A 0 = Int32.ofNat (nf + dFs os) ∧ nf + dFs os ≤ 6 ∧ dApps os nf nt A 1 = Int32.ofNat (nt + dTs os) ∧ nt + dTs os ≤ 8 ∧ dDeed b E nf nt = dText b E (14 - N) (nf + dFs os) (nt + dTs os) (zBl b E P) os)
theorem sd_230_et (a0 : Nat) (a1 : Int32) (σ : zSg) (τ1 : zSg) (τ2 : zSg) (g1 : p_210 a0 σ τ1) (g2 : p_202 a0 (q_w τ1 a0 16 (.int (Int32.ofInt (0)))) τ2) (h3 : (q_i (τ2.1 a0 10)).toInt ≠ (q_i (τ2.1 a0 11)).toInt) :
    i_230d a0 a1 σ a0 a1 (Int32.ofInt (0)) τ2 := by
  refine ⟨rfl, rfl, ?_⟩
  rintro rfl hd b E nf nt A H
  obtain rfl := g1
  obtain ⟨H1, z0, z9⟩ := H.us
  have H2 := H1.el (k := 16) (v := .int (Int32.ofInt 0)) (by omega)
  have h3 := g2 0 E H2.1
  rw [H2.2.1] at h3
  subst h3
  have H3 := H2.rs (K := zBl b E 0) (Q := zBl b E 0) (zBl_le (by omega))
  have ff : rEF σ (q_rs (q_w (q_us σ 205) 205 16 (.int (Int32.ofInt 0))) 205 (zBl b E 0) (zBl b E 0)) := (rEF.us.tr (rEF.w (by omega))).tr (rEF.of rDF.rs)
  have y0 : (q_rs (q_w (q_us σ 205) 205 16 (.int (Int32.ofInt 0))) 205 (zBl b E 0) (zBl b E 0)).1 205 0 = .int (Int32.ofInt 0) := by rw [rDF.rs.z (by omega), q_w_ne (fun _ q => by omega)]; exact z0
  have y9 : (q_rs (q_w (q_us σ 205) 205 16 (.int (Int32.ofInt 0))) 205 (zBl b E 0) (zBl b E 0)).1 205 9 = .int (Int32.ofInt 0) := by rw [rDF.rs.z (by omega), q_w_ne (fun _ q => by omega)]; exact z9
  rw [q_rs_10, H3.1.2.2.1] at h3
  have hle := H3.le
  simp only [q_ii] at h3
  rw [o32 (by omega), o32 (by omega)] at h3
  refine ⟨ff, y0, y9, zBl b E 0, [], 0, rfl, by omega, rfl, H3, H.2.2.2.2.2.1, H.2.2.2.2.2.2.1, H.2.2.2.2.2.2.2.1, H.2.2.2.2.2.2.2.2, ?_⟩
  unfold dDeed
  rw [if_neg (by omega), zBl_bl]
  rfl
theorem sd_230_ef (a0 : Nat) (a1 : Int32) (σ : zSg) (τ1 : zSg) (τ2 : zSg) (g1 : p_210 a0 σ τ1) (g2 : p_202 a0 (q_w τ1 a0 16 (.int (Int32.ofInt (0)))) τ2) (h3 : (q_i (τ2.1 a0 10)).toInt = (q_i (τ2.1 a0 11)).toInt) :
    p_230d (a0) (a1) σ (Int32.ofInt (0)) τ2 := by
  rintro rfl hd b E nf nt A H
  obtain rfl := g1
  obtain ⟨H1, z0, z9⟩ := H.us
  have H2 := H1.el (k := 16) (v := .int (Int32.ofInt 0)) (by omega)
  have h3 := g2 0 E H2.1
  rw [H2.2.1] at h3
  subst h3
  have H3 := H2.rs (K := zBl b E 0) (Q := zBl b E 0) (zBl_le (by omega))
  have ff : rEF σ (q_rs (q_w (q_us σ 205) 205 16 (.int (Int32.ofInt 0))) 205 (zBl b E 0) (zBl b E 0)) := (rEF.us.tr (rEF.w (by omega))).tr (rEF.of rDF.rs)
  have y0 : (q_rs (q_w (q_us σ 205) 205 16 (.int (Int32.ofInt 0))) 205 (zBl b E 0) (zBl b E 0)).1 205 0 = .int (Int32.ofInt 0) := by rw [rDF.rs.z (by omega), q_w_ne (fun _ q => by omega)]; exact z0
  have y9 : (q_rs (q_w (q_us σ 205) 205 16 (.int (Int32.ofInt 0))) 205 (zBl b E 0) (zBl b E 0)).1 205 9 = .int (Int32.ofInt 0) := by rw [rDF.rs.z (by omega), q_w_ne (fun _ q => by omega)]; exact z9
  rw [q_rs_10, H3.1.2.2.1] at h3
  have hle := H3.le
  simp only [q_ii] at h3
  rw [o32 (by omega), o32 (by omega)] at h3
  refine ⟨ff, y0, y9, ?_⟩
  unfold dDeed
  rw [if_pos (by omega)]
  exact ⟨by decide, H3.w⟩
theorem sd_230_c16_ttt (a0 : Nat) (a1 : Int32) (σ : zSg) (l0 : Nat) (l1 : Int32) (l2 : Int32) (τ : zSg) (τ4 : zSg) (r4 : Int32) (τ6 : zSg) (τ8 : zSg) (r8 : Int32) (hI : i_230d a0 a1 σ l0 l1 l2 τ) (g4 : p_229d l0 l1 l2 τ r4 τ4) (h5 : r4.toInt ≠ (0 : Int)) (g6 : p_202 l0 τ4 τ6) (h7 : (q_i (τ6.1 l0 10)).toInt ≠ (q_i (τ6.1 l0 11)).toInt) (g8 : p_201 l0 (Int32.ofInt (59)) (Int32.ofInt (59)) τ6 r8 τ8) (h9 : r8.toInt ≠ (0 : Int)) :
    i_230d a0 a1 σ l0 l1 (l2 + Int32.ofInt (1)) (q_w τ8 l0 10 (.int ((q_i (τ8.1 l0 10)) + (Int32.ofInt (1))))) := by
  obtain ⟨rfl, rfl, hI⟩ := hI
  refine ⟨rfl, rfl, ?_⟩
  rintro rfl hd b E nf nt A H
  obtain ⟨ff, y0, y9, P, os, N, rfl, hN, hos, H1, c0, cf, c1, ct, hT⟩ := hI rfl hd b E nf nt A H
  obtain ⟨f2, k14, kl⟩ := g4 rfl hd b P E _ _ _ N H1 c0 cf c1 ct rfl hN
  have n14 : N < 14 := by
    rcases Nat.lt_or_ge N 14 with h | h
    · exact h
    · exact absurd (k14 (by omega)).1 h5
  have g := kl n14
  obtain ⟨k, hk⟩ : ∃ k, 14 - N = k + 1 := ⟨13 - N, by omega⟩
  rw [hk] at hT
  unfold dText at hT
  cases hR : dLine b E (nf + dFs os) (nt + dTs os) (zBl b E P) with
  | inr F => rw [hR] at g; exact absurd g.1 h5
  | inl q =>
  obtain ⟨A1, o⟩ := q
  rw [hR] at g hT
  obtain ⟨-, P', rfl, H2⟩ := g
  dsimp only at hT
  have h3 := g6 P' E H2.1
  rw [H2.2.1] at h3
  subst h3
  have H3 := H2.rs (K := zBl b E P') (Q := zBl b E P') H2.bl
  have hle := H3.le
  rw [q_rs_10, H3.1.2.2.1] at h7
  simp only [q_ii] at h7
  rw [o32 (by omega), o32 (by omega)] at h7
  have ho := dLine_ok cf ct hR
  have hap : dApp (nf + dFs os) (nt + dTs os) (dApps os nf nt A) o = dApps (os ++ [o]) nf nt A := (dApps_app os [o] nf nt A).symm
  rw [hap] at H3
  have f3 : rDF τ (q_rs τ4 205 (zBl b E P') (zBl b E P')) := f2.tr rDF.rs
  have t9 := g8.t H3.1 h9
  obtain ⟨rfl, -⟩ := g8
  rw [H3.2.1] at t9
  have c59 : (Int32.ofInt 59).toInt = 59 := rfl
  rw [c59] at t9
  have hts : ts b E 59 (zBl b E P') = some (zBl b E (zBl b E P' + 1)) := by
    unfold ts
    rw [if_pos ⟨t9.1, by omega⟩]
  rw [if_neg (by omega), hts] at hT
  dsimp only at hT
  have e10 : q_i ((q_rs τ4 205 (zBl b E P') (zBl b E P')).1 205 10) + Int32.ofInt 1 = Int32.ofNat (zBl b E P' + 1) := by
    rw [q_rs_10]
    exact o32i (by omega)
  simp only [e10]
  have e11 : q_w (q_rs τ4 205 (zBl b E P') (zBl b E P')) 205 10 (.int (Int32.ofNat (zBl b E P' + 1))) = q_rs τ4 205 (zBl b E P' + 1) (zBl b E P') := q_rs_pt
  rw [e11]
  have H4 := H2.rs (K := zBl b E P' + 1) (Q := zBl b E P') (by omega)
  rw [hap] at H4
  have f4 : rDF τ (q_rs τ4 205 (zBl b E P' + 1) (zBl b E P')) := f2.tr rDF.rs
  have hc := dApp_01 ho c0 c1
  rw [hap] at hc
  have d1 : dFs (os ++ [o]) = dFs os + dF1 o := by rw [dFs_app]; rfl
  have d2 : dTs (os ++ [o]) = dTs os + dT1 o := by rw [dTs_app]; rfl
  refine ⟨ff.tr (rEF.of f4), (f4.z (by omega)).trans y0, (f4.z (by omega)).trans y9, zBl b E P' + 1, os ++ [o], N + 1, o32i (by omega), by omega, by rw [List.length_append, hos]; rfl, H4, ?_, ?_, ?_, ?_, ?_⟩
  · rw [d1, ← Nat.add_assoc]; exact hc.1
  · have := hc.2.2.1; omega
  · rw [d2, ← Nat.add_assoc]; exact hc.2.1
  · have := hc.2.2.2; omega
  · rw [hT, d1, d2, show 14 - (N + 1) = k by omega, Nat.add_assoc, Nat.add_assoc]
theorem sd_230_c16_ttf (a0 : Nat) (a1 : Int32) (σ : zSg) (l0 : Nat) (l1 : Int32) (l2 : Int32) (τ : zSg) (τ4 : zSg) (r4 : Int32) (τ6 : zSg) (τ8 : zSg) (r8 : Int32) (hI : i_230d a0 a1 σ l0 l1 l2 τ) (g4 : p_229d l0 l1 l2 τ r4 τ4) (h5 : r4.toInt ≠ (0 : Int)) (g6 : p_202 l0 τ4 τ6) (h7 : (q_i (τ6.1 l0 10)).toInt ≠ (q_i (τ6.1 l0 11)).toInt) (g8 : p_201 l0 (Int32.ofInt (59)) (Int32.ofInt (59)) τ6 r8 τ8) (h9 : r8.toInt = (0 : Int)) :
    p_230d (a0) (a1) σ (Int32.ofInt (-1)) τ8 := by
  obtain ⟨rfl, rfl, hI⟩ := hI
  rintro rfl hd b E nf nt A H
  obtain ⟨ff, y0, y9, P, os, N, rfl, hN, hos, H1, c0, cf, c1, ct, hT⟩ := hI rfl hd b E nf nt A H
  obtain ⟨f2, k14, kl⟩ := g4 rfl hd b P E _ _ _ N H1 c0 cf c1 ct rfl hN
  have n14 : N < 14 := by
    rcases Nat.lt_or_ge N 14 with h | h
    · exact h
    · exact absurd (k14 (by omega)).1 h5
  have g := kl n14
  obtain ⟨k, hk⟩ : ∃ k, 14 - N = k + 1 := ⟨13 - N, by omega⟩
  rw [hk] at hT
  unfold dText at hT
  cases hR : dLine b E (nf + dFs os) (nt + dTs os) (zBl b E P) with
  | inr F => rw [hR] at g; exact absurd g.1 h5
  | inl q =>
  obtain ⟨A1, o⟩ := q
  rw [hR] at g hT
  obtain ⟨-, P', rfl, H2⟩ := g
  dsimp only at hT
  have h3 := g6 P' E H2.1
  rw [H2.2.1] at h3
  subst h3
  have H3 := H2.rs (K := zBl b E P') (Q := zBl b E P') H2.bl
  have hle := H3.le
  rw [q_rs_10, H3.1.2.2.1] at h7
  simp only [q_ii] at h7
  rw [o32 (by omega), o32 (by omega)] at h7
  have ho := dLine_ok cf ct hR
  have hap : dApp (nf + dFs os) (nt + dTs os) (dApps os nf nt A) o = dApps (os ++ [o]) nf nt A := (dApps_app os [o] nf nt A).symm
  rw [hap] at H3
  have f3 : rDF τ (q_rs τ4 205 (zBl b E P') (zBl b E P')) := f2.tr rDF.rs
  have f9 := g8.f H3.1 h9
  obtain ⟨rfl, -⟩ := g8
  refine ⟨ff.tr (rEF.of f3), (f3.z (by omega)).trans y0, (f3.z (by omega)).trans y9, ?_⟩
  rw [H3.2.1] at f9
  have hts : ts b E 59 (zBl b E P') = none := by
    unfold ts
    rw [if_neg (fun q => f9 ⟨q.1, by rw [q.2]; decide, by rw [q.2]; decide⟩)]
  rw [hT, if_neg (by omega), hts]
  exact ⟨rfl, q_rs_12⟩
theorem sd_230_c16_tf (a0 : Nat) (a1 : Int32) (σ : zSg) (l0 : Nat) (l1 : Int32) (l2 : Int32) (τ : zSg) (τ4 : zSg) (r4 : Int32) (τ6 : zSg) (hI : i_230d a0 a1 σ l0 l1 l2 τ) (g4 : p_229d l0 l1 l2 τ r4 τ4) (h5 : r4.toInt ≠ (0 : Int)) (g6 : p_202 l0 τ4 τ6) (h7 : (q_i (τ6.1 l0 10)).toInt = (q_i (τ6.1 l0 11)).toInt) :
    p_230d (a0) (a1) σ (l2 + (Int32.ofInt (1))) τ6 := by
  obtain ⟨rfl, rfl, hI⟩ := hI
  rintro rfl hd b E nf nt A H
  obtain ⟨ff, y0, y9, P, os, N, rfl, hN, hos, H1, c0, cf, c1, ct, hT⟩ := hI rfl hd b E nf nt A H
  obtain ⟨f2, k14, kl⟩ := g4 rfl hd b P E _ _ _ N H1 c0 cf c1 ct rfl hN
  have n14 : N < 14 := by
    rcases Nat.lt_or_ge N 14 with h | h
    · exact h
    · exact absurd (k14 (by omega)).1 h5
  have g := kl n14
  obtain ⟨k, hk⟩ : ∃ k, 14 - N = k + 1 := ⟨13 - N, by omega⟩
  rw [hk] at hT
  unfold dText at hT
  cases hR : dLine b E (nf + dFs os) (nt + dTs os) (zBl b E P) with
  | inr F => rw [hR] at g; exact absurd g.1 h5
  | inl q =>
  obtain ⟨A1, o⟩ := q
  rw [hR] at g hT
  obtain ⟨-, P', rfl, H2⟩ := g
  dsimp only at hT
  have h3 := g6 P' E H2.1
  rw [H2.2.1] at h3
  subst h3
  have H3 := H2.rs (K := zBl b E P') (Q := zBl b E P') H2.bl
  have hle := H3.le
  rw [q_rs_10, H3.1.2.2.1] at h7
  simp only [q_ii] at h7
  rw [o32 (by omega), o32 (by omega)] at h7
  have ho := dLine_ok cf ct hR
  have hap : dApp (nf + dFs os) (nt + dTs os) (dApps os nf nt A) o = dApps (os ++ [o]) nf nt A := (dApps_app os [o] nf nt A).symm
  rw [hap] at H3
  have f3 : rDF τ (q_rs τ4 205 (zBl b E P') (zBl b E P')) := f2.tr rDF.rs
  refine ⟨ff.tr (rEF.of f3), (f3.z (by omega)).trans y0, (f3.z (by omega)).trans y9, ?_⟩
  rw [hT, if_pos (by omega)]
  refine ⟨?_, H3.w⟩
  rw [o32i (by omega), o32 (by omega)]
  omega
theorem sd_230_c16_f (a0 : Nat) (a1 : Int32) (σ : zSg) (l0 : Nat) (l1 : Int32) (l2 : Int32) (τ : zSg) (τ4 : zSg) (r4 : Int32) (hI : i_230d a0 a1 σ l0 l1 l2 τ) (g4 : p_229d l0 l1 l2 τ r4 τ4) (h5 : r4.toInt = (0 : Int)) :
    p_230d (a0) (a1) σ (Int32.ofInt (-1)) τ4 := by
  obtain ⟨rfl, rfl, hI⟩ := hI
  rintro rfl hd b E nf nt A H
  obtain ⟨ff, y0, y9, P, os, N, rfl, hN, hos, H1, c0, cf, c1, ct, hT⟩ := hI rfl hd b E nf nt A H
  obtain ⟨f2, k14, kl⟩ := g4 rfl hd b P E _ _ _ N H1 c0 cf c1 ct rfl hN
  refine ⟨ff.tr (rEF.of f2), (f2.z (by omega)).trans y0, (f2.z (by omega)).trans y9, ?_⟩
  rw [hT]
  rcases Nat.lt_or_ge N 14 with n14 | n14
  · have g := kl n14
    obtain ⟨k, hk⟩ : ∃ k, 14 - N = k + 1 := ⟨13 - N, by omega⟩
    rw [hk]
    unfold dText
    cases hR : dLine b E (nf + dFs os) (nt + dTs os) (zBl b E P) with
    | inr F => rw [hR] at g; exact ⟨rfl, g.2⟩
    | inl q => rw [hR] at g; exact absurd h5 g.1
  · rw [show 14 - N = 0 by omega]
    exact ⟨rfl, (k14 (by omega)).2⟩
noncomputable def qP_230d : zPp := fun as σ o σ' => match as with
  | [a0, a1] => ∃ r, o = .inl (some (.int r)) ∧ p_230d (q_r a0) (q_i a1) σ r σ'
  | _ => True
set_option maxRecDepth 100000 in
theorem sd_230 {sx : zX} (S210 : zEe sx 210 1 qP_210) (S202 : zEe sx 202 1 qP_202) (S229 : zEe sx 229 3 qP_229d) (S201 : zEe sx 201 3 qP_201) : zEe sx 230 2 qP_230d := by
  refine zfle zJ_230 (sps := [(210, 1, qP_210), (202, 1, qP_202), (229, 3, qP_229d), (201, 3, qP_201)]) (fun q hq => by
    simp only [List.mem_cons, List.not_mem_nil, or_false] at hq
    rcases hq with rfl | rfl | rfl | rfl
    · exact S210
    · exact S202
    · exact S229
    · exact S201) (fun as σ hl => ?_)
  match as, hl with
  | [a0, a1], _ =>
  refine ⟨[(16, fun lo st τ => st = [] ∧ i_230d (q_r a0) (q_i a1) σ (q_r (lo 0)) (q_i (lo 1)) (q_i (lo 2)) τ)], 400, ?_, ?_⟩
  · intro q hq
    simp only [List.mem_cons, List.not_mem_nil, or_false] at hq
    rcases hq with rfl
    · rintro lo st τ ⟨rfl, hI⟩
      refine ⟨400, ?_⟩
      refine fun o4 τ4 g4 => ?_
      obtain ⟨r4, rfl, g4⟩ := g4
      refine And.intro (fun h5 => ?_) (fun h5 => ?_)
      · refine fun o6 τ6 g6 => ?_
        obtain ⟨rfl, g6⟩ := g6
        refine And.intro (fun h7 => ?_) (fun h7 => ?_)
        · refine fun o8 τ8 g8 => ?_
          obtain ⟨r8, rfl, g8⟩ := g8
          refine And.intro (fun h9 => ?_) (fun h9 => ?_)
          · exact ⟨rfl, sd_230_c16_ttt (q_r a0) (q_i a1) σ (q_r (lo 0)) (q_i (lo 1)) (q_i (lo 2)) τ τ4 r4 τ6 τ8 r8 hI g4 (cm1t h5) g6 (cm1t h7) g8 (cm1t h9)⟩
          · exact ⟨_, rfl, sd_230_c16_ttf (q_r a0) (q_i a1) σ (q_r (lo 0)) (q_i (lo 1)) (q_i (lo 2)) τ τ4 r4 τ6 τ8 r8 hI g4 (cm1t h5) g6 (cm1t h7) g8 (cm1f h9)⟩
        · exact ⟨_, rfl, sd_230_c16_tf (q_r a0) (q_i a1) σ (q_r (lo 0)) (q_i (lo 1)) (q_i (lo 2)) τ τ4 r4 τ6 hI g4 (cm1t h5) g6 (cm1f h7)⟩
      · exact ⟨_, rfl, sd_230_c16_f (q_r a0) (q_i a1) σ (q_r (lo 0)) (q_i (lo 1)) (q_i (lo 2)) τ τ4 r4 hI g4 (cm1f h5)⟩
  · refine fun o1 τ1 g1 => ?_
    obtain ⟨rfl, g1⟩ := g1
    refine fun o2 τ2 g2 => ?_
    obtain ⟨rfl, g2⟩ := g2
    refine And.intro (fun h3 => ?_) (fun h3 => ?_)
    · exact ⟨rfl, sd_230_et (q_r a0) (q_i a1) σ τ1 τ2 g1 g2 (cm1t h3)⟩
    · exact ⟨_, rfl, sd_230_ef (q_r a0) (q_i a1) σ τ1 τ2 g1 g2 (cm1f h3)⟩
