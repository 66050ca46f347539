/-! the reference's reader of a condition, exact; printed with wip/gen/gen_t3.py -/
noncomputable def rG (σ : zSg) (a W : Nat) (b : Nat → Int) (P E D : Nat) (l : zSs) : Prop := rS σ a P E ∧ rb σ a = b ∧ σ.1 a 1 = .ref W ∧ W ≠ a ∧ q_r (σ.1 a 8) ≠ W ∧ σ.2.1 W = 2086 ∧ σ.1 a 13 = .int (Int32.ofNat D) ∧ D ≤ 6 ∧ σ.1 a 16 = .int (Int32.ofNat l.length) ∧ l.length ≤ 400 ∧ ∀ i x, l[i]? = some x → σ.1 W (1286 + 2 * i) = .int (Int32.ofNat x.1) ∧ σ.1 W (1287 + 2 * i) = .int (Int32.ofNat x.2)
noncomputable def rF (σ σ' : zSg) (a W : Nat) : Prop := σ'.2 = σ.2 ∧ ∀ c k, ¬ (c = a ∧ (k = 10 ∨ k = 12 ∨ k = 13 ∨ k = 16)) → ¬ (c = W ∧ 1286 ≤ k) → σ'.1 c k = σ.1 c k
noncomputable def rO (σ' : zSg) (a W : Nat) (b : Nat → Int) (E D : Nat) (l : zSs) (r : Int32) (R : zRs) : Prop := match R with
  | .inl (A1, m) => r.toInt ≠ 0 ∧ ∃ P', P' ≤ E ∧ zBl b E P' = A1 ∧ rG σ' a W b P' E D (l ++ m)
  | .inr F => r.toInt = 0 ∧ σ'.1 a 12 = .int (Int32.ofNat F)
section RGL
variable {σ τ υ : zSg} {a W P E D : Nat} {b : Nat → Int} {l : zSs}
theorem rF.rf : rF σ σ a W := ⟨rfl, fun _ _ _ _ => rfl⟩
theorem rF.tr (h1 : rF σ τ a W) (h2 : rF τ υ a W) : rF σ υ a W := ⟨h2.1.trans h1.1, fun c k q1 q2 => (h2.2 c k q1 q2).trans (h1.2 c k q1 q2)⟩
theorem rF.w {k : Nat} {v : Value} (h : k = 10 ∨ k = 12 ∨ k = 13 ∨ k = 16) : rF σ (q_w σ a k v) a W := ⟨rfl, fun c i q1 _ => q_w_ne (fun e1 e2 => q1 ⟨e1, by omega⟩)⟩
theorem rF.rs {K Q : Nat} : rF σ (q_rs σ a K Q) a W := (rF.w (Or.inl rfl)).tr (rF.w (Or.inr (Or.inl rfl)))
theorem rF.ww {k : Nat} {v : Value} (h : 1286 ≤ k) : rF σ (q_w σ W k v) a W := ⟨rfl, fun c i _ q2 => q_w_ne (fun e1 e2 => q2 ⟨e1, by omega⟩)⟩
/-- a write of the reader's own -/
theorem rG.w {k : Nat} {v : Value} (H : rG σ a W b P E D l) (h : k = 12) : rG (q_w σ a k v) a W b P E D l := by
  obtain ⟨h1, h2, h3, h4, h5, h6, h7, h8, h9, h10, h11⟩ := H
  subst h
  refine ⟨h1.bg, (rb_w h1.1 (by omega)).trans h2, ?_, h4, ?_, h6, ?_, h8, ?_, h10, fun i x hx => ?_⟩
  · rw [q_w_ne (fun _ q => by omega)]; exact h3
  · rw [q_w_ne (fun _ q => by omega)]; exact h5
  · rw [q_w_ne (fun _ q => by omega)]; exact h7
  · rw [q_w_ne (fun _ q => by omega)]; exact h9
  · rw [q_w_ne (fun q _ => h4 q), q_w_ne (fun q _ => h4 q)]; exact h11 i x hx
theorem rG.pt {K : Nat} (H : rG σ a W b P E D l) (h : K ≤ E) : rG (q_w σ a 10 (.int (Int32.ofNat K))) a W b K E D l := by
  obtain ⟨h1, h2, h3, h4, h5, h6, h7, h8, h9, h10, h11⟩ := H
  refine ⟨h1.pt h, (rb_w h1.1 (by omega)).trans h2, ?_, h4, ?_, h6, ?_, h8, ?_, h10, fun i x hx => ?_⟩
  · rw [q_w_ne (fun _ q => by omega)]; exact h3
  · rw [q_w_ne (fun _ q => by omega)]; exact h5
  · rw [q_w_ne (fun _ q => by omega)]; exact h7
  · rw [q_w_ne (fun _ q => by omega)]; exact h9
  · rw [q_w_ne (fun q _ => h4 q), q_w_ne (fun q _ => h4 q)]; exact h11 i x hx
theorem rG.rs {K Q : Nat} (H : rG σ a W b P E D l) (h : K ≤ E) : rG (q_rs σ a K Q) a W b K E D l := (H.pt h).w rfl
theorem rG.dp {K : Nat} (H : rG σ a W b P E D l) (h : K ≤ 6) : rG (q_w σ a 13 (.int (Int32.ofNat K))) a W b P E K l := by
  obtain ⟨h1, h2, h3, h4, h5, h6, h7, h8, h9, h10, h11⟩ := H
  obtain ⟨g1, g2, g3, g4, g5⟩ := h1
  refine ⟨⟨?_, ?_, ?_, g4, g5⟩, (rb_w g1 (by omega)).trans h2, ?_, h4, ?_, h6, q_w_at _ _ _ _, h, ?_, h10, fun i x hx => ?_⟩
  · rw [q_w_ne (fun _ q => by omega)]; exact g1
  · rw [q_w_ne (fun _ q => by omega)]; exact g2
  · rw [q_w_ne (fun _ q => by omega)]; exact g3
  · rw [q_w_ne (fun _ q => by omega)]; exact h3
  · rw [q_w_ne (fun _ q => by omega)]; exact h5
  · rw [q_w_ne (fun _ q => by omega)]; exact h9
  · rw [q_w_ne (fun q _ => h4 q), q_w_ne (fun q _ => h4 q)]; exact h11 i x hx
theorem rG.le (H : rG σ a W b P E D l) : P ≤ E ∧ E ≤ 400 := H.1.2.2.2
theorem rG.bl (H : rG σ a W b P E D l) : zBl b E P ≤ E := zBl_le H.le.1
theorem rG.nodp (H : rG σ a W b P E D l) : (q_i (σ.1 a 13)).toInt = (D : Int) := by
  have := H.2.2.2.2.2.2.2.1
  rw [H.2.2.2.2.2.2.1]
  exact o32 (by omega)
/-- a sign -/
theorem rG.sg {c r : Int32} (H : rG σ a W b P E D l) (G : p_206 a c σ r τ) : rF σ τ a W ∧ τ.1 a 12 = .int (Int32.ofNat (zBl b E P)) ∧ (r.toInt ≠ 0 → ts b E c.toInt (zBl b E P) = some (zBl b E (zBl b E P + 1)) ∧ rG τ a W b (zBl b E P + 1) E D l) ∧ (r.toInt = 0 → ts b E c.toInt (zBl b E P) = none ∧ rG τ a W b (zBl b E P) E D l) := by
  have hb := H.2.1
  have hB := H.bl
  have := G P E H.1
  rw [hb] at this
  rcases this with ⟨g1, g2, rfl⟩ | ⟨g1, g2, rfl⟩
  · refine ⟨rF.rs, q_rs_12, fun _ => ⟨?_, H.rs (by omega)⟩, fun q => absurd q g1⟩
    unfold ts
    rw [if_pos g2]
  · refine ⟨rF.rs, q_rs_12, fun q => absurd g1 q, fun _ => ⟨?_, H.rs hB⟩⟩
    unfold ts
    rw [if_neg g2]
/-- a word -/
theorem rG.ps {w : Nat} {s : List Int} {r : Int32} (H : rG σ a W b P E D l) (G : p_205 a w σ r τ) (hs : q_si w = s) (hn : s.length ≤ 100) : rF σ τ a W ∧ τ.1 a 12 = .int (Int32.ofNat (zBl b E P)) ∧ (r.toInt ≠ 0 → tw b E s (zBl b E P) = some (zBl b E (zBl b E P + s.length)) ∧ rG τ a W b (zBl b E P + s.length) E D l) ∧ (r.toInt = 0 → tw b E s (zBl b E P) = none ∧ rG τ a W b (zBl b E P) E D l) := by
  have hb := H.2.1
  have hB := H.bl
  have hl : (q_s w).length = s.length := by rw [← hs, q_si_len]
  have := G P E H.1 (by omega)
  rw [hb, hs, hl] at this
  rcases this with ⟨g1, g2, rfl⟩ | ⟨g1, g2, rfl⟩
  · have g3 : zBl b E P + s.length ≤ E := by
      have h9 : zRn b E 97 122 (zBl b E P) = zBl b E P + s.length := g2.1
      rw [← h9]
      exact zRn_le hB
    refine ⟨rF.rs, q_rs_12, fun _ => ⟨?_, H.rs g3⟩, fun q => absurd q g1⟩
    exact tw_pos g2
  · refine ⟨rF.rs, q_rs_12, fun q => absurd g1 q, fun _ => ⟨?_, H.rs hB⟩⟩
    exact tw_neg g2
/-- letters, then words asked for -/
theorem rG.lt (H : rG σ a W b P E D l) (G : p_203 a σ τ) : rF σ τ a W ∧ τ.1 a 12 = .int (Int32.ofNat (zBl b E P)) ∧ τ.1 a 10 = .int (Int32.ofNat (zLt b E (zBl b E P))) ∧ rG τ a W b (zLt b E (zBl b E P)) E D l := by
  have := G P E H.1
  rw [H.2.1] at this
  subst this
  exact ⟨rF.rs, q_rs_12, q_rs_10, H.rs (zRn_le H.bl)⟩
theorem rG.wd {w A : Nat} {s : List Int} {r : Int32} (H : rG τ a W b (zLt b E A) E D l) (h12 : τ.1 a 12 = .int (Int32.ofNat A)) (G : p_204 a w τ r υ) (hs : q_si w = s) (hn : s.length ≤ 100) : υ = τ ∧ (r.toInt ≠ 0 → zWa b E s A ∧ tw b E s A = some (zBl b E (zLt b E A))) ∧ (r.toInt = 0 → tw b E s A = none) := by
  have hl : (q_s w).length = s.length := by rw [← hs, q_si_len]
  have h9 := G.2 _ A E H.1 h12 zRn_ge (by omega)
  rw [H.2.1, hs] at h9
  refine ⟨G.1, fun q => ?_, fun q => ?_⟩
  · have q1 : zWa b E s A := h9.mp q
    refine ⟨q1, ?_⟩
    rw [tw_pos q1, ← show zLt b E A = A + s.length from q1.1]
  · exact tw_neg (fun q1 => (h9.mpr q1) q)
end RGL
noncomputable def p_221 (a : Nat) (x y : Int32) (σ σ' : zSg) : Prop := ∀ W b P E D l, rG σ a W b P E D l → rF σ σ' a W ∧ σ'.1 a 12 = σ.1 a 12 ∧ ∀ m n : Nat, x = Int32.ofNat m → y = Int32.ofNat n → rG σ' a W b P E D (l ++ [(m, n)])
theorem zEmm {s : Nat} (h : s ≤ 400) : (Int32.ofInt 1286 + Int32.ofInt 2 * Int32.ofNat s).toInt = 1286 + 2 * (s : Int) := by
  have e : (Int32.ofInt 2 * Int32.ofNat s).toInt = 2 * (s : Int) := by
    rw [Int32.toInt_mul, zI_c (by omega) (by omega), o32 (by omega)]
    exact z_bm (by omega) (by omega)
  exact zI_add (zI_c (by omega) (by omega)) e (by omega) (by omega)
theorem sp_221_e (a0 : Nat) (a1 : Int32) (a2 : Int32) (σ : zSg) (h1 : 0 ≤ ((Int32.ofInt (1286)) + ((Int32.ofInt (2)) * (q_i (σ.1 a0 16)))).toInt ∧ ((Int32.ofInt (1286)) + ((Int32.ofInt (2)) * (q_i (σ.1 a0 16)))).toInt < (σ.2.1 (q_r (σ.1 a0 1)) : Int)) (h2 : 0 ≤ (((Int32.ofInt (1286)) + ((Int32.ofInt (2)) * (q_i ((q_w σ (q_r (σ.1 a0 1)) ((Int32.ofInt (1286)) + ((Int32.ofInt (2)) * (q_i (σ.1 a0 16)))).toNatClampNeg (.int a1)).1 a0 16)))) + (Int32.ofInt (1))).toInt ∧ (((Int32.ofInt (1286)) + ((Int32.ofInt (2)) * (q_i ((q_w σ (q_r (σ.1 a0 1)) ((Int32.ofInt (1286)) + ((Int32.ofInt (2)) * (q_i (σ.1 a0 16)))).toNatClampNeg (.int a1)).1 a0 16)))) + (Int32.ofInt (1))).toInt < ((q_w σ (q_r (σ.1 a0 1)) ((Int32.ofInt (1286)) + ((Int32.ofInt (2)) * (q_i (σ.1 a0 16)))).toNatClampNeg (.int a1)).2.1 (q_r ((q_w σ (q_r (σ.1 a0 1)) ((Int32.ofInt (1286)) + ((Int32.ofInt (2)) * (q_i (σ.1 a0 16)))).toNatClampNeg (.int a1)).1 a0 1)) : Int)) :
    p_221 (a0) (a1) (a2) σ (q_w (q_w (q_w σ (q_r (σ.1 a0 1)) ((Int32.ofInt (1286)) + ((Int32.ofInt (2)) * (q_i (σ.1 a0 16)))).toNatClampNeg (.int a1)) (q_r ((q_w σ (q_r (σ.1 a0 1)) ((Int32.ofInt (1286)) + ((Int32.ofInt (2)) * (q_i (σ.1 a0 16)))).toNatClampNeg (.int a1)).1 a0 1)) (((Int32.ofInt (1286)) + ((Int32.ofInt (2)) * (q_i ((q_w σ (q_r (σ.1 a0 1)) ((Int32.ofInt (1286)) + ((Int32.ofInt (2)) * (q_i (σ.1 a0 16)))).toNatClampNeg (.int a1)).1 a0 16)))) + (Int32.ofInt (1))).toNatClampNeg (.int a2)) a0 16 (.int ((q_i ((q_w (q_w σ (q_r (σ.1 a0 1)) ((Int32.ofInt (1286)) + ((Int32.ofInt (2)) * (q_i (σ.1 a0 16)))).toNatClampNeg (.int a1)) (q_r ((q_w σ (q_r (σ.1 a0 1)) ((Int32.ofInt (1286)) + ((Int32.ofInt (2)) * (q_i (σ.1 a0 16)))).toNatClampNeg (.int a1)).1 a0 1)) (((Int32.ofInt (1286)) + ((Int32.ofInt (2)) * (q_i ((q_w σ (q_r (σ.1 a0 1)) ((Int32.ofInt (1286)) + ((Int32.ofInt (2)) * (q_i (σ.1 a0 16)))).toNatClampNeg (.int a1)).1 a0 16)))) + (Int32.ofInt (1))).toNatClampNeg (.int a2)).1 a0 16)) + (Int32.ofInt (1))))) := by
  intro W b P E D l H
  obtain ⟨g1, g2, g3, g4, g5, g6, g7, g8, g9, g10, g11⟩ := id H
  have e1 := zEmm g10
  have n1 : (Int32.ofInt 1286 + Int32.ofInt 2 * Int32.ofNat l.length).toNatClampNeg = 1286 + 2 * l.length := znat (by rw [e1]; omega)
  have e2 : (Int32.ofInt 1286 + Int32.ofInt 2 * Int32.ofNat l.length + Int32.ofInt 1).toInt = 1287 + 2 * (l.length : Int) := by
    rw [zI_add e1 (zI_c (by omega) (by omega)) (by omega) (by omega)]
    omega
  have n2 : (Int32.ofInt 1286 + Int32.ofInt 2 * Int32.ofNat l.length + Int32.ofInt 1).toNatClampNeg = 1287 + 2 * l.length := znat (by rw [e2]; omega)
  have q16 : q_i (σ.1 a0 16) = Int32.ofNat l.length := by rw [g9]; rfl
  have q1 : q_r (σ.1 a0 1) = W := by rw [g3]; rfl
  have ne : a0 = W → False := fun q => g4 q.symm
  simp only [q16, q1, n1] at h2 ⊢
  have r16 : q_i ((q_w σ W (1286 + 2 * l.length) (.int a1)).1 a0 16) = Int32.ofNat l.length := by rw [q_w_ne (fun q _ => ne q)]; exact q16
  have r1 : q_r ((q_w σ W (1286 + 2 * l.length) (.int a1)).1 a0 1) = W := by rw [q_w_ne (fun q _ => ne q)]; exact q1
  simp only [r16, r1, e2] at h2
  simp only [r16, r1, n2]
  have hl : l.length < 400 := by
    have h9 := h2.2
    rw [q_w_2, g6] at h9
    omega
  have s16 : q_i ((q_w (q_w σ W (1286 + 2 * l.length) (.int a1)) W (1287 + 2 * l.length) (.int a2)).1 a0 16) = Int32.ofNat l.length := by rw [q_w_ne (fun q _ => ne q)]; exact r16
  simp only [s16, o32i (show l.length ≤ 900 by omega)]
  refine ⟨((rF.ww (by omega)).tr (rF.ww (by omega))).tr (rF.w (by omega)), ?_, fun x y hx hy => ?_⟩
  · rw [q_w_ne (fun _ q => by omega), q_w_ne (fun q _ => ne q), q_w_ne (fun q _ => ne q)]
  · subst hx
    subst hy
    have go : ∀ c k, c ≠ W → ¬ (c = a0 ∧ k = 16) → (q_w (q_w (q_w σ W (1286 + 2 * l.length) (.int (Int32.ofNat x))) W (1287 + 2 * l.length) (.int (Int32.ofNat y))) a0 16 (.int (Int32.ofNat (l.length + 1)))).1 c k = σ.1 c k := by
      intro c k q1 q2
      rw [q_w_ne (fun e1 e2 => q2 ⟨e1, e2⟩), q_w_ne (fun e1 _ => q1 e1), q_w_ne (fun e1 _ => q1 e1)]
    have gw : ∀ k, (q_w (q_w (q_w σ W (1286 + 2 * l.length) (.int (Int32.ofNat x))) W (1287 + 2 * l.length) (.int (Int32.ofNat y))) a0 16 (.int (Int32.ofNat (l.length + 1)))).1 W k = if k = 1287 + 2 * l.length then .int (Int32.ofNat y) else if k = 1286 + 2 * l.length then .int (Int32.ofNat x) else σ.1 W k := by
      intro k
      rw [q_w_ne (fun e1 _ => g4 e1)]
      by_cases hk : k = 1287 + 2 * l.length
      · rw [if_pos hk, hk, q_w_at]
      · rw [if_neg hk, q_w_ne (fun _ e2 => hk e2)]
        by_cases hk2 : k = 1286 + 2 * l.length
        · rw [if_pos hk2, hk2, q_w_at]
        · rw [if_neg hk2, q_w_ne (fun _ e2 => hk2 e2)]
    obtain ⟨f1, f2, f3, f4, f5⟩ := g1
    refine ⟨⟨?_, ?_, ?_, f4, f5⟩, ?_, ?_, g4, ?_, g6, ?_, g8, ?_, ?_, fun i z hz => ?_⟩
    · rw [go _ _ (fun q => ne q) (fun q => by omega)]; exact f1
    · rw [go _ _ (fun q => ne q) (fun q => by omega)]; exact f2
    · rw [go _ _ (fun q => ne q) (fun q => by omega)]; exact f3
    · rw [← g2]
      funext i
      unfold rb
      rw [go a0 8 (fun q => ne q) (fun q => by omega), go _ _ g5 (fun q => f1 q.1)]
    · rw [go _ _ (fun q => ne q) (fun q => by omega)]; exact g3
    · rw [go _ _ (fun q => ne q) (fun q => by omega)]; exact g5
    · rw [go _ _ (fun q => ne q) (fun q => by omega)]; exact g7
    · rw [q_w_at, List.length_append]; rfl
    · rw [List.length_append]; show l.length + 1 ≤ 400; omega
    · rw [gw, gw]
      by_cases hi : i < l.length
      · rw [List.getElem?_append_left hi] at hz
        rw [if_neg (by omega), if_neg (by omega), if_neg (by omega), if_neg (by omega)]
        exact g11 i z hz
      · rw [List.getElem?_append_right (by omega)] at hz
        have hi2 : i = l.length := by
          cases hd : i - l.length with
          | zero => omega
          | succ n => rw [hd] at hz; simp at hz
        subst hi2
        rw [Nat.sub_self] at hz
        cases hz
        rw [if_neg (by omega), if_pos rfl, if_pos rfl]
        exact ⟨rfl, rfl⟩
noncomputable def qP_221 : zPp := fun as σ o σ' => match as with
  | [a0, a1, a2] => o = .inl none ∧ p_221 (q_r a0) (q_i a1) (q_i a2) σ σ'
  | _ => True
set_option maxRecDepth 100000 in
theorem sp_221 {sx : zX}  : zEe sx 221 3 qP_221 := by
  refine zfle zJ_221 (sps := []) (fun q hq => absurd hq List.not_mem_nil) (fun as σ hl => ?_)
  match as, hl with
  | [a0, a1, a2], _ =>
  refine ⟨[], 400, ?_, ?_⟩
  · exact fun q hq => absurd hq List.not_mem_nil
  · refine fun h1 => ?_
    refine fun h2 => ?_
    exact ⟨rfl, sp_221_e (q_r a0) (q_i a1) (q_i a2) σ (q_inp h1) (q_inp h2)⟩
theorem qsi_50 : q_si (zB + 50) = wFamily := by decide +kernel
theorem qsi_57 : q_si (zB + 57) = wHour := by decide +kernel
theorem qsi_58 : q_si (zB + 58) = wHeat := by decide +kernel
theorem qsi_59 : q_si (zB + 59) = wDirt := by decide +kernel
theorem qsi_60 : q_si (zB + 60) = wQuarrel := by decide +kernel
theorem qsi_49 : q_si (zB + 49) = wLeft := by decide +kernel
theorem qsi_61 : q_si (zB + 61) = wNight := by decide +kernel
theorem qsi_62 : q_si (zB + 62) = wWished := by decide +kernel
theorem qsi_63 : q_si (zB + 63) = wNot := by decide +kernel
theorem qsi_64 : q_si (zB + 64) = wAnd := by decide +kernel
theorem qsi_65 : q_si (zB + 65) = wOr := by decide +kernel
noncomputable def p_222 (a : Nat) (σ : zSg) (r : Int32) (σ' : zSg) : Prop := ∀ W b P E D l, rG σ a W b P E D l → rF σ σ' a W ∧ rO σ' a W b E D l r (gPart b E (zBl b E P))
theorem zLt_ne {b : Nat → Int} {E A : Nat} (h : zLt b E A ≠ A) : ¬ (A < E ∧ 48 ≤ b A ∧ b A ≤ 57) := by
  intro q
  have h1 : A < zLt b E A := Nat.lt_of_le_of_ne zRn_ge (fun e => h e.symm)
  have := zRn_in (b := b) (E := E) (lo := 97) (hi := 122) (P := A) (Nat.le_refl A) h1
  omega
theorem zDe_0 {b : Nat → Int} {E A : Nat} {lo hi : Int} (h : ¬ (A < E ∧ 48 ≤ b A ∧ b A ≤ 57)) : zNm b E lo hi A = -1 := by
  unfold zNm
  rw [show zDe b E A = A from zRn_f h, Nat.sub_self, if_neg (by omega)]
theorem zNm_ge {b : Nat → Int} {E A : Nat} {lo hi : Int} (h : zNm b E lo hi A ≠ -1) : 0 ≤ zNm b E lo hi A ∧ zNm b E lo hi A ≤ 1110 := by
  unfold zNm at h ⊢
  split at h
  · next hc =>
    rw [if_pos hc]
    exact zDv_in _ (by have := zRn_ge (b := b) (E := E) (lo := 48) (hi := 57) (P := A); show A + (zDe b E A - A) ≤ zDe b E A; have e : zDe b E A = zRn b E 48 57 A := rfl; omega)
  · exact absurd rfl h
theorem gPart_w {b : Nat → Int} {E A A1 c : Nat} (h : ¬ (A < E ∧ 48 ≤ b A ∧ b A ≤ 57)) (h1 : tws b E A [wFamily, wHour, wHeat, wDirt, wQuarrel, wLeft] 0 = some (A1, c)) : gPart b E A = .inl (A1, [(c, 0)]) := by
  unfold gPart
  rw [if_neg h, h1]
theorem gPart_n {b : Nat → Int} {E A : Nat} (h : ¬ (A < E ∧ 48 ≤ b A ∧ b A ≤ 57)) (h1 : tws b E A [wFamily, wHour, wHeat, wDirt, wQuarrel, wLeft] 0 = none) : gPart b E A = .inr A := by
  unfold gPart
  rw [if_neg h, h1]
theorem tw_0 {b : Nat → Int} {E A : Nat} {s : List Int} (h : zLt b E A = A) (hs : 0 < s.length) : tw b E s A = none := by
  exact tw_neg (fun q => by have h9 : zLt b E A = A + s.length := q.1; omega)
theorem sp_222_ettttttt (a0 : Nat) (σ : zSg) (τ1 : zSg) (τ3 : zSg) (r3 : Int32) (τ5 : zSg) (r5 : Int32) (τ7 : zSg) (r7 : Int32) (τ9 : zSg) (r9 : Int32) (τ11 : zSg) (r11 : Int32) (τ13 : zSg) (r13 : Int32) (τ15 : zSg) (g1 : p_203 a0 σ τ1) (h2 : (q_i (τ1.1 a0 10)).toInt ≠ (q_i (τ1.1 a0 12)).toInt) (g3 : p_204 a0 (zB + 50) τ1 r3 τ3) (h4 : r3.toInt = (0 : Int)) (g5 : p_204 a0 (zB + 57) τ3 r5 τ5) (h6 : r5.toInt = (0 : Int)) (g7 : p_204 a0 (zB + 58) τ5 r7 τ7) (h8 : r7.toInt = (0 : Int)) (g9 : p_204 a0 (zB + 59) τ7 r9 τ9) (h10 : r9.toInt = (0 : Int)) (g11 : p_204 a0 (zB + 60) τ9 r11 τ11) (h12 : r11.toInt = (0 : Int)) (g13 : p_204 a0 (zB + 49) τ11 r13 τ13) (h14 : r13.toInt = (0 : Int)) (g15 : p_221 a0 (Int32.ofInt (-1)) (Int32.ofInt (0)) τ13 τ15) :
    p_222 (a0) σ (Int32.ofInt (0)) τ15 := by
  intro W b P E D l H
  obtain ⟨f0, t12, t10, H0⟩ := H.lt g1
  have hz : zLt b E (zBl b E P) ≠ zBl b E P := by
    intro q
    rw [t10, t12, q] at h2
    exact h2 rfl
  have hd := zLt_ne hz
  obtain ⟨rfl, u0, v0⟩ := H0.wd t12 g3 qsi_50 (by decide)
  obtain ⟨rfl, u1, v1⟩ := H0.wd t12 g5 qsi_57 (by decide)
  obtain ⟨rfl, u2, v2⟩ := H0.wd t12 g7 qsi_58 (by decide)
  obtain ⟨rfl, u3, v3⟩ := H0.wd t12 g9 qsi_59 (by decide)
  obtain ⟨rfl, u4, v4⟩ := H0.wd t12 g11 qsi_60 (by decide)
  obtain ⟨rfl, u5, v5⟩ := H0.wd t12 g13 qsi_49 (by decide)
  have e0 := v0 h4
  have e1 := v1 h6
  have e2 := v2 h8
  have e3 := v3 h10
  have e4 := v4 h12
  have e5 := v5 h14
  have hp : gPart b E (zBl b E P) = .inr (zBl b E P) := gPart_n hd (by simp only [tws, e0, e1, e2, e3, e4, e5])
  obtain ⟨f1, s12, -⟩ := g15 W b _ E D l H0
  refine ⟨f0.tr f1, ?_⟩
  rw [hp]
  exact ⟨rfl, s12.trans t12⟩
theorem sp_222_ettttttf (a0 : Nat) (σ : zSg) (τ1 : zSg) (τ3 : zSg) (r3 : Int32) (τ5 : zSg) (r5 : Int32) (τ7 : zSg) (r7 : Int32) (τ9 : zSg) (r9 : Int32) (τ11 : zSg) (r11 : Int32) (τ13 : zSg) (r13 : Int32) (τ17 : zSg) (g1 : p_203 a0 σ τ1) (h2 : (q_i (τ1.1 a0 10)).toInt ≠ (q_i (τ1.1 a0 12)).toInt) (g3 : p_204 a0 (zB + 50) τ1 r3 τ3) (h4 : r3.toInt = (0 : Int)) (g5 : p_204 a0 (zB + 57) τ3 r5 τ5) (h6 : r5.toInt = (0 : Int)) (g7 : p_204 a0 (zB + 58) τ5 r7 τ7) (h8 : r7.toInt = (0 : Int)) (g9 : p_204 a0 (zB + 59) τ7 r9 τ9) (h10 : r9.toInt = (0 : Int)) (g11 : p_204 a0 (zB + 60) τ9 r11 τ11) (h12 : r11.toInt = (0 : Int)) (g13 : p_204 a0 (zB + 49) τ11 r13 τ13) (h14 : r13.toInt ≠ (0 : Int)) (g17 : p_221 a0 (Int32.ofInt (5)) (Int32.ofInt (0)) τ13 τ17) :
    p_222 (a0) σ (Int32.ofInt (1)) τ17 := by
  intro W b P E D l H
  obtain ⟨f0, t12, t10, H0⟩ := H.lt g1
  have hz : zLt b E (zBl b E P) ≠ zBl b E P := by
    intro q
    rw [t10, t12, q] at h2
    exact h2 rfl
  have hd := zLt_ne hz
  obtain ⟨rfl, u0, v0⟩ := H0.wd t12 g3 qsi_50 (by decide)
  obtain ⟨rfl, u1, v1⟩ := H0.wd t12 g5 qsi_57 (by decide)
  obtain ⟨rfl, u2, v2⟩ := H0.wd t12 g7 qsi_58 (by decide)
  obtain ⟨rfl, u3, v3⟩ := H0.wd t12 g9 qsi_59 (by decide)
  obtain ⟨rfl, u4, v4⟩ := H0.wd t12 g11 qsi_60 (by decide)
  obtain ⟨rfl, u5, v5⟩ := H0.wd t12 g13 qsi_49 (by decide)
  have e0 := v0 h4
  have e1 := v1 h6
  have e2 := v2 h8
  have e3 := v3 h10
  have e4 := v4 h12
  have e5 := (u5 h14).2
  have hp : gPart b E (zBl b E P) = .inl (zBl b E (zLt b E (zBl b E P)), [(5, 0)]) := gPart_w hd (by simp only [tws, e0, e1, e2, e3, e4, e5])
  obtain ⟨f1, -, H1⟩ := g17 W b _ E D l H0
  refine ⟨f0.tr f1, ?_⟩
  rw [hp]
  exact ⟨by decide, _, H0.le.1, rfl, H1 5 0 rfl rfl⟩
theorem sp_222_etttttf (a0 : Nat) (σ : zSg) (τ1 : zSg) (τ3 : zSg) (r3 : Int32) (τ5 : zSg) (r5 : Int32) (τ7 : zSg) (r7 : Int32) (τ9 : zSg) (r9 : Int32) (τ11 : zSg) (r11 : Int32) (τ19 : zSg) (g1 : p_203 a0 σ τ1) (h2 : (q_i (τ1.1 a0 10)).toInt ≠ (q_i (τ1.1 a0 12)).toInt) (g3 : p_204 a0 (zB + 50) τ1 r3 τ3) (h4 : r3.toInt = (0 : Int)) (g5 : p_204 a0 (zB + 57) τ3 r5 τ5) (h6 : r5.toInt = (0 : Int)) (g7 : p_204 a0 (zB + 58) τ5 r7 τ7) (h8 : r7.toInt = (0 : Int)) (g9 : p_204 a0 (zB + 59) τ7 r9 τ9) (h10 : r9.toInt = (0 : Int)) (g11 : p_204 a0 (zB + 60) τ9 r11 τ11) (h12 : r11.toInt ≠ (0 : Int)) (g19 : p_221 a0 (Int32.ofInt (4)) (Int32.ofInt (0)) τ11 τ19) :
    p_222 (a0) σ (Int32.ofInt (1)) τ19 := by
  intro W b P E D l H
  obtain ⟨f0, t12, t10, H0⟩ := H.lt g1
  have hz : zLt b E (zBl b E P) ≠ zBl b E P := by
    intro q
    rw [t10, t12, q] at h2
    exact h2 rfl
  have hd := zLt_ne hz
  obtain ⟨rfl, u0, v0⟩ := H0.wd t12 g3 qsi_50 (by decide)
  obtain ⟨rfl, u1, v1⟩ := H0.wd t12 g5 qsi_57 (by decide)
  obtain ⟨rfl, u2, v2⟩ := H0.wd t12 g7 qsi_58 (by decide)
  obtain ⟨rfl, u3, v3⟩ := H0.wd t12 g9 qsi_59 (by decide)
  obtain ⟨rfl, u4, v4⟩ := H0.wd t12 g11 qsi_60 (by decide)
  have e0 := v0 h4
  have e1 := v1 h6
  have e2 := v2 h8
  have e3 := v3 h10
  have e4 := (u4 h12).2
  have hp : gPart b E (zBl b E P) = .inl (zBl b E (zLt b E (zBl b E P)), [(4, 0)]) := gPart_w hd (by simp only [tws, e0, e1, e2, e3, e4])
  obtain ⟨f1, -, H1⟩ := g19 W b _ E D l H0
  refine ⟨f0.tr f1, ?_⟩
  rw [hp]
  exact ⟨by decide, _, H0.le.1, rfl, H1 4 0 rfl rfl⟩
theorem sp_222_ettttf (a0 : Nat) (σ : zSg) (τ1 : zSg) (τ3 : zSg) (r3 : Int32) (τ5 : zSg) (r5 : Int32) (τ7 : zSg) (r7 : Int32) (τ9 : zSg) (r9 : Int32) (τ21 : zSg) (g1 : p_203 a0 σ τ1) (h2 : (q_i (τ1.1 a0 10)).toInt ≠ (q_i (τ1.1 a0 12)).toInt) (g3 : p_204 a0 (zB + 50) τ1 r3 τ3) (h4 : r3.toInt = (0 : Int)) (g5 : p_204 a0 (zB + 57) τ3 r5 τ5) (h6 : r5.toInt = (0 : Int)) (g7 : p_204 a0 (zB + 58) τ5 r7 τ7) (h8 : r7.toInt = (0 : Int)) (g9 : p_204 a0 (zB + 59) τ7 r9 τ9) (h10 : r9.toInt ≠ (0 : Int)) (g21 : p_221 a0 (Int32.ofInt (3)) (Int32.ofInt (0)) τ9 τ21) :
    p_222 (a0) σ (Int32.ofInt (1)) τ21 := by
  intro W b P E D l H
  obtain ⟨f0, t12, t10, H0⟩ := H.lt g1
  have hz : zLt b E (zBl b E P) ≠ zBl b E P := by
    intro q
    rw [t10, t12, q] at h2
    exact h2 rfl
  have hd := zLt_ne hz
  obtain ⟨rfl, u0, v0⟩ := H0.wd t12 g3 qsi_50 (by decide)
  obtain ⟨rfl, u1, v1⟩ := H0.wd t12 g5 qsi_57 (by decide)
  obtain ⟨rfl, u2, v2⟩ := H0.wd t12 g7 qsi_58 (by decide)
  obtain ⟨rfl, u3, v3⟩ := H0.wd t12 g9 qsi_59 (by decide)
  have e0 := v0 h4
  have e1 := v1 h6
  have e2 := v2 h8
  have e3 := (u3 h10).2
  have hp : gPart b E (zBl b E P) = .inl (zBl b E (zLt b E (zBl b E P)), [(3, 0)]) := gPart_w hd (by simp only [tws, e0, e1, e2, e3])
  obtain ⟨f1, -, H1⟩ := g21 W b _ E D l H0
  refine ⟨f0.tr f1, ?_⟩
  rw [hp]
  exact ⟨by decide, _, H0.le.1, rfl, H1 3 0 rfl rfl⟩
theorem sp_222_etttf (a0 : Nat) (σ : zSg) (τ1 : zSg) (τ3 : zSg) (r3 : Int32) (τ5 : zSg) (r5 : Int32) (τ7 : zSg) (r7 : Int32) (τ23 : zSg) (g1 : p_203 a0 σ τ1) (h2 : (q_i (τ1.1 a0 10)).toInt ≠ (q_i (τ1.1 a0 12)).toInt) (g3 : p_204 a0 (zB + 50) τ1 r3 τ3) (h4 : r3.toInt = (0 : Int)) (g5 : p_204 a0 (zB + 57) τ3 r5 τ5) (h6 : r5.toInt = (0 : Int)) (g7 : p_204 a0 (zB + 58) τ5 r7 τ7) (h8 : r7.toInt ≠ (0 : Int)) (g23 : p_221 a0 (Int32.ofInt (2)) (Int32.ofInt (0)) τ7 τ23) :
    p_222 (a0) σ (Int32.ofInt (1)) τ23 := by
  intro W b P E D l H
  obtain ⟨f0, t12, t10, H0⟩ := H.lt g1
  have hz : zLt b E (zBl b E P) ≠ zBl b E P := by
    intro q
    rw [t10, t12, q] at h2
    exact h2 rfl
  have hd := zLt_ne hz
  obtain ⟨rfl, u0, v0⟩ := H0.wd t12 g3 qsi_50 (by decide)
  obtain ⟨rfl, u1, v1⟩ := H0.wd t12 g5 qsi_57 (by decide)
  obtain ⟨rfl, u2, v2⟩ := H0.wd t12 g7 qsi_58 (by decide)
  have e0 := v0 h4
  have e1 := v1 h6
  have e2 := (u2 h8).2
  have hp : gPart b E (zBl b E P) = .inl (zBl b E (zLt b E (zBl b E P)), [(2, 0)]) := gPart_w hd (by simp only [tws, e0, e1, e2])
  obtain ⟨f1, -, H1⟩ := g23 W b _ E D l H0
  refine ⟨f0.tr f1, ?_⟩
  rw [hp]
  exact ⟨by decide, _, H0.le.1, rfl, H1 2 0 rfl rfl⟩
theorem sp_222_ettf (a0 : Nat) (σ : zSg) (τ1 : zSg) (τ3 : zSg) (r3 : Int32) (τ5 : zSg) (r5 : Int32) (τ25 : zSg) (g1 : p_203 a0 σ τ1) (h2 : (q_i (τ1.1 a0 10)).toInt ≠ (q_i (τ1.1 a0 12)).toInt) (g3 : p_204 a0 (zB + 50) τ1 r3 τ3) (h4 : r3.toInt = (0 : Int)) (g5 : p_204 a0 (zB + 57) τ3 r5 τ5) (h6 : r5.toInt ≠ (0 : Int)) (g25 : p_221 a0 (Int32.ofInt (1)) (Int32.ofInt (0)) τ5 τ25) :
    p_222 (a0) σ (Int32.ofInt (1)) τ25 := by
  intro W b P E D l H
  obtain ⟨f0, t12, t10, H0⟩ := H.lt g1
  have hz : zLt b E (zBl b E P) ≠ zBl b E P := by
    intro q
    rw [t10, t12, q] at h2
    exact h2 rfl
  have hd := zLt_ne hz
  obtain ⟨rfl, u0, v0⟩ := H0.wd t12 g3 qsi_50 (by decide)
  obtain ⟨rfl, u1, v1⟩ := H0.wd t12 g5 qsi_57 (by decide)
  have e0 := v0 h4
  have e1 := (u1 h6).2
  have hp : gPart b E (zBl b E P) = .inl (zBl b E (zLt b E (zBl b E P)), [(1, 0)]) := gPart_w hd (by simp only [tws, e0, e1])
  obtain ⟨f1, -, H1⟩ := g25 W b _ E D l H0
  refine ⟨f0.tr f1, ?_⟩
  rw [hp]
  exact ⟨by decide, _, H0.le.1, rfl, H1 1 0 rfl rfl⟩
theorem sp_222_etf (a0 : Nat) (σ : zSg) (τ1 : zSg) (τ3 : zSg) (r3 : Int32) (τ27 : zSg) (g1 : p_203 a0 σ τ1) (h2 : (q_i (τ1.1 a0 10)).toInt ≠ (q_i (τ1.1 a0 12)).toInt) (g3 : p_204 a0 (zB + 50) τ1 r3 τ3) (h4 : r3.toInt ≠ (0 : Int)) (g27 : p_221 a0 (Int32.ofInt (0)) (Int32.ofInt (0)) τ3 τ27) :
    p_222 (a0) σ (Int32.ofInt (1)) τ27 := by
  intro W b P E D l H
  obtain ⟨f0, t12, t10, H0⟩ := H.lt g1
  have hz : zLt b E (zBl b E P) ≠ zBl b E P := by
    intro q
    rw [t10, t12, q] at h2
    exact h2 rfl
  have hd := zLt_ne hz
  obtain ⟨rfl, u0, v0⟩ := H0.wd t12 g3 qsi_50 (by decide)
  have e0 := (u0 h4).2
  have hp : gPart b E (zBl b E P) = .inl (zBl b E (zLt b E (zBl b E P)), [(0, 0)]) := gPart_w hd (by simp only [tws, e0])
  obtain ⟨f1, -, H1⟩ := g27 W b _ E D l H0
  refine ⟨f0.tr f1, ?_⟩
  rw [hp]
  exact ⟨by decide, _, H0.le.1, rfl, H1 0 0 rfl rfl⟩
theorem sp_222_eft (a0 : Nat) (σ : zSg) (τ1 : zSg) (τ29 : zSg) (r29 : Int32) (τ30 : zSg) (g1 : p_203 a0 σ τ1) (h2 : (q_i (τ1.1 a0 10)).toInt = (q_i (τ1.1 a0 12)).toInt) (g29 : p_207 a0 (Int32.ofInt (0)) (Int32.ofInt (999)) τ1 r29 τ29) (g30 : p_221 a0 (Int32.ofInt (8)) r29 τ29 τ30) (h31 : r29.toInt < (0 : Int)) :
    p_222 (a0) σ (Int32.ofInt (0)) τ30 := by
  intro W b P E D l H
  obtain ⟨f0, t12, t10, H0⟩ := H.lt g1
  have hB := H.bl
  have hE := H.le.2
  have hz : zLt b E (zBl b E P) = zBl b E P := by
    rw [t10, t12] at h2
    have h9 : (Int32.ofNat (zLt b E (zBl b E P))).toInt = (Int32.ofNat (zBl b E P)).toInt := h2
    have := zRn_le (b := b) (lo := 97) (hi := 122) hB
    have e9 : zLt b E (zBl b E P) = zRn b E 97 122 (zBl b E P) := rfl
    rw [o32 (by omega), o32 (by omega)] at h9
    omega
  have g9 := g29 _ E H0.1
  rw [H0.2.1, hz, zBl_bl] at g9
  obtain ⟨g8, rfl⟩ := g9
  have c9 : (Int32.ofInt 999).toInt = 999 := rfl
  have c0 : (Int32.ofInt 0).toInt = 0 := rfl
  rw [c0, c9] at g8
  have H1 := H0.rs (K := zDe b E (zBl b E P)) (Q := zBl b E P) (zRn_le hB)
  obtain ⟨f1, s12, K1⟩ := g30 W b _ E D l H1
  refine ⟨(f0.tr rF.rs).tr f1, ?_⟩
  by_cases hd : zBl b E P < E ∧ 48 ≤ b (zBl b E P) ∧ b (zBl b E P) ≤ 57
  · have hn : tn b E 0 999 (zBl b E P) = none := by
      unfold tn
      rw [if_neg (by omega)]
    have hp : gPart b E (zBl b E P) = .inr (zBl b E P) := by
      unfold gPart
      rw [if_pos hd, hn]
    rw [hp]
    exact ⟨rfl, s12.trans q_rs_12⟩
  · have hp : gPart b E (zBl b E P) = .inr (zBl b E P) := gPart_n hd (by simp only [tws, tw_0 hz (show 0 < wFamily.length by decide), tw_0 hz (show 0 < wHour.length by decide), tw_0 hz (show 0 < wHeat.length by decide), tw_0 hz (show 0 < wDirt.length by decide), tw_0 hz (show 0 < wQuarrel.length by decide), tw_0 hz (show 0 < wLeft.length by decide)])
    rw [hp]
    exact ⟨rfl, s12.trans q_rs_12⟩
theorem sp_222_eff (a0 : Nat) (σ : zSg) (τ1 : zSg) (τ29 : zSg) (r29 : Int32) (τ30 : zSg) (g1 : p_203 a0 σ τ1) (h2 : (q_i (τ1.1 a0 10)).toInt = (q_i (τ1.1 a0 12)).toInt) (g29 : p_207 a0 (Int32.ofInt (0)) (Int32.ofInt (999)) τ1 r29 τ29) (g30 : p_221 a0 (Int32.ofInt (8)) r29 τ29 τ30) (h31 : r29.toInt ≥ (0 : Int)) :
    p_222 (a0) σ (Int32.ofInt (1)) τ30 := by
  intro W b P E D l H
  obtain ⟨f0, t12, t10, H0⟩ := H.lt g1
  have hB := H.bl
  have hE := H.le.2
  have hz : zLt b E (zBl b E P) = zBl b E P := by
    rw [t10, t12] at h2
    have h9 : (Int32.ofNat (zLt b E (zBl b E P))).toInt = (Int32.ofNat (zBl b E P)).toInt := h2
    have := zRn_le (b := b) (lo := 97) (hi := 122) hB
    have e9 : zLt b E (zBl b E P) = zRn b E 97 122 (zBl b E P) := rfl
    rw [o32 (by omega), o32 (by omega)] at h9
    omega
  have g9 := g29 _ E H0.1
  rw [H0.2.1, hz, zBl_bl] at g9
  obtain ⟨g8, rfl⟩ := g9
  have c9 : (Int32.ofInt 999).toInt = 999 := rfl
  have c0 : (Int32.ofInt 0).toInt = 0 := rfl
  rw [c0, c9] at g8
  have H1 := H0.rs (K := zDe b E (zBl b E P)) (Q := zBl b E P) (zRn_le hB)
  obtain ⟨f1, s12, K1⟩ := g30 W b _ E D l H1
  refine ⟨(f0.tr rF.rs).tr f1, ?_⟩
  by_cases hd : zBl b E P < E ∧ 48 ≤ b (zBl b E P) ∧ b (zBl b E P) ≤ 57
  · have hv := zNm_ge (b := b) (E := E) (lo := 0) (hi := 999) (A := zBl b E P) (by omega)
    have h999 : zNm b E 0 999 (zBl b E P) ≤ 999 := by
      unfold zNm
      split <;> omega
    have hn : tn b E 0 999 (zBl b E P) = some (zBl b E (zDe b E (zBl b E P)), (zNm b E 0 999 (zBl b E P)).toNat) := by
      unfold tn
      rw [if_pos (by omega)]
    have hp : gPart b E (zBl b E P) = .inl (zBl b E (zDe b E (zBl b E P)), [(8, (zNm b E 0 999 (zBl b E P)).toNat)]) := by
      unfold gPart
      rw [if_pos hd, hn]
    rw [hp]
    refine ⟨by decide, _, zRn_le hB, rfl, K1 8 _ rfl ?_⟩
    refine Int32.toInt_inj.mp ?_
    rw [o32 (by omega)]
    omega
  · rw [zDe_0 hd] at g8
    omega
noncomputable def qP_222 : zPp := fun as σ o σ' => match as with
  | [a0] => ∃ r, o = .inl (some (.int r)) ∧ p_222 (q_r a0) σ r σ'
  | _ => True
set_option maxRecDepth 100000 in
theorem sp_222 {sx : zX} (S203 : zEe sx 203 1 qP_203) (S204 : zEe sx 204 2 qP_204) (S221 : zEe sx 221 3 qP_221) (S207 : zEe sx 207 3 qP_207) : zEe sx 222 1 qP_222 := by
  refine zfle zJ_222 (sps := [(203, 1, qP_203), (204, 2, qP_204), (221, 3, qP_221), (207, 3, qP_207)]) (fun q hq => by
    simp only [List.mem_cons, List.not_mem_nil, or_false] at hq
    rcases hq with rfl | rfl | rfl | rfl
    · exact S203
    · exact S204
    · exact S221
    · exact S207) (fun as σ hl => ?_)
  match as, hl with
  | [a0], _ =>
  refine ⟨[], 400, ?_, ?_⟩
  · exact fun q hq => absurd hq List.not_mem_nil
  · refine fun o1 τ1 g1 => ?_
    obtain ⟨rfl, g1⟩ := g1
    refine And.intro (fun h2 => ?_) (fun h2 => ?_)
    · refine fun o3 τ3 g3 => ?_
      obtain ⟨r3, rfl, g3⟩ := g3
      refine And.intro (fun h4 => ?_) (fun h4 => ?_)
      · refine fun o5 τ5 g5 => ?_
        obtain ⟨r5, rfl, g5⟩ := g5
        refine And.intro (fun h6 => ?_) (fun h6 => ?_)
        · refine fun o7 τ7 g7 => ?_
          obtain ⟨r7, rfl, g7⟩ := g7
          refine And.intro (fun h8 => ?_) (fun h8 => ?_)
          · refine fun o9 τ9 g9 => ?_
            obtain ⟨r9, rfl, g9⟩ := g9
            refine And.intro (fun h10 => ?_) (fun h10 => ?_)
            · refine fun o11 τ11 g11 => ?_
              obtain ⟨r11, rfl, g11⟩ := g11
              refine And.intro (fun h12 => ?_) (fun h12 => ?_)
              · refine fun o13 τ13 g13 => ?_
                obtain ⟨r13, rfl, g13⟩ := g13
                refine And.intro (fun h14 => ?_) (fun h14 => ?_)
                · refine fun o15 τ15 g15 => ?_
                  obtain ⟨rfl, g15⟩ := g15
                  refine And.intro (fun _ => ?_) (fun h16 => absurd (show z_cmp 2 (Int32.ofInt (-1)) 0 = false from h16) (by decide))
                  exact ⟨_, rfl, sp_222_ettttttt (q_r a0) σ τ1 τ3 r3 τ5 r5 τ7 r7 τ9 r9 τ11 r11 τ13 r13 τ15 g1 (cm1t h2) g3 (cm0t h4) g5 (cm0t h6) g7 (cm0t h8) g9 (cm0t h10) g11 (cm0t h12) g13 (cm0t h14) g15⟩
                · refine fun o17 τ17 g17 => ?_
                  obtain ⟨rfl, g17⟩ := g17
                  refine And.intro (fun h18 => absurd (show z_cmp 2 (Int32.ofInt (5)) 0 = true from h18) (by decide)) (fun _ => ?_)
                  exact ⟨_, rfl, sp_222_ettttttf (q_r a0) σ τ1 τ3 r3 τ5 r5 τ7 r7 τ9 r9 τ11 r11 τ13 r13 τ17 g1 (cm1t h2) g3 (cm0t h4) g5 (cm0t h6) g7 (cm0t h8) g9 (cm0t h10) g11 (cm0t h12) g13 (cm0f h14) g17⟩
              · refine fun o19 τ19 g19 => ?_
                obtain ⟨rfl, g19⟩ := g19
                refine And.intro (fun h20 => absurd (show z_cmp 2 (Int32.ofInt (4)) 0 = true from h20) (by decide)) (fun _ => ?_)
                exact ⟨_, rfl, sp_222_etttttf (q_r a0) σ τ1 τ3 r3 τ5 r5 τ7 r7 τ9 r9 τ11 r11 τ19 g1 (cm1t h2) g3 (cm0t h4) g5 (cm0t h6) g7 (cm0t h8) g9 (cm0t h10) g11 (cm0f h12) g19⟩
            · refine fun o21 τ21 g21 => ?_
              obtain ⟨rfl, g21⟩ := g21
              refine And.intro (fun h22 => absurd (show z_cmp 2 (Int32.ofInt (3)) 0 = true from h22) (by decide)) (fun _ => ?_)
              exact ⟨_, rfl, sp_222_ettttf (q_r a0) σ τ1 τ3 r3 τ5 r5 τ7 r7 τ9 r9 τ21 g1 (cm1t h2) g3 (cm0t h4) g5 (cm0t h6) g7 (cm0t h8) g9 (cm0f h10) g21⟩
          · refine fun o23 τ23 g23 => ?_
            obtain ⟨rfl, g23⟩ := g23
            refine And.intro (fun h24 => absurd (show z_cmp 2 (Int32.ofInt (2)) 0 = true from h24) (by decide)) (fun _ => ?_)
            exact ⟨_, rfl, sp_222_etttf (q_r a0) σ τ1 τ3 r3 τ5 r5 τ7 r7 τ23 g1 (cm1t h2) g3 (cm0t h4) g5 (cm0t h6) g7 (cm0f h8) g23⟩
        · refine fun o25 τ25 g25 => ?_
          obtain ⟨rfl, g25⟩ := g25
          refine And.intro (fun h26 => absurd (show z_cmp 2 (Int32.ofInt (1)) 0 = true from h26) (by decide)) (fun _ => ?_)
          exact ⟨_, rfl, sp_222_ettf (q_r a0) σ τ1 τ3 r3 τ5 r5 τ25 g1 (cm1t h2) g3 (cm0t h4) g5 (cm0f h6) g25⟩
      · refine fun o27 τ27 g27 => ?_
        obtain ⟨rfl, g27⟩ := g27
        refine And.intro (fun h28 => absurd (show z_cmp 2 (Int32.ofInt (0)) 0 = true from h28) (by decide)) (fun _ => ?_)
        exact ⟨_, rfl, sp_222_etf (q_r a0) σ τ1 τ3 r3 τ27 g1 (cm1t h2) g3 (cm0f h4) g27⟩
    · refine fun o29 τ29 g29 => ?_
      obtain ⟨r29, rfl, g29⟩ := g29
      refine fun o30 τ30 g30 => ?_
      obtain ⟨rfl, g30⟩ := g30
      refine And.intro (fun h31 => ?_) (fun h31 => ?_)
      · exact ⟨_, rfl, sp_222_eft (q_r a0) σ τ1 τ29 r29 τ30 g1 (cm1f h2) g29 g30 (cm2t h31)⟩
      · exact ⟨_, rfl, sp_222_eff (q_r a0) σ τ1 τ29 r29 τ30 g1 (cm1f h2) g29 g30 (cm2f h31)⟩
noncomputable def p_223 (a : Nat) (σ : zSg) (r : Int32) (σ' : zSg) : Prop := ∀ W b P E D l, rG σ a W b P E D l → rF σ σ' a W ∧ ∃ R, GS b E (zBl b E P) R ∧ rO σ' a W b E D l r R
noncomputable def i_223 (a : Nat) (σ : zSg) (l0 : Nat) (τ : zSg) : Prop := l0 = a ∧ ∀ W b P E D l, rG σ a W b P E D l → rF σ τ a W ∧ ∃ P1 m, rG τ a W b P1 E D (l ++ m) ∧ ∀ R, GSL b E (zBl b E P1) m R → GS b E (zBl b E P) R
theorem sp_223_et (a0 : Nat) (σ : zSg) (τ1 : zSg) (r1 : Int32) (g1 : p_222 a0 σ r1 τ1) (h2 : r1.toInt ≠ (0 : Int)) :
    i_223 a0 σ a0 τ1 := by
  refine ⟨rfl, fun W b P E D l H => ?_⟩
  obtain ⟨f1, g2⟩ := g1 W b P E D l H
  refine ⟨f1, ?_⟩
  cases hp : gPart b E (zBl b E P) with
  | inr F => rw [hp] at g2; exact absurd g2.1 h2
  | inl q =>
    obtain ⟨A1, m⟩ := q
    rw [hp] at g2
    obtain ⟨-, P1, p1, rfl, H1⟩ := g2
    exact ⟨P1, m, H1, fun R hR => GS.go hp hR⟩
theorem sp_223_ef (a0 : Nat) (σ : zSg) (τ1 : zSg) (r1 : Int32) (g1 : p_222 a0 σ r1 τ1) (h2 : r1.toInt = (0 : Int)) :
    p_223 (a0) σ (Int32.ofInt (0)) τ1 := by
  intro W b P E D l H
  obtain ⟨f1, g2⟩ := g1 W b P E D l H
  refine ⟨f1, ?_⟩
  cases hp : gPart b E (zBl b E P) with
  | inr F => rw [hp] at g2; exact ⟨_, GS.wrong hp, rfl, g2.2⟩
  | inl q =>
    rw [hp] at g2
    exact absurd h2 g2.1
theorem sp_223_c5_t (a0 : Nat) (σ : zSg) (l0 : Nat) (τ : zSg) (τ3 : zSg) (r3 : Int32) (hI : i_223 a0 σ l0 τ) (g3 : p_206 l0 (Int32.ofInt (43)) τ r3 τ3) (h4 : r3.toInt = (0 : Int)) :
    p_223 (a0) σ (Int32.ofInt (1)) τ3 := by
  obtain ⟨rfl, G⟩ := hI
  intro W b P E D l H
  obtain ⟨f1, P1, m, H1, hR⟩ := G W b P E D l H
  obtain ⟨f2, -, -, q2⟩ := H1.sg g3
  obtain ⟨e1, H2⟩ := q2 h4
  exact ⟨f1.tr f2, _, hR _ (GSL.stop e1), by decide, _, H1.bl, zBl_bl, H2⟩
theorem sp_223_c5_ft (a0 : Nat) (σ : zSg) (l0 : Nat) (τ : zSg) (τ3 : zSg) (r3 : Int32) (τ5 : zSg) (r5 : Int32) (τ7 : zSg) (hI : i_223 a0 σ l0 τ) (g3 : p_206 l0 (Int32.ofInt (43)) τ r3 τ3) (h4 : r3.toInt ≠ (0 : Int)) (g5 : p_222 l0 τ3 r5 τ5) (h6 : r5.toInt ≠ (0 : Int)) (g7 : p_221 l0 (Int32.ofInt (9)) (Int32.ofInt (0)) τ5 τ7) :
    i_223 a0 σ l0 τ7 := by
  obtain ⟨rfl, G⟩ := hI
  refine ⟨rfl, fun W b P E D l H => ?_⟩
  obtain ⟨f1, P1, m, H1, hR⟩ := G W b P E D l H
  obtain ⟨f2, -, q1, -⟩ := H1.sg g3
  obtain ⟨e1, H5⟩ := q1 h4
  obtain ⟨f3, g2⟩ := g5 W b _ E D _ H5
  cases hp : gPart b E (zBl b E (zBl b E P1 + 1)) with
  | inr F => rw [hp] at g2; exact absurd g2.1 h6
  | inl q =>
    obtain ⟨A1, m2⟩ := q
    rw [hp] at g2
    obtain ⟨-, P2, p2, rfl, H6⟩ := g2
    obtain ⟨f4, -, H7⟩ := g7 W b _ E D _ H6
    have H8 := H7 9 0 rfl rfl
    refine ⟨((f1.tr f2).tr f3).tr f4, P2, m ++ m2 ++ [(9, 0)], ?_, fun R h9 => hR R (GSL.step e1 hp h9)⟩
    rw [show l ++ (m ++ m2 ++ [(9, 0)]) = l ++ m ++ m2 ++ [(9, 0)] by simp only [List.append_assoc]]
    exact H8
theorem sp_223_c5_ff (a0 : Nat) (σ : zSg) (l0 : Nat) (τ : zSg) (τ3 : zSg) (r3 : Int32) (τ5 : zSg) (r5 : Int32) (hI : i_223 a0 σ l0 τ) (g3 : p_206 l0 (Int32.ofInt (43)) τ r3 τ3) (h4 : r3.toInt ≠ (0 : Int)) (g5 : p_222 l0 τ3 r5 τ5) (h6 : r5.toInt = (0 : Int)) :
    p_223 (a0) σ (Int32.ofInt (0)) τ5 := by
  obtain ⟨rfl, G⟩ := hI
  intro W b P E D l H
  obtain ⟨f1, P1, m, H1, hR⟩ := G W b P E D l H
  obtain ⟨f2, -, q1, -⟩ := H1.sg g3
  obtain ⟨e1, H5⟩ := q1 h4
  obtain ⟨f3, g2⟩ := g5 W b _ E D _ H5
  refine ⟨(f1.tr f2).tr f3, ?_⟩
  cases hp : gPart b E (zBl b E (zBl b E P1 + 1)) with
  | inl q => rw [hp] at g2; exact absurd h6 g2.1
  | inr F =>
    rw [hp] at g2
    exact ⟨_, hR _ (GSL.wrong e1 hp), rfl, g2.2⟩
noncomputable def qP_223 : zPp := fun as σ o σ' => match as with
  | [a0] => ∃ r, o = .inl (some (.int r)) ∧ p_223 (q_r a0) σ r σ'
  | _ => True
set_option maxRecDepth 100000 in
theorem sp_223 {sx : zX} (S222 : zEe sx 222 1 qP_222) (S206 : zEe sx 206 2 qP_206) (S221 : zEe sx 221 3 qP_221) : zEe sx 223 1 qP_223 := by
  refine zfle zJ_223 (sps := [(222, 1, qP_222), (206, 2, qP_206), (221, 3, qP_221)]) (fun q hq => by
    simp only [List.mem_cons, List.not_mem_nil, or_false] at hq
    rcases hq with rfl | rfl | rfl
    · exact S222
    · exact S206
    · exact S221) (fun as σ hl => ?_)
  match as, hl with
  | [a0], _ =>
  refine ⟨[(5, fun lo st τ => st = [] ∧ i_223 (q_r a0) σ (q_r (lo 0)) τ)], 400, ?_, ?_⟩
  · intro q hq
    simp only [List.mem_cons, List.not_mem_nil, or_false] at hq
    rcases hq with rfl
    · rintro lo st τ ⟨rfl, hI⟩
      refine ⟨400, ?_⟩
      refine fun o3 τ3 g3 => ?_
      obtain ⟨r3, rfl, g3⟩ := g3
      refine And.intro (fun h4 => ?_) (fun h4 => ?_)
      · exact ⟨_, rfl, sp_223_c5_t (q_r a0) σ (q_r (lo 0)) τ τ3 r3 hI g3 (cm0t h4)⟩
      · refine fun o5 τ5 g5 => ?_
        obtain ⟨r5, rfl, g5⟩ := g5
        refine And.intro (fun h6 => ?_) (fun h6 => ?_)
        · refine fun o7 τ7 g7 => ?_
          obtain ⟨rfl, g7⟩ := g7
          exact ⟨rfl, sp_223_c5_ft (q_r a0) σ (q_r (lo 0)) τ τ3 r3 τ5 r5 τ7 hI g3 (cm0f h4) g5 (cm1t h6) g7⟩
        · exact ⟨_, rfl, sp_223_c5_ff (q_r a0) σ (q_r (lo 0)) τ τ3 r3 τ5 r5 hI g3 (cm0f h4) g5 (cm1f h6)⟩
  · refine fun o1 τ1 g1 => ?_
    obtain ⟨r1, rfl, g1⟩ := g1
    refine And.intro (fun h2 => ?_) (fun h2 => ?_)
    · exact ⟨rfl, sp_223_et (q_r a0) σ τ1 r1 g1 (cm1t h2)⟩
    · exact ⟨_, rfl, sp_223_ef (q_r a0) σ τ1 r1 g1 (cm1f h2)⟩
noncomputable def p_224 (a : Nat) (σ : zSg) (r : Int32) (σ' : zSg) : Prop := ∀ W b P E D l, rG σ a W b P E D l → rF σ σ' a W ∧ ((r.toInt ≠ 0 ∧ ∃ R, GB b E (zBl b E P) R ∧ rO σ' a W b E D l r R) ∨ (r.toInt = 0 ∧ tw b E wNight (zBl b E P) = none ∧ tw b E wWished (zBl b E P) = none ∧ rG σ' a W b (zBl b E P) E D l))
theorem sp_224_ett (a0 : Nat) (σ : zSg) (τ1 : zSg) (τ2 : zSg) (r2 : Int32) (τ4 : zSg) (r4 : Int32) (g1 : p_203 a0 σ τ1) (g2 : p_204 a0 (zB + 61) τ1 r2 τ2) (h3 : r2.toInt = (0 : Int)) (g4 : p_204 a0 (zB + 62) τ2 r4 τ4) (h5 : r4.toInt = (0 : Int)) :
    p_224 (a0) σ (Int32.ofInt (0)) (q_w τ4 a0 10 (.int (q_i (τ4.1 a0 12)))) := by
  intro W b P E D l H
  obtain ⟨f0, t12, t10, H0⟩ := H.lt g1
  obtain ⟨rfl, -, v0⟩ := H0.wd t12 g2 qsi_61 (by decide)
  obtain ⟨rfl, -, v1⟩ := H0.wd t12 g4 qsi_62 (by decide)
  refine ⟨f0.tr (rF.w (by omega)), Or.inr ⟨rfl, v0 h3, v1 h5, ?_⟩⟩
  rw [t12]
  exact H0.pt H.bl
theorem sp_224_etf (a0 : Nat) (σ : zSg) (τ1 : zSg) (τ2 : zSg) (r2 : Int32) (τ4 : zSg) (r4 : Int32) (τ9 : zSg) (g1 : p_203 a0 σ τ1) (g2 : p_204 a0 (zB + 61) τ1 r2 τ2) (h3 : r2.toInt = (0 : Int)) (g4 : p_204 a0 (zB + 62) τ2 r4 τ4) (h5 : r4.toInt ≠ (0 : Int)) (g9 : p_221 a0 (Int32.ofInt (7)) (Int32.ofInt (0)) τ4 τ9) :
    p_224 (a0) σ (Int32.ofInt (1)) τ9 := by
  intro W b P E D l H
  obtain ⟨f0, t12, t10, H0⟩ := H.lt g1
  obtain ⟨rfl, -, v0⟩ := H0.wd t12 g2 qsi_61 (by decide)
  obtain ⟨rfl, u1, -⟩ := H0.wd t12 g4 qsi_62 (by decide)
  obtain ⟨f1, -, H1⟩ := g9 W b _ E D l H0
  exact ⟨f0.tr f1, Or.inl ⟨by decide, _, GB.wished (v0 h3) (u1 h5).2, by decide, _, H0.le.1, rfl, H1 7 0 rfl rfl⟩⟩
theorem sp_224_ef (a0 : Nat) (σ : zSg) (τ1 : zSg) (τ2 : zSg) (r2 : Int32) (τ12 : zSg) (g1 : p_203 a0 σ τ1) (g2 : p_204 a0 (zB + 61) τ1 r2 τ2) (h3 : r2.toInt ≠ (0 : Int)) (g12 : p_221 a0 (Int32.ofInt (6)) (Int32.ofInt (0)) τ2 τ12) :
    p_224 (a0) σ (Int32.ofInt (1)) τ12 := by
  intro W b P E D l H
  obtain ⟨f0, t12, t10, H0⟩ := H.lt g1
  obtain ⟨rfl, u0, -⟩ := H0.wd t12 g2 qsi_61 (by decide)
  obtain ⟨f1, -, H1⟩ := g12 W b _ E D l H0
  exact ⟨f0.tr f1, Or.inl ⟨by decide, _, GB.night (u0 h3).2, by decide, _, H0.le.1, rfl, H1 6 0 rfl rfl⟩⟩
noncomputable def qP_224 : zPp := fun as σ o σ' => match as with
  | [a0] => ∃ r, o = .inl (some (.int r)) ∧ p_224 (q_r a0) σ r σ'
  | _ => True
set_option maxRecDepth 100000 in
theorem sp_224 {sx : zX} (S203 : zEe sx 203 1 qP_203) (S204 : zEe sx 204 2 qP_204) (S221 : zEe sx 221 3 qP_221) : zEe sx 224 1 qP_224 := by
  refine zfle zJ_224 (sps := [(203, 1, qP_203), (204, 2, qP_204), (221, 3, qP_221)]) (fun q hq => by
    simp only [List.mem_cons, List.not_mem_nil, or_false] at hq
    rcases hq with rfl | rfl | rfl
    · exact S203
    · exact S204
    · exact S221) (fun as σ hl => ?_)
  match as, hl with
  | [a0], _ =>
  refine ⟨[], 400, ?_, ?_⟩
  · exact fun q hq => absurd hq List.not_mem_nil
  · refine fun o1 τ1 g1 => ?_
    obtain ⟨rfl, g1⟩ := g1
    refine fun o2 τ2 g2 => ?_
    obtain ⟨r2, rfl, g2⟩ := g2
    refine And.intro (fun h3 => ?_) (fun h3 => ?_)
    · refine fun o4 τ4 g4 => ?_
      obtain ⟨r4, rfl, g4⟩ := g4
      refine And.intro (fun h5 => ?_) (fun h5 => ?_)
      · refine And.intro (fun _ => ?_) (fun h6 => absurd (show z_cmp 2 (Int32.ofInt (-1)) 0 = false from h6) (by decide))
        refine And.intro (fun _ => ?_) (fun h7 => absurd (show z_cmp 2 (Int32.ofInt (-1)) 0 = false from h7) (by decide))
        exact ⟨_, rfl, sp_224_ett (q_r a0) σ τ1 τ2 r2 τ4 r4 g1 g2 (cm0t h3) g4 (cm0t h5)⟩
      · refine And.intro (fun h8 => absurd (show z_cmp 2 (Int32.ofInt (7)) 0 = true from h8) (by decide)) (fun _ => ?_)
        refine fun o9 τ9 g9 => ?_
        obtain ⟨rfl, g9⟩ := g9
        refine And.intro (fun h10 => absurd (show z_cmp 2 (Int32.ofInt (7)) 0 = true from h10) (by decide)) (fun _ => ?_)
        exact ⟨_, rfl, sp_224_etf (q_r a0) σ τ1 τ2 r2 τ4 r4 τ9 g1 g2 (cm0t h3) g4 (cm0f h5) g9⟩
    · refine And.intro (fun h11 => absurd (show z_cmp 2 (Int32.ofInt (6)) 0 = true from h11) (by decide)) (fun _ => ?_)
      refine fun o12 τ12 g12 => ?_
      obtain ⟨rfl, g12⟩ := g12
      refine And.intro (fun h13 => absurd (show z_cmp 2 (Int32.ofInt (6)) 0 = true from h13) (by decide)) (fun _ => ?_)
      exact ⟨_, rfl, sp_224_ef (q_r a0) σ τ1 τ2 r2 τ12 g1 g2 (cm0f h3) g12⟩
noncomputable def p_225 (a : Nat) (σ : zSg) (r : Int32) (σ' : zSg) : Prop := ∀ W b P E D l, rG σ a W b P E D l → rF σ σ' a W ∧ ∃ R, GA b E D (zBl b E P) R ∧ rO σ' a W b E D l r R
noncomputable def p_226 (a : Nat) (σ : zSg) (r : Int32) (σ' : zSg) : Prop := ∀ W b P E D l, rG σ a W b P E D l → rF σ σ' a W ∧ ∃ R, GW b E D (zBl b E P) R ∧ rO σ' a W b E D l r R
noncomputable def p_227 (a : Nat) (σ : zSg) (r : Int32) (σ' : zSg) : Prop := ∀ W b P E D l, rG σ a W b P E D l → rF σ σ' a W ∧ ∃ R, GC b E D (zBl b E P) R ∧ rO σ' a W b E D l r R
noncomputable def i_226 (a : Nat) (σ : zSg) (l0 : Nat) (τ : zSg) : Prop := l0 = a ∧ ∀ W b P E D l, rG σ a W b P E D l → rF σ τ a W ∧ ∃ P1 m, rG τ a W b P1 E D (l ++ m) ∧ ∀ R, GN b E D (zBl b E P1) m R → GW b E D (zBl b E P) R
noncomputable def i_227 (a : Nat) (σ : zSg) (l0 : Nat) (τ : zSg) : Prop := l0 = a ∧ ∀ W b P E D l, rG σ a W b P E D l → rF σ τ a W ∧ ∃ P1 m, rG τ a W b P1 E D (l ++ m) ∧ ∀ R, GO b E D (zBl b E P1) m R → GC b E D (zBl b E P) R
noncomputable def qP_225 : zPp := fun as σ o σ' => match as with
  | [a0] => ∃ r, o = .inl (some (.int r)) ∧ p_225 (q_r a0) σ r σ'
  | _ => True
noncomputable def qP_226 : zPp := fun as σ o σ' => match as with
  | [a0] => ∃ r, o = .inl (some (.int r)) ∧ p_226 (q_r a0) σ r σ'
  | _ => True
noncomputable def qP_227 : zPp := fun as σ o σ' => match as with
  | [a0] => ∃ r, o = .inl (some (.int r)) ∧ p_227 (q_r a0) σ r σ'
  | _ => True
theorem sp_226_et (a0 : Nat) (σ : zSg) (τ1 : zSg) (r1 : Int32) (g1 : p_225 a0 σ r1 τ1) (h2 : r1.toInt ≠ (0 : Int)) :
    i_226 a0 σ a0 τ1 := by
  refine ⟨rfl, fun W b P E D l H => ?_⟩
  obtain ⟨f1, R, g1, g2⟩ := g1 W b P E D l H
  refine ⟨f1, ?_⟩
  cases R with
  | inr F => exact absurd g2.1 h2
  | inl q =>
    obtain ⟨A1, m⟩ := q
    obtain ⟨-, P1, p1, rfl, H1⟩ := g2
    exact ⟨P1, m, H1, fun R hR => GW.go g1 hR⟩
theorem sp_226_ef (a0 : Nat) (σ : zSg) (τ1 : zSg) (r1 : Int32) (g1 : p_225 a0 σ r1 τ1) (h2 : r1.toInt = (0 : Int)) :
    p_226 (a0) σ (Int32.ofInt (0)) τ1 := by
  intro W b P E D l H
  obtain ⟨f1, R, g1, g2⟩ := g1 W b P E D l H
  refine ⟨f1, ?_⟩
  cases R with
  | inr F => exact ⟨_, GW.wrong g1, rfl, g2.2⟩
  | inl q => exact absurd h2 g2.1
theorem sp_226_c5_t (a0 : Nat) (σ : zSg) (l0 : Nat) (τ : zSg) (τ3 : zSg) (r3 : Int32) (hI : i_226 a0 σ l0 τ) (g3 : p_205 l0 (zB + 64) τ r3 τ3) (h4 : r3.toInt = (0 : Int)) :
    p_226 (a0) σ (Int32.ofInt (1)) τ3 := by
  obtain ⟨rfl, G⟩ := hI
  intro W b P E D l H
  obtain ⟨f1, P1, m, H1, hR⟩ := G W b P E D l H
  obtain ⟨f2, -, -, q2⟩ := H1.ps g3 qsi_64 (by decide)
  obtain ⟨e1, H2⟩ := q2 h4
  exact ⟨f1.tr f2, _, hR _ (GN.stop e1), by decide, _, H1.bl, zBl_bl, H2⟩
theorem sp_226_c5_ft (a0 : Nat) (σ : zSg) (l0 : Nat) (τ : zSg) (τ3 : zSg) (r3 : Int32) (τ5 : zSg) (r5 : Int32) (τ7 : zSg) (hI : i_226 a0 σ l0 τ) (g3 : p_205 l0 (zB + 64) τ r3 τ3) (h4 : r3.toInt ≠ (0 : Int)) (g5 : p_225 l0 τ3 r5 τ5) (h6 : r5.toInt ≠ (0 : Int)) (g7 : p_221 l0 (Int32.ofInt (13)) (Int32.ofInt (0)) τ5 τ7) :
    i_226 a0 σ l0 τ7 := by
  obtain ⟨rfl, G⟩ := hI
  refine ⟨rfl, fun W b P E D l H => ?_⟩
  obtain ⟨f1, P1, m, H1, hR⟩ := G W b P E D l H
  obtain ⟨f2, -, q1, -⟩ := H1.ps g3 qsi_64 (by decide)
  obtain ⟨e1, H5⟩ := q1 h4
  obtain ⟨f3, R, g1, g2⟩ := g5 W b _ E D _ H5
  cases R with
  | inr F => exact absurd g2.1 h6
  | inl q =>
    obtain ⟨A1, m2⟩ := q
    obtain ⟨-, P2, p2, rfl, H6⟩ := g2
    obtain ⟨f4, -, H7⟩ := g7 W b _ E D _ H6
    have H8 := H7 13 0 rfl rfl
    refine ⟨((f1.tr f2).tr f3).tr f4, P2, m ++ m2 ++ [(13, 0)], ?_, fun R h9 => hR R (GN.step e1 g1 h9)⟩
    rw [show l ++ (m ++ m2 ++ [(13, 0)]) = l ++ m ++ m2 ++ [(13, 0)] by simp only [List.append_assoc]]
    exact H8
theorem sp_226_c5_ff (a0 : Nat) (σ : zSg) (l0 : Nat) (τ : zSg) (τ3 : zSg) (r3 : Int32) (τ5 : zSg) (r5 : Int32) (hI : i_226 a0 σ l0 τ) (g3 : p_205 l0 (zB + 64) τ r3 τ3) (h4 : r3.toInt ≠ (0 : Int)) (g5 : p_225 l0 τ3 r5 τ5) (h6 : r5.toInt = (0 : Int)) :
    p_226 (a0) σ (Int32.ofInt (0)) τ5 := by
  obtain ⟨rfl, G⟩ := hI
  intro W b P E D l H
  obtain ⟨f1, P1, m, H1, hR⟩ := G W b P E D l H
  obtain ⟨f2, -, q1, -⟩ := H1.ps g3 qsi_64 (by decide)
  obtain ⟨e1, H5⟩ := q1 h4
  obtain ⟨f3, R, g1, g2⟩ := g5 W b _ E D _ H5
  refine ⟨(f1.tr f2).tr f3, ?_⟩
  cases R with
  | inl q => exact absurd h6 g2.1
  | inr F => exact ⟨_, hR _ (GN.wrong e1 g1), rfl, g2.2⟩
set_option maxRecDepth 100000 in
theorem sp_226 {sx : zX} {m : Nat} (S205 : zEe sx 205 2 qP_205) (S221 : zEe sx 221 3 qP_221) (S225 : zMt sx m 225 1 qP_225) : zMt sx (m + 1) 226 1 qP_226 := by
  refine zfl zJ_226 (sps := [(225, 1, qP_225), (205, 2, qP_205), (221, 3, qP_221)]) (fun q hq => by
    simp only [List.mem_cons, List.not_mem_nil, or_false] at hq
    rcases hq with rfl | rfl | rfl
    · exact S225
    · exact S205 m
    · exact S221 m) (fun as σ hl => ?_)
  match as, hl with
  | [a0], _ =>
  refine ⟨[(5, fun lo st τ => st = [] ∧ i_226 (q_r a0) σ (q_r (lo 0)) τ)], 400, ?_, ?_⟩
  · intro q hq
    simp only [List.mem_cons, List.not_mem_nil, or_false] at hq
    rcases hq with rfl
    · rintro lo st τ ⟨rfl, hI⟩
      refine ⟨400, ?_⟩
      refine fun o3 τ3 g3 => ?_
      obtain ⟨r3, rfl, g3⟩ := g3
      refine And.intro (fun h4 => ?_) (fun h4 => ?_)
      · exact ⟨_, rfl, sp_226_c5_t (q_r a0) σ (q_r (lo 0)) τ τ3 r3 hI g3 (cm0t h4)⟩
      · refine fun o5 τ5 g5 => ?_
        obtain ⟨r5, rfl, g5⟩ := g5
        refine And.intro (fun h6 => ?_) (fun h6 => ?_)
        · refine fun o7 τ7 g7 => ?_
          obtain ⟨rfl, g7⟩ := g7
          exact ⟨rfl, sp_226_c5_ft (q_r a0) σ (q_r (lo 0)) τ τ3 r3 τ5 r5 τ7 hI g3 (cm0f h4) g5 (cm1t h6) g7⟩
        · exact ⟨_, rfl, sp_226_c5_ff (q_r a0) σ (q_r (lo 0)) τ τ3 r3 τ5 r5 hI g3 (cm0f h4) g5 (cm1f h6)⟩
  · refine fun o1 τ1 g1 => ?_
    obtain ⟨r1, rfl, g1⟩ := g1
    refine And.intro (fun h2 => ?_) (fun h2 => ?_)
    · exact ⟨rfl, sp_226_et (q_r a0) σ τ1 r1 g1 (cm1t h2)⟩
    · exact ⟨_, rfl, sp_226_ef (q_r a0) σ τ1 r1 g1 (cm1f h2)⟩
theorem sp_227_et (a0 : Nat) (σ : zSg) (τ1 : zSg) (r1 : Int32) (g1 : p_226 a0 σ r1 τ1) (h2 : r1.toInt ≠ (0 : Int)) :
    i_227 a0 σ a0 τ1 := by
  refine ⟨rfl, fun W b P E D l H => ?_⟩
  obtain ⟨f1, R, g1, g2⟩ := g1 W b P E D l H
  refine ⟨f1, ?_⟩
  cases R with
  | inr F => exact absurd g2.1 h2
  | inl q =>
    obtain ⟨A1, m⟩ := q
    obtain ⟨-, P1, p1, rfl, H1⟩ := g2
    exact ⟨P1, m, H1, fun R hR => GC.nest1 g1 hR⟩
theorem sp_227_ef (a0 : Nat) (σ : zSg) (τ1 : zSg) (r1 : Int32) (g1 : p_226 a0 σ r1 τ1) (h2 : r1.toInt = (0 : Int)) :
    p_227 (a0) σ (Int32.ofInt (0)) τ1 := by
  intro W b P E D l H
  obtain ⟨f1, R, g1, g2⟩ := g1 W b P E D l H
  refine ⟨f1, ?_⟩
  cases R with
  | inr F => exact ⟨_, GC.nest0 g1, rfl, g2.2⟩
  | inl q => exact absurd h2 g2.1
theorem sp_227_c5_t (a0 : Nat) (σ : zSg) (l0 : Nat) (τ : zSg) (τ3 : zSg) (r3 : Int32) (hI : i_227 a0 σ l0 τ) (g3 : p_205 l0 (zB + 65) τ r3 τ3) (h4 : r3.toInt = (0 : Int)) :
    p_227 (a0) σ (Int32.ofInt (1)) τ3 := by
  obtain ⟨rfl, G⟩ := hI
  intro W b P E D l H
  obtain ⟨f1, P1, m, H1, hR⟩ := G W b P E D l H
  obtain ⟨f2, -, -, q2⟩ := H1.ps g3 qsi_65 (by decide)
  obtain ⟨e1, H2⟩ := q2 h4
  exact ⟨f1.tr f2, _, hR _ (GO.stop e1), by decide, _, H1.bl, zBl_bl, H2⟩
theorem sp_227_c5_ft (a0 : Nat) (σ : zSg) (l0 : Nat) (τ : zSg) (τ3 : zSg) (r3 : Int32) (τ5 : zSg) (r5 : Int32) (τ7 : zSg) (hI : i_227 a0 σ l0 τ) (g3 : p_205 l0 (zB + 65) τ r3 τ3) (h4 : r3.toInt ≠ (0 : Int)) (g5 : p_226 l0 τ3 r5 τ5) (h6 : r5.toInt ≠ (0 : Int)) (g7 : p_221 l0 (Int32.ofInt (14)) (Int32.ofInt (0)) τ5 τ7) :
    i_227 a0 σ l0 τ7 := by
  obtain ⟨rfl, G⟩ := hI
  refine ⟨rfl, fun W b P E D l H => ?_⟩
  obtain ⟨f1, P1, m, H1, hR⟩ := G W b P E D l H
  obtain ⟨f2, -, q1, -⟩ := H1.ps g3 qsi_65 (by decide)
  obtain ⟨e1, H5⟩ := q1 h4
  obtain ⟨f3, R, g1, g2⟩ := g5 W b _ E D _ H5
  cases R with
  | inr F => exact absurd g2.1 h6
  | inl q =>
    obtain ⟨A1, m2⟩ := q
    obtain ⟨-, P2, p2, rfl, H6⟩ := g2
    obtain ⟨f4, -, H7⟩ := g7 W b _ E D _ H6
    have H8 := H7 14 0 rfl rfl
    refine ⟨((f1.tr f2).tr f3).tr f4, P2, m ++ m2 ++ [(14, 0)], ?_, fun R h9 => hR R (GO.step e1 g1 h9)⟩
    rw [show l ++ (m ++ m2 ++ [(14, 0)]) = l ++ m ++ m2 ++ [(14, 0)] by simp only [List.append_assoc]]
    exact H8
theorem sp_227_c5_ff (a0 : Nat) (σ : zSg) (l0 : Nat) (τ : zSg) (τ3 : zSg) (r3 : Int32) (τ5 : zSg) (r5 : Int32) (hI : i_227 a0 σ l0 τ) (g3 : p_205 l0 (zB + 65) τ r3 τ3) (h4 : r3.toInt ≠ (0 : Int)) (g5 : p_226 l0 τ3 r5 τ5) (h6 : r5.toInt = (0 : Int)) :
    p_227 (a0) σ (Int32.ofInt (0)) τ5 := by
  obtain ⟨rfl, G⟩ := hI
  intro W b P E D l H
  obtain ⟨f1, P1, m, H1, hR⟩ := G W b P E D l H
  obtain ⟨f2, -, q1, -⟩ := H1.ps g3 qsi_65 (by decide)
  obtain ⟨e1, H5⟩ := q1 h4
  obtain ⟨f3, R, g1, g2⟩ := g5 W b _ E D _ H5
  refine ⟨(f1.tr f2).tr f3, ?_⟩
  cases R with
  | inl q => exact absurd h6 g2.1
  | inr F => exact ⟨_, hR _ (GO.wrong e1 g1), rfl, g2.2⟩
set_option maxRecDepth 100000 in
theorem sp_227 {sx : zX} {m : Nat} (S205 : zEe sx 205 2 qP_205) (S221 : zEe sx 221 3 qP_221) (S226 : zMt sx m 226 1 qP_226) : zMt sx (m + 1) 227 1 qP_227 := by
  refine zfl zJ_227 (sps := [(226, 1, qP_226), (205, 2, qP_205), (221, 3, qP_221)]) (fun q hq => by
    simp only [List.mem_cons, List.not_mem_nil, or_false] at hq
    rcases hq with rfl | rfl | rfl
    · exact S226
    · exact S205 m
    · exact S221 m) (fun as σ hl => ?_)
  match as, hl with
  | [a0], _ =>
  refine ⟨[(5, fun lo st τ => st = [] ∧ i_227 (q_r a0) σ (q_r (lo 0)) τ)], 400, ?_, ?_⟩
  · intro q hq
    simp only [List.mem_cons, List.not_mem_nil, or_false] at hq
    rcases hq with rfl
    · rintro lo st τ ⟨rfl, hI⟩
      refine ⟨400, ?_⟩
      refine fun o3 τ3 g3 => ?_
      obtain ⟨r3, rfl, g3⟩ := g3
      refine And.intro (fun h4 => ?_) (fun h4 => ?_)
      · exact ⟨_, rfl, sp_227_c5_t (q_r a0) σ (q_r (lo 0)) τ τ3 r3 hI g3 (cm0t h4)⟩
      · refine fun o5 τ5 g5 => ?_
        obtain ⟨r5, rfl, g5⟩ := g5
        refine And.intro (fun h6 => ?_) (fun h6 => ?_)
        · refine fun o7 τ7 g7 => ?_
          obtain ⟨rfl, g7⟩ := g7
          exact ⟨rfl, sp_227_c5_ft (q_r a0) σ (q_r (lo 0)) τ τ3 r3 τ5 r5 τ7 hI g3 (cm0f h4) g5 (cm1t h6) g7⟩
        · exact ⟨_, rfl, sp_227_c5_ff (q_r a0) σ (q_r (lo 0)) τ τ3 r3 τ5 r5 hI g3 (cm0f h4) g5 (cm1f h6)⟩
  · refine fun o1 τ1 g1 => ?_
    obtain ⟨r1, rfl, g1⟩ := g1
    refine And.intro (fun h2 => ?_) (fun h2 => ?_)
    · exact ⟨rfl, sp_227_et (q_r a0) σ τ1 r1 g1 (cm1t h2)⟩
    · exact ⟨_, rfl, sp_227_ef (q_r a0) σ τ1 r1 g1 (cm1f h2)⟩
theorem sp_225_ettttttt (a0 : Nat) (σ : zSg) (τ1 : zSg) (r1 : Int32) (τ3 : zSg) (r3 : Int32) (τ5 : zSg) (r5 : Int32) (τ7 : zSg) (r7 : Int32) (τ9 : zSg) (r9 : Int32) (τ11 : zSg) (r11 : Int32) (τ14 : zSg) (g1 : p_206 a0 (Int32.ofInt (40)) σ r1 τ1) (h2 : r1.toInt = (0 : Int)) (g3 : p_205 a0 (zB + 63) τ1 r3 τ3) (h4 : r3.toInt = (0 : Int)) (g5 : p_224 a0 τ3 r5 τ5) (h6 : r5.toInt = (0 : Int)) (g7 : p_223 a0 τ5 r7 τ7) (h8 : r7.toInt ≠ (0 : Int)) (g9 : p_206 a0 (Int32.ofInt (60)) τ7 r9 τ9) (h10 : r9.toInt ≠ (0 : Int)) (g11 : p_223 a0 τ9 r11 τ11) (h12 : r11.toInt ≠ (0 : Int)) (h13 : r9.toInt = (0 : Int)) (g14 : p_221 a0 (Int32.ofInt (11)) (Int32.ofInt (0)) τ11 τ14) :
    p_225 (a0) σ (Int32.ofInt (1)) τ14 := by
  exact absurd h13 h10
theorem sp_225_ettttttf (a0 : Nat) (σ : zSg) (τ1 : zSg) (r1 : Int32) (τ3 : zSg) (r3 : Int32) (τ5 : zSg) (r5 : Int32) (τ7 : zSg) (r7 : Int32) (τ9 : zSg) (r9 : Int32) (τ11 : zSg) (r11 : Int32) (τ15 : zSg) (g1 : p_206 a0 (Int32.ofInt (40)) σ r1 τ1) (h2 : r1.toInt = (0 : Int)) (g3 : p_205 a0 (zB + 63) τ1 r3 τ3) (h4 : r3.toInt = (0 : Int)) (g5 : p_224 a0 τ3 r5 τ5) (h6 : r5.toInt = (0 : Int)) (g7 : p_223 a0 τ5 r7 τ7) (h8 : r7.toInt ≠ (0 : Int)) (g9 : p_206 a0 (Int32.ofInt (60)) τ7 r9 τ9) (h10 : r9.toInt ≠ (0 : Int)) (g11 : p_223 a0 τ9 r11 τ11) (h12 : r11.toInt ≠ (0 : Int)) (h13 : r9.toInt ≠ (0 : Int)) (g15 : p_221 a0 (Int32.ofInt (10)) (Int32.ofInt (0)) τ11 τ15) :
    p_225 (a0) σ (Int32.ofInt (1)) τ15 := by
  intro W b P E D l H
  obtain ⟨f1, -, -, q1⟩ := H.sg g1
  obtain ⟨e1, H1⟩ := q1 h2
  obtain ⟨f2, -, q3, q2⟩ := H1.ps g3 qsi_63 (by decide)
  rw [zBl_bl] at q2 q3
  obtain ⟨e2, H2x⟩ := q2 h4
  obtain ⟨f3, q4⟩ := g5 W b _ E D l H2x
  rw [zBl_bl] at q4
  rcases q4 with ⟨q5, -⟩ | ⟨-, e3, e4, H3x⟩
  · exact absurd h6 q5
  obtain ⟨f4, R, g1, g2⟩ := g7 W b _ E D l H3x
  rw [zBl_bl] at g1
  cases R with
  | inr F => exact absurd g2.1 h8
  | inl q =>
  obtain ⟨A1, m1⟩ := q
  obtain ⟨-, P4, p4, rfl, H4x⟩ := g2
  obtain ⟨f5, s5, q6, q7⟩ := H4x.sg g9
  obtain ⟨e5, H5x⟩ := q6 h10
  obtain ⟨f6, r9, g3, g4⟩ := g11 W b _ E D _ H5x
  cases r9 with
  | inr F => exact absurd g4.1 h12
  | inl q =>
  obtain ⟨A2, m2⟩ := q
  obtain ⟨-, P6, p6, rfl, H6x⟩ := g4
  obtain ⟨f7, -, h2⟩ := g15 W b _ E D _ H6x
  have H8 := h2 10 0 rfl rfl
  refine ⟨((((f1.tr f2).tr f3).tr f4).tr f5).tr (f6.tr f7), _, GA.base e1 e2 (GB.less e3 e4 g1 e5 g3), by decide, P6, p6, rfl, ?_⟩
  rw [show l ++ (m1 ++ m2 ++ [(10, 0)]) = l ++ m1 ++ m2 ++ [(10, 0)] by simp only [List.append_assoc]]
  exact H8
theorem sp_225_etttttf (a0 : Nat) (σ : zSg) (τ1 : zSg) (r1 : Int32) (τ3 : zSg) (r3 : Int32) (τ5 : zSg) (r5 : Int32) (τ7 : zSg) (r7 : Int32) (τ9 : zSg) (r9 : Int32) (τ11 : zSg) (r11 : Int32) (g1 : p_206 a0 (Int32.ofInt (40)) σ r1 τ1) (h2 : r1.toInt = (0 : Int)) (g3 : p_205 a0 (zB + 63) τ1 r3 τ3) (h4 : r3.toInt = (0 : Int)) (g5 : p_224 a0 τ3 r5 τ5) (h6 : r5.toInt = (0 : Int)) (g7 : p_223 a0 τ5 r7 τ7) (h8 : r7.toInt ≠ (0 : Int)) (g9 : p_206 a0 (Int32.ofInt (60)) τ7 r9 τ9) (h10 : r9.toInt ≠ (0 : Int)) (g11 : p_223 a0 τ9 r11 τ11) (h12 : r11.toInt = (0 : Int)) :
    p_225 (a0) σ (Int32.ofInt (0)) τ11 := by
  intro W b P E D l H
  obtain ⟨f1, -, -, q1⟩ := H.sg g1
  obtain ⟨e1, H1⟩ := q1 h2
  obtain ⟨f2, -, q3, q2⟩ := H1.ps g3 qsi_63 (by decide)
  rw [zBl_bl] at q2 q3
  obtain ⟨e2, H2x⟩ := q2 h4
  obtain ⟨f3, q4⟩ := g5 W b _ E D l H2x
  rw [zBl_bl] at q4
  rcases q4 with ⟨q5, -⟩ | ⟨-, e3, e4, H3x⟩
  · exact absurd h6 q5
  obtain ⟨f4, R, g1, g2⟩ := g7 W b _ E D l H3x
  rw [zBl_bl] at g1
  cases R with
  | inr F => exact absurd g2.1 h8
  | inl q =>
  obtain ⟨A1, m1⟩ := q
  obtain ⟨-, P4, p4, rfl, H4x⟩ := g2
  obtain ⟨f5, s5, q6, q7⟩ := H4x.sg g9
  obtain ⟨e5, H5x⟩ := q6 h10
  obtain ⟨f6, r9, g3, g4⟩ := g11 W b _ E D _ H5x
  cases r9 with
  | inl q => exact absurd h12 g4.1
  | inr F => exact ⟨((((f1.tr f2).tr f3).tr f4).tr f5).tr f6, _, GA.base e1 e2 (GB.less e3 e4 g1 e5 g3), rfl, g4.2⟩
theorem sp_225_ettttft (a0 : Nat) (σ : zSg) (τ1 : zSg) (r1 : Int32) (τ3 : zSg) (r3 : Int32) (τ5 : zSg) (r5 : Int32) (τ7 : zSg) (r7 : Int32) (τ9 : zSg) (r9 : Int32) (τ16 : zSg) (r16 : Int32) (g1 : p_206 a0 (Int32.ofInt (40)) σ r1 τ1) (h2 : r1.toInt = (0 : Int)) (g3 : p_205 a0 (zB + 63) τ1 r3 τ3) (h4 : r3.toInt = (0 : Int)) (g5 : p_224 a0 τ3 r5 τ5) (h6 : r5.toInt = (0 : Int)) (g7 : p_223 a0 τ5 r7 τ7) (h8 : r7.toInt ≠ (0 : Int)) (g9 : p_206 a0 (Int32.ofInt (60)) τ7 r9 τ9) (h10 : r9.toInt = (0 : Int)) (g16 : p_206 a0 (Int32.ofInt (62)) τ9 r16 τ16) (h17 : r16.toInt = (0 : Int)) :
    p_225 (a0) σ (Int32.ofInt (0)) τ16 := by
  intro W b P E D l H
  obtain ⟨f1, -, -, q1⟩ := H.sg g1
  obtain ⟨e1, H1⟩ := q1 h2
  obtain ⟨f2, -, q3, q2⟩ := H1.ps g3 qsi_63 (by decide)
  rw [zBl_bl] at q2 q3
  obtain ⟨e2, H2x⟩ := q2 h4
  obtain ⟨f3, q4⟩ := g5 W b _ E D l H2x
  rw [zBl_bl] at q4
  rcases q4 with ⟨q5, -⟩ | ⟨-, e3, e4, H3x⟩
  · exact absurd h6 q5
  obtain ⟨f4, R, g1, g2⟩ := g7 W b _ E D l H3x
  rw [zBl_bl] at g1
  cases R with
  | inr F => exact absurd g2.1 h8
  | inl q =>
  obtain ⟨A1, m1⟩ := q
  obtain ⟨-, P4, p4, rfl, H4x⟩ := g2
  obtain ⟨f5, s5, q6, q7⟩ := H4x.sg g9
  obtain ⟨e5, H5x⟩ := q7 h10
  obtain ⟨f6, s6, -, q8⟩ := H5x.sg g16
  rw [zBl_bl] at q8 s6
  obtain ⟨e6, H6x⟩ := q8 h17
  exact ⟨((((f1.tr f2).tr f3).tr f4).tr f5).tr f6, _, GA.base e1 e2 (GB.wrong2 e3 e4 g1 e5 e6), rfl, s6⟩
theorem sp_225_ettttfftt (a0 : Nat) (σ : zSg) (τ1 : zSg) (r1 : Int32) (τ3 : zSg) (r3 : Int32) (τ5 : zSg) (r5 : Int32) (τ7 : zSg) (r7 : Int32) (τ9 : zSg) (r9 : Int32) (τ16 : zSg) (r16 : Int32) (τ18 : zSg) (r18 : Int32) (τ21 : zSg) (g1 : p_206 a0 (Int32.ofInt (40)) σ r1 τ1) (h2 : r1.toInt = (0 : Int)) (g3 : p_205 a0 (zB + 63) τ1 r3 τ3) (h4 : r3.toInt = (0 : Int)) (g5 : p_224 a0 τ3 r5 τ5) (h6 : r5.toInt = (0 : Int)) (g7 : p_223 a0 τ5 r7 τ7) (h8 : r7.toInt ≠ (0 : Int)) (g9 : p_206 a0 (Int32.ofInt (60)) τ7 r9 τ9) (h10 : r9.toInt = (0 : Int)) (g16 : p_206 a0 (Int32.ofInt (62)) τ9 r16 τ16) (h17 : r16.toInt ≠ (0 : Int)) (g18 : p_223 a0 τ16 r18 τ18) (h19 : r18.toInt ≠ (0 : Int)) (h20 : r9.toInt = (0 : Int)) (g21 : p_221 a0 (Int32.ofInt (11)) (Int32.ofInt (0)) τ18 τ21) :
    p_225 (a0) σ (Int32.ofInt (1)) τ21 := by
  intro W b P E D l H
  obtain ⟨f1, -, -, q1⟩ := H.sg g1
  obtain ⟨e1, H1⟩ := q1 h2
  obtain ⟨f2, -, q3, q2⟩ := H1.ps g3 qsi_63 (by decide)
  rw [zBl_bl] at q2 q3
  obtain ⟨e2, H2x⟩ := q2 h4
  obtain ⟨f3, q4⟩ := g5 W b _ E D l H2x
  rw [zBl_bl] at q4
  rcases q4 with ⟨q5, -⟩ | ⟨-, e3, e4, H3x⟩
  · exact absurd h6 q5
  obtain ⟨f4, R, g1, g2⟩ := g7 W b _ E D l H3x
  rw [zBl_bl] at g1
  cases R with
  | inr F => exact absurd g2.1 h8
  | inl q =>
  obtain ⟨A1, m1⟩ := q
  obtain ⟨-, P4, p4, rfl, H4x⟩ := g2
  obtain ⟨f5, s5, q6, q7⟩ := H4x.sg g9
  obtain ⟨e5, H5x⟩ := q7 h10
  obtain ⟨f6, s6, q8, -⟩ := H5x.sg g16
  rw [zBl_bl] at q8
  obtain ⟨e6, H6x⟩ := q8 h17
  obtain ⟨f7, r16, g3, g4⟩ := g18 W b _ E D _ H6x
  cases r16 with
  | inr F => exact absurd g4.1 h19
  | inl q =>
  obtain ⟨A2, m2⟩ := q
  obtain ⟨-, P6, p6, rfl, H7x⟩ := g4
  obtain ⟨f8, -, h4⟩ := g21 W b _ E D _ H7x
  have h2 := h4 11 0 rfl rfl
  refine ⟨((((f1.tr f2).tr f3).tr f4).tr f5).tr ((f6.tr f7).tr f8), _, GA.base e1 e2 (GB.more e3 e4 g1 e5 e6 g3), by decide, P6, p6, rfl, ?_⟩
  rw [show l ++ (m1 ++ m2 ++ [(11, 0)]) = l ++ m1 ++ m2 ++ [(11, 0)] by simp only [List.append_assoc]]
  exact h2
theorem sp_225_ettttfftf (a0 : Nat) (σ : zSg) (τ1 : zSg) (r1 : Int32) (τ3 : zSg) (r3 : Int32) (τ5 : zSg) (r5 : Int32) (τ7 : zSg) (r7 : Int32) (τ9 : zSg) (r9 : Int32) (τ16 : zSg) (r16 : Int32) (τ18 : zSg) (r18 : Int32) (τ22 : zSg) (g1 : p_206 a0 (Int32.ofInt (40)) σ r1 τ1) (h2 : r1.toInt = (0 : Int)) (g3 : p_205 a0 (zB + 63) τ1 r3 τ3) (h4 : r3.toInt = (0 : Int)) (g5 : p_224 a0 τ3 r5 τ5) (h6 : r5.toInt = (0 : Int)) (g7 : p_223 a0 τ5 r7 τ7) (h8 : r7.toInt ≠ (0 : Int)) (g9 : p_206 a0 (Int32.ofInt (60)) τ7 r9 τ9) (h10 : r9.toInt = (0 : Int)) (g16 : p_206 a0 (Int32.ofInt (62)) τ9 r16 τ16) (h17 : r16.toInt ≠ (0 : Int)) (g18 : p_223 a0 τ16 r18 τ18) (h19 : r18.toInt ≠ (0 : Int)) (h20 : r9.toInt ≠ (0 : Int)) (g22 : p_221 a0 (Int32.ofInt (10)) (Int32.ofInt (0)) τ18 τ22) :
    p_225 (a0) σ (Int32.ofInt (1)) τ22 := by
  exact absurd h10 h20
theorem sp_225_ettttfff (a0 : Nat) (σ : zSg) (τ1 : zSg) (r1 : Int32) (τ3 : zSg) (r3 : Int32) (τ5 : zSg) (r5 : Int32) (τ7 : zSg) (r7 : Int32) (τ9 : zSg) (r9 : Int32) (τ16 : zSg) (r16 : Int32) (τ18 : zSg) (r18 : Int32) (g1 : p_206 a0 (Int32.ofInt (40)) σ r1 τ1) (h2 : r1.toInt = (0 : Int)) (g3 : p_205 a0 (zB + 63) τ1 r3 τ3) (h4 : r3.toInt = (0 : Int)) (g5 : p_224 a0 τ3 r5 τ5) (h6 : r5.toInt = (0 : Int)) (g7 : p_223 a0 τ5 r7 τ7) (h8 : r7.toInt ≠ (0 : Int)) (g9 : p_206 a0 (Int32.ofInt (60)) τ7 r9 τ9) (h10 : r9.toInt = (0 : Int)) (g16 : p_206 a0 (Int32.ofInt (62)) τ9 r16 τ16) (h17 : r16.toInt ≠ (0 : Int)) (g18 : p_223 a0 τ16 r18 τ18) (h19 : r18.toInt = (0 : Int)) :
    p_225 (a0) σ (Int32.ofInt (0)) τ18 := by
  intro W b P E D l H
  obtain ⟨f1, -, -, q1⟩ := H.sg g1
  obtain ⟨e1, H1⟩ := q1 h2
  obtain ⟨f2, -, q3, q2⟩ := H1.ps g3 qsi_63 (by decide)
  rw [zBl_bl] at q2 q3
  obtain ⟨e2, H2x⟩ := q2 h4
  obtain ⟨f3, q4⟩ := g5 W b _ E D l H2x
  rw [zBl_bl] at q4
  rcases q4 with ⟨q5, -⟩ | ⟨-, e3, e4, H3x⟩
  · exact absurd h6 q5
  obtain ⟨f4, R, g1, g2⟩ := g7 W b _ E D l H3x
  rw [zBl_bl] at g1
  cases R with
  | inr F => exact absurd g2.1 h8
  | inl q =>
  obtain ⟨A1, m1⟩ := q
  obtain ⟨-, P4, p4, rfl, H4x⟩ := g2
  obtain ⟨f5, s5, q6, q7⟩ := H4x.sg g9
  obtain ⟨e5, H5x⟩ := q7 h10
  obtain ⟨f6, s6, q8, -⟩ := H5x.sg g16
  rw [zBl_bl] at q8
  obtain ⟨e6, H6x⟩ := q8 h17
  obtain ⟨f7, r16, g3, g4⟩ := g18 W b _ E D _ H6x
  cases r16 with
  | inl q => exact absurd h19 g4.1
  | inr F => exact ⟨((((f1.tr f2).tr f3).tr f4).tr f5).tr (f6.tr f7), _, GA.base e1 e2 (GB.more e3 e4 g1 e5 e6 g3), rfl, g4.2⟩
theorem sp_225_etttf (a0 : Nat) (σ : zSg) (τ1 : zSg) (r1 : Int32) (τ3 : zSg) (r3 : Int32) (τ5 : zSg) (r5 : Int32) (τ7 : zSg) (r7 : Int32) (g1 : p_206 a0 (Int32.ofInt (40)) σ r1 τ1) (h2 : r1.toInt = (0 : Int)) (g3 : p_205 a0 (zB + 63) τ1 r3 τ3) (h4 : r3.toInt = (0 : Int)) (g5 : p_224 a0 τ3 r5 τ5) (h6 : r5.toInt = (0 : Int)) (g7 : p_223 a0 τ5 r7 τ7) (h8 : r7.toInt = (0 : Int)) :
    p_225 (a0) σ (Int32.ofInt (0)) τ7 := by
  intro W b P E D l H
  obtain ⟨f1, -, -, q1⟩ := H.sg g1
  obtain ⟨e1, H1⟩ := q1 h2
  obtain ⟨f2, -, q3, q2⟩ := H1.ps g3 qsi_63 (by decide)
  rw [zBl_bl] at q2 q3
  obtain ⟨e2, H2x⟩ := q2 h4
  obtain ⟨f3, q4⟩ := g5 W b _ E D l H2x
  rw [zBl_bl] at q4
  rcases q4 with ⟨q5, -⟩ | ⟨-, e3, e4, H3x⟩
  · exact absurd h6 q5
  obtain ⟨f4, R, g1, g2⟩ := g7 W b _ E D l H3x
  rw [zBl_bl] at g1
  refine ⟨((f1.tr f2).tr f3).tr f4, ?_⟩
  cases R with
  | inl q => exact absurd h8 g2.1
  | inr F => exact ⟨_, GA.base e1 e2 (GB.wrong1 e3 e4 g1), rfl, g2.2⟩
theorem sp_225_ettf (a0 : Nat) (σ : zSg) (τ1 : zSg) (r1 : Int32) (τ3 : zSg) (r3 : Int32) (τ5 : zSg) (r5 : Int32) (g1 : p_206 a0 (Int32.ofInt (40)) σ r1 τ1) (h2 : r1.toInt = (0 : Int)) (g3 : p_205 a0 (zB + 63) τ1 r3 τ3) (h4 : r3.toInt = (0 : Int)) (g5 : p_224 a0 τ3 r5 τ5) (h6 : r5.toInt ≠ (0 : Int)) :
    p_225 (a0) σ (Int32.ofInt (1)) τ5 := by
  intro W b P E D l H
  obtain ⟨f1, -, -, q1⟩ := H.sg g1
  obtain ⟨e1, H1⟩ := q1 h2
  obtain ⟨f2, -, q3, q2⟩ := H1.ps g3 qsi_63 (by decide)
  rw [zBl_bl] at q2 q3
  obtain ⟨e2, H2x⟩ := q2 h4
  obtain ⟨f3, q4⟩ := g5 W b _ E D l H2x
  rw [zBl_bl] at q4
  refine ⟨(f1.tr f2).tr f3, ?_⟩
  rcases q4 with ⟨-, R, g1, g2⟩ | ⟨q5, -⟩
  · cases R with
    | inr F => exact absurd g2.1 h6
    | inl q =>
      obtain ⟨A1, m⟩ := q
      exact ⟨_, GA.base e1 e2 g1, by decide, g2.2⟩
  · exact absurd q5 h6
theorem sp_225_etftt (a0 : Nat) (σ : zSg) (τ1 : zSg) (r1 : Int32) (τ3 : zSg) (r3 : Int32) (τ24 : zSg) (r24 : Int32) (τ26 : zSg) (g1 : p_206 a0 (Int32.ofInt (40)) σ r1 τ1) (h2 : r1.toInt = (0 : Int)) (g3 : p_205 a0 (zB + 63) τ1 r3 τ3) (h4 : r3.toInt ≠ (0 : Int)) (h23 : (q_i (τ3.1 a0 13)).toInt ≠ (6 : Int)) (g24 : p_225 a0 (q_w τ3 a0 13 (.int ((q_i (τ3.1 a0 13)) + (Int32.ofInt (1))))) r24 τ24) (h25 : r24.toInt ≠ (0 : Int)) (g26 : p_221 a0 (Int32.ofInt (12)) (Int32.ofInt (0)) (q_w τ24 a0 13 (.int ((q_i (τ24.1 a0 13)) - (Int32.ofInt (1))))) τ26) :
    p_225 (a0) σ (Int32.ofInt (1)) τ26 := by
  intro W b P E D l H
  obtain ⟨f1, -, -, q1⟩ := H.sg g1
  obtain ⟨e1, H1⟩ := q1 h2
  obtain ⟨f2, -, q3, q2⟩ := H1.ps g3 qsi_63 (by decide)
  rw [zBl_bl] at q2 q3
  obtain ⟨e2, H2x⟩ := q3 h4
  have hD := H2x.2.2.2.2.2.2.2.1
  rw [H2x.nodp] at h23
  have hd : q_i (τ3.1 a0 13) + Int32.ofInt 1 = Int32.ofNat (D + 1) := by
    rw [H2x.2.2.2.2.2.2.1]
    exact o32i (by omega)
  rw [hd] at g24
  obtain ⟨f3, R, g1, g2⟩ := g24 W b _ E _ l (H2x.dp (by omega))
  cases R with
  | inr F => exact absurd g2.1 h25
  | inl q =>
  obtain ⟨A1, m⟩ := q
  obtain ⟨-, P3, p3, rfl, H3x⟩ := g2
  have hd2 : q_i (τ24.1 a0 13) - Int32.ofInt 1 = Int32.ofNat D := by
    rw [H3x.2.2.2.2.2.2.1]
    refine Int32.toInt_inj.mp ?_
    have h9 : (Int32.ofNat (D + 1) - Int32.ofInt 1).toInt = ((D + 1 : Nat) : Int) - 1 := zI_sub (o32 (by omega)) (zI_c (by omega) (by omega)) (by omega) (by omega)
    rw [o32 (by omega)]
    exact h9.trans (by omega)
  rw [hd2] at g26
  obtain ⟨f4, -, H4x⟩ := g26 W b _ E _ _ (H3x.dp (K := D) (by omega))
  have H5 := H4x 12 0 rfl rfl
  refine ⟨(((f1.tr f2).tr (rF.w (by omega))).tr f3).tr ((rF.w (by omega)).tr f4), _, GA.not (by omega) e1 e2 g1, by decide, P3, p3, rfl, ?_⟩
  rw [show l ++ (m ++ [(12, 0)]) = l ++ m ++ [(12, 0)] by simp only [List.append_assoc]]
  exact H5
theorem sp_225_etftf (a0 : Nat) (σ : zSg) (τ1 : zSg) (r1 : Int32) (τ3 : zSg) (r3 : Int32) (τ24 : zSg) (r24 : Int32) (g1 : p_206 a0 (Int32.ofInt (40)) σ r1 τ1) (h2 : r1.toInt = (0 : Int)) (g3 : p_205 a0 (zB + 63) τ1 r3 τ3) (h4 : r3.toInt ≠ (0 : Int)) (h23 : (q_i (τ3.1 a0 13)).toInt ≠ (6 : Int)) (g24 : p_225 a0 (q_w τ3 a0 13 (.int ((q_i (τ3.1 a0 13)) + (Int32.ofInt (1))))) r24 τ24) (h25 : r24.toInt = (0 : Int)) :
    p_225 (a0) σ (Int32.ofInt (0)) τ24 := by
  intro W b P E D l H
  obtain ⟨f1, -, -, q1⟩ := H.sg g1
  obtain ⟨e1, H1⟩ := q1 h2
  obtain ⟨f2, -, q3, q2⟩ := H1.ps g3 qsi_63 (by decide)
  rw [zBl_bl] at q2 q3
  obtain ⟨e2, H2x⟩ := q3 h4
  have hD := H2x.2.2.2.2.2.2.2.1
  rw [H2x.nodp] at h23
  have hd : q_i (τ3.1 a0 13) + Int32.ofInt 1 = Int32.ofNat (D + 1) := by
    rw [H2x.2.2.2.2.2.2.1]
    exact o32i (by omega)
  rw [hd] at g24
  obtain ⟨f3, R, g1, g2⟩ := g24 W b _ E _ l (H2x.dp (by omega))
  cases R with
  | inl q => exact absurd h25 g2.1
  | inr F => exact ⟨((f1.tr f2).tr (rF.w (by omega))).tr f3, _, GA.not (by omega) e1 e2 g1, rfl, g2.2⟩
theorem sp_225_etff (a0 : Nat) (σ : zSg) (τ1 : zSg) (r1 : Int32) (τ3 : zSg) (r3 : Int32) (g1 : p_206 a0 (Int32.ofInt (40)) σ r1 τ1) (h2 : r1.toInt = (0 : Int)) (g3 : p_205 a0 (zB + 63) τ1 r3 τ3) (h4 : r3.toInt ≠ (0 : Int)) (h23 : (q_i (τ3.1 a0 13)).toInt = (6 : Int)) :
    p_225 (a0) σ (Int32.ofInt (0)) τ3 := by
  intro W b P E D l H
  obtain ⟨f1, -, -, q1⟩ := H.sg g1
  obtain ⟨e1, H1⟩ := q1 h2
  obtain ⟨f2, s2, q3, q2⟩ := H1.ps g3 qsi_63 (by decide)
  rw [zBl_bl] at q2 q3 s2
  obtain ⟨e2, H2x⟩ := q3 h4
  rw [H2x.nodp] at h23
  have hD : D = 6 := by omega
  subst hD
  exact ⟨f1.tr f2, _, GA.deep2 e1 e2, rfl, s2⟩
theorem sp_225_eftt (a0 : Nat) (σ : zSg) (τ1 : zSg) (r1 : Int32) (τ28 : zSg) (r28 : Int32) (τ30 : zSg) (r30 : Int32) (g1 : p_206 a0 (Int32.ofInt (40)) σ r1 τ1) (h2 : r1.toInt ≠ (0 : Int)) (h27 : (q_i (τ1.1 a0 13)).toInt ≠ (6 : Int)) (g28 : p_227 a0 (q_w τ1 a0 13 (.int ((q_i (τ1.1 a0 13)) + (Int32.ofInt (1))))) r28 τ28) (h29 : r28.toInt ≠ (0 : Int)) (g30 : p_206 a0 (Int32.ofInt (41)) (q_w τ28 a0 13 (.int ((q_i (τ28.1 a0 13)) - (Int32.ofInt (1))))) r30 τ30) :
    p_225 (a0) σ r30 τ30 := by
  intro W b P E D l H
  obtain ⟨f1, -, q1, -⟩ := H.sg g1
  obtain ⟨e1, H1x⟩ := q1 h2
  have hD := H1x.2.2.2.2.2.2.2.1
  rw [H1x.nodp] at h27
  have hd : q_i (τ1.1 a0 13) + Int32.ofInt 1 = Int32.ofNat (D + 1) := by
    rw [H1x.2.2.2.2.2.2.1]
    exact o32i (by omega)
  rw [hd] at g28
  obtain ⟨f3, R, g1, g2⟩ := g28 W b _ E _ l (H1x.dp (by omega))
  cases R with
  | inr F => exact absurd g2.1 h29
  | inl q =>
  obtain ⟨A1, m⟩ := q
  obtain ⟨-, P3, p3, rfl, H3x⟩ := g2
  have hd2 : q_i (τ28.1 a0 13) - Int32.ofInt 1 = Int32.ofNat D := by
    rw [H3x.2.2.2.2.2.2.1]
    refine Int32.toInt_inj.mp ?_
    have h9 : (Int32.ofNat (D + 1) - Int32.ofInt 1).toInt = ((D + 1 : Nat) : Int) - 1 := zI_sub (o32 (by omega)) (zI_c (by omega) (by omega)) (by omega) (by omega)
    rw [o32 (by omega)]
    exact h9.trans (by omega)
  rw [hd2] at g30
  have H4x := H3x.dp (K := D) (by omega)
  obtain ⟨f4, s4, q5, q6⟩ := H4x.sg g30
  refine ⟨((f1.tr (rF.w (by omega))).tr f3).tr ((rF.w (by omega)).tr f4), _, GA.par (by omega) e1 g1, ?_⟩
  by_cases hr : r30.toInt = 0
  · obtain ⟨e5, H5x⟩ := q6 hr
    have e5x : ts b E 41 (zBl b E P3) = none := e5
    dsimp only
    rw [e5x]
    exact ⟨hr, s4⟩
  · obtain ⟨e5, H5x⟩ := q5 hr
    have e5x : ts b E 41 (zBl b E P3) = some (zBl b E (zBl b E P3 + 1)) := e5
    dsimp only
    rw [e5x]
    exact ⟨hr, _, H5x.le.1, rfl, H5x⟩
theorem sp_225_eftf (a0 : Nat) (σ : zSg) (τ1 : zSg) (r1 : Int32) (τ28 : zSg) (r28 : Int32) (g1 : p_206 a0 (Int32.ofInt (40)) σ r1 τ1) (h2 : r1.toInt ≠ (0 : Int)) (h27 : (q_i (τ1.1 a0 13)).toInt ≠ (6 : Int)) (g28 : p_227 a0 (q_w τ1 a0 13 (.int ((q_i (τ1.1 a0 13)) + (Int32.ofInt (1))))) r28 τ28) (h29 : r28.toInt = (0 : Int)) :
    p_225 (a0) σ (Int32.ofInt (0)) τ28 := by
  intro W b P E D l H
  obtain ⟨f1, -, q1, -⟩ := H.sg g1
  obtain ⟨e1, H1x⟩ := q1 h2
  have hD := H1x.2.2.2.2.2.2.2.1
  rw [H1x.nodp] at h27
  have hd : q_i (τ1.1 a0 13) + Int32.ofInt 1 = Int32.ofNat (D + 1) := by
    rw [H1x.2.2.2.2.2.2.1]
    exact o32i (by omega)
  rw [hd] at g28
  obtain ⟨f3, R, g1, g2⟩ := g28 W b _ E _ l (H1x.dp (by omega))
  cases R with
  | inl q => exact absurd h29 g2.1
  | inr F => exact ⟨(f1.tr (rF.w (by omega))).tr f3, _, GA.par (by omega) e1 g1, rfl, g2.2⟩
theorem sp_225_eff (a0 : Nat) (σ : zSg) (τ1 : zSg) (r1 : Int32) (g1 : p_206 a0 (Int32.ofInt (40)) σ r1 τ1) (h2 : r1.toInt ≠ (0 : Int)) (h27 : (q_i (τ1.1 a0 13)).toInt = (6 : Int)) :
    p_225 (a0) σ (Int32.ofInt (0)) τ1 := by
  intro W b P E D l H
  obtain ⟨f1, s1, q1, -⟩ := H.sg g1
  obtain ⟨e1, H1x⟩ := q1 h2
  rw [H1x.nodp] at h27
  have hD : D = 6 := by omega
  subst hD
  exact ⟨f1, _, GA.deep1 e1, rfl, s1⟩
set_option maxRecDepth 100000 in
theorem sp_225 {sx : zX} {m : Nat} (S206 : zEe sx 206 2 qP_206) (S205 : zEe sx 205 2 qP_205) (S224 : zEe sx 224 1 qP_224) (S223 : zEe sx 223 1 qP_223) (S221 : zEe sx 221 3 qP_221) (S225 : zMt sx m 225 1 qP_225) (S227 : zMt sx m 227 1 qP_227) : zMt sx (m + 1) 225 1 qP_225 := by
  refine zfl zJ_225 (sps := [(206, 2, qP_206), (205, 2, qP_205), (224, 1, qP_224), (223, 1, qP_223), (221, 3, qP_221), (225, 1, qP_225), (227, 1, qP_227)]) (fun q hq => by
    simp only [List.mem_cons, List.not_mem_nil, or_false] at hq
    rcases hq with rfl | rfl | rfl | rfl | rfl | rfl | rfl
    · exact S206 m
    · exact S205 m
    · exact S224 m
    · exact S223 m
    · exact S221 m
    · exact S225
    · exact S227) (fun as σ hl => ?_)
  match as, hl with
  | [a0], _ =>
  refine ⟨[], 400, ?_, ?_⟩
  · exact fun q hq => absurd hq List.not_mem_nil
  · refine fun o1 τ1 g1 => ?_
    obtain ⟨r1, rfl, g1⟩ := g1
    refine And.intro (fun h2 => ?_) (fun h2 => ?_)
    · refine fun o3 τ3 g3 => ?_
      obtain ⟨r3, rfl, g3⟩ := g3
      refine And.intro (fun h4 => ?_) (fun h4 => ?_)
      · refine fun o5 τ5 g5 => ?_
        obtain ⟨r5, rfl, g5⟩ := g5
        refine And.intro (fun h6 => ?_) (fun h6 => ?_)
        · refine fun o7 τ7 g7 => ?_
          obtain ⟨r7, rfl, g7⟩ := g7
          refine And.intro (fun h8 => ?_) (fun h8 => ?_)
          · refine fun o9 τ9 g9 => ?_
            obtain ⟨r9, rfl, g9⟩ := g9
            refine And.intro (fun h10 => ?_) (fun h10 => ?_)
            · refine fun o11 τ11 g11 => ?_
              obtain ⟨r11, rfl, g11⟩ := g11
              refine And.intro (fun h12 => ?_) (fun h12 => ?_)
              · refine And.intro (fun h13 => ?_) (fun h13 => ?_)
                · refine fun o14 τ14 g14 => ?_
                  obtain ⟨rfl, g14⟩ := g14
                  exact ⟨_, rfl, sp_225_ettttttt (q_r a0) σ τ1 r1 τ3 r3 τ5 r5 τ7 r7 τ9 r9 τ11 r11 τ14 g1 (cm0t h2) g3 (cm0t h4) g5 (cm0t h6) g7 (cm1t h8) g9 (cm1t h10) g11 (cm1t h12) (cm0t h13) g14⟩
                · refine fun o15 τ15 g15 => ?_
                  obtain ⟨rfl, g15⟩ := g15
                  exact ⟨_, rfl, sp_225_ettttttf (q_r a0) σ τ1 r1 τ3 r3 τ5 r5 τ7 r7 τ9 r9 τ11 r11 τ15 g1 (cm0t h2) g3 (cm0t h4) g5 (cm0t h6) g7 (cm1t h8) g9 (cm1t h10) g11 (cm1t h12) (cm0f h13) g15⟩
              · exact ⟨_, rfl, sp_225_etttttf (q_r a0) σ τ1 r1 τ3 r3 τ5 r5 τ7 r7 τ9 r9 τ11 r11 g1 (cm0t h2) g3 (cm0t h4) g5 (cm0t h6) g7 (cm1t h8) g9 (cm1t h10) g11 (cm1f h12)⟩
            · refine fun o16 τ16 g16 => ?_
              obtain ⟨r16, rfl, g16⟩ := g16
              refine And.intro (fun h17 => ?_) (fun h17 => ?_)
              · exact ⟨_, rfl, sp_225_ettttft (q_r a0) σ τ1 r1 τ3 r3 τ5 r5 τ7 r7 τ9 r9 τ16 r16 g1 (cm0t h2) g3 (cm0t h4) g5 (cm0t h6) g7 (cm1t h8) g9 (cm1f h10) g16 (cm0t h17)⟩
              · refine fun o18 τ18 g18 => ?_
                obtain ⟨r18, rfl, g18⟩ := g18
                refine And.intro (fun h19 => ?_) (fun h19 => ?_)
                · refine And.intro (fun h20 => ?_) (fun h20 => ?_)
                  · refine fun o21 τ21 g21 => ?_
                    obtain ⟨rfl, g21⟩ := g21
                    exact ⟨_, rfl, sp_225_ettttfftt (q_r a0) σ τ1 r1 τ3 r3 τ5 r5 τ7 r7 τ9 r9 τ16 r16 τ18 r18 τ21 g1 (cm0t h2) g3 (cm0t h4) g5 (cm0t h6) g7 (cm1t h8) g9 (cm1f h10) g16 (cm0f h17) g18 (cm1t h19) (cm0t h20) g21⟩
                  · refine fun o22 τ22 g22 => ?_
                    obtain ⟨rfl, g22⟩ := g22
                    exact ⟨_, rfl, sp_225_ettttfftf (q_r a0) σ τ1 r1 τ3 r3 τ5 r5 τ7 r7 τ9 r9 τ16 r16 τ18 r18 τ22 g1 (cm0t h2) g3 (cm0t h4) g5 (cm0t h6) g7 (cm1t h8) g9 (cm1f h10) g16 (cm0f h17) g18 (cm1t h19) (cm0f h20) g22⟩
                · exact ⟨_, rfl, sp_225_ettttfff (q_r a0) σ τ1 r1 τ3 r3 τ5 r5 τ7 r7 τ9 r9 τ16 r16 τ18 r18 g1 (cm0t h2) g3 (cm0t h4) g5 (cm0t h6) g7 (cm1t h8) g9 (cm1f h10) g16 (cm0f h17) g18 (cm1f h19)⟩
          · exact ⟨_, rfl, sp_225_etttf (q_r a0) σ τ1 r1 τ3 r3 τ5 r5 τ7 r7 g1 (cm0t h2) g3 (cm0t h4) g5 (cm0t h6) g7 (cm1f h8)⟩
        · exact ⟨_, rfl, sp_225_ettf (q_r a0) σ τ1 r1 τ3 r3 τ5 r5 g1 (cm0t h2) g3 (cm0t h4) g5 (cm0f h6)⟩
      · refine And.intro (fun h23 => ?_) (fun h23 => ?_)
        · refine fun o24 τ24 g24 => ?_
          obtain ⟨r24, rfl, g24⟩ := g24
          refine And.intro (fun h25 => ?_) (fun h25 => ?_)
          · refine fun o26 τ26 g26 => ?_
            obtain ⟨rfl, g26⟩ := g26
            exact ⟨_, rfl, sp_225_etftt (q_r a0) σ τ1 r1 τ3 r3 τ24 r24 τ26 g1 (cm0t h2) g3 (cm0f h4) (cm1t h23) g24 (cm1t h25) g26⟩
          · exact ⟨_, rfl, sp_225_etftf (q_r a0) σ τ1 r1 τ3 r3 τ24 r24 g1 (cm0t h2) g3 (cm0f h4) (cm1t h23) g24 (cm1f h25)⟩
        · exact ⟨_, rfl, sp_225_etff (q_r a0) σ τ1 r1 τ3 r3 g1 (cm0t h2) g3 (cm0f h4) (cm1f h23)⟩
    · refine And.intro (fun h27 => ?_) (fun h27 => ?_)
      · refine fun o28 τ28 g28 => ?_
        obtain ⟨r28, rfl, g28⟩ := g28
        refine And.intro (fun h29 => ?_) (fun h29 => ?_)
        · refine fun o30 τ30 g30 => ?_
          obtain ⟨r30, rfl, g30⟩ := g30
          exact ⟨_, rfl, sp_225_eftt (q_r a0) σ τ1 r1 τ28 r28 τ30 r30 g1 (cm0f h2) (cm1t h27) g28 (cm1t h29) g30⟩
        · exact ⟨_, rfl, sp_225_eftf (q_r a0) σ τ1 r1 τ28 r28 g1 (cm0f h2) (cm1t h27) g28 (cm1f h29)⟩
      · exact ⟨_, rfl, sp_225_eff (q_r a0) σ τ1 r1 g1 (cm0f h2) (cm1f h27)⟩
theorem sp_atom {sx : zX} (S206 : zEe sx 206 2 qP_206) (S205 : zEe sx 205 2 qP_205) (S224 : zEe sx 224 1 qP_224) (S223 : zEe sx 223 1 qP_223) (S221 : zEe sx 221 3 qP_221) : ∀ m, zMt sx m 225 1 qP_225 ∧ zMt sx m 226 1 qP_226 ∧ zMt sx m 227 1 qP_227
  | 0 => ⟨zMt0, zMt0, zMt0⟩
  | m + 1 => by
    obtain ⟨h1, h2, h3⟩ := sp_atom S206 S205 S224 S223 S221 m
    exact ⟨sp_225 (m := m) S206 S205 S224 S223 S221 h1 h3, sp_226 (m := m) S205 S221 h1, sp_227 (m := m) S205 S221 h2⟩
