section
/-! the LawReader of the class, exact; printed with wip/gen/gen_t4.py -/
noncomputable def encT : List Int := [-1, -2, -3, -4, -5, -6, -7, -8, 0, -10, -11, -12, -9, -13, -14]
noncomputable def enc (x : Nat × Nat) : Int32 := if x.1 = 8 then Int32.ofNat x.2 else Int32.ofInt (encT.getD x.1 0)
noncomputable def cD (σ : zSg) (t r C : Nat) : Prop := r ≠ t ∧ q_r (σ.1 r 3) = C ∧ C ≠ t ∧ C ≠ r ∧ C ≠ q_r (σ.1 t 0) ∧ q_r (σ.1 t 0) ≠ r ∧ σ.2.1 C = 400
noncomputable def cG (σ : zSg) (t r C : Nat) (b : Nat → Int) (A E : Nat) (l : zSs) (s : Nat) : Prop := cS σ t A E ∧ cb σ t = b ∧ (q_i (σ.1 t 3)).toInt = -1 ∧ cD σ t r C ∧ σ.1 r 5 = .int (Int32.ofNat l.length) ∧ l.length + s ≤ A ∧ ∀ i x, l[i]? = some x → σ.1 C i = .int (enc x)
noncomputable def cX (σ : zSg) (t r C : Nat) (b : Nat → Int) (E F : Nat) : Prop := (∃ A, cS σ t A E) ∧ cb σ t = b ∧ σ.1 t 3 = .int (Int32.ofNat F) ∧ F ≤ 400 ∧ cD σ t r C
noncomputable def cF (σ σ' : zSg) (t r C : Nat) : Prop := σ'.2 = σ.2 ∧ ∀ c k, ¬ (c = t ∧ (k = 2 ∨ k = 3)) → ¬ (c = r ∧ k = 5) → c ≠ C → σ'.1 c k = σ.1 c k
noncomputable def cO (σ' : zSg) (t r C : Nat) (b : Nat → Int) (E : Nat) (l : zSs) (s : Nat) (R : zRs) : Prop := match R with
  | .inl (A1, m) => cG σ' t r C b A1 E (l ++ m) s
  | .inr F => cX σ' t r C b E F
theorem zofNat2 {n : Nat} (h : n ≤ 100000) : (Int32.ofNat n).toInt = (n : Int) := Int32.toInt_ofNat_of_lt (by omega)
section CGL
variable {σ τ υ : zSg} {t r C A E F s : Nat} {b : Nat → Int} {l : zSs}
theorem cF.rf : cF σ σ t r C := ⟨rfl, fun _ _ _ _ _ => rfl⟩
theorem cF.tr (h1 : cF σ τ t r C) (h2 : cF τ υ t r C) : cF σ υ t r C := ⟨h2.1.trans h1.1, fun c k q1 q2 q3 => (h2.2 c k q1 q2 q3).trans (h1.2 c k q1 q2 q3)⟩
theorem cF.tp {k : Nat} {v : Value} (h : k = 2 ∨ k = 3) : cF σ (q_w σ t k v) t r C := ⟨rfl, fun c i q1 _ _ => q_w_ne (fun e1 e2 => q1 ⟨e1, by omega⟩)⟩
theorem cD.tp {k : Nat} {v : Value} (H : cD σ t r C) (h : k = 2 ∨ k = 3) : cD (q_w σ t k v) t r C := by
  obtain ⟨h1, h2, h3, h4, h5, h6, h7⟩ := H
  have e : q_r ((q_w σ t k v).1 t 0) = q_r (σ.1 t 0) := by rw [q_w_ne (fun _ q => by omega)]
  refine ⟨h1, ?_, h3, h4, by rw [e]; exact h5, by rw [e]; exact h6, h7⟩
  rw [q_w_ne (fun q _ => h1 q)]
  exact h2
theorem cG.le (H : cG σ t r C b A E l s) : A ≤ E ∧ E ≤ 400 := ⟨H.1.2.2.2.1, H.1.2.2.2.2.1⟩
theorem cG.at {A1 s1 : Nat} (H : cG σ t r C b A E l s) (h : A1 ≤ E) (hs : l.length + s1 ≤ A1) : cG (q_w σ t 2 (.int (Int32.ofNat A1))) t r C b A1 E l s1 := by
  obtain ⟨h1, h2, h3, h4, h5, h6, h7⟩ := H
  refine ⟨h1.at h, (cb_w h1.1 (by omega)).trans h2, ?_, h4.tp (Or.inl rfl), ?_, hs, fun i x hx => ?_⟩
  · rw [q_w_ne (fun _ q => by omega)]; exact h3
  · rw [q_w_ne (fun q _ => h4.1 q)]; exact h5
  · rw [q_w_ne (fun q _ => h4.2.2.1 q)]; exact h7 i x hx
theorem cG.wr (H : cG σ t r C b A E l s) : cX (q_w σ t 3 (.int (Int32.ofNat A))) t r C b E A := by
  have hl := H.le
  obtain ⟨h1, h2, h3, h4, h5, h6, h7⟩ := H
  exact ⟨⟨A, h1.wr⟩, (cb_w h1.1 (by omega)).trans h2, q_w_at _ _ _ _, by omega, h4.tp (Or.inr rfl)⟩
theorem cG.wk {s1 : Nat} (H : cG σ t r C b A E l s) (h : s1 ≤ s) : cG σ t r C b A E l s1 := by
  obtain ⟨h1, h2, h3, h4, h5, h6, h7⟩ := H
  exact ⟨h1, h2, h3, h4, h5, by omega, h7⟩
theorem cX.no (H : cX σ t r C b E F) : (q_i (σ.1 t 3)).toInt ≠ -1 := by
  obtain ⟨h1, h2, h3, h4, h5⟩ := H
  rw [h3]
  show (Int32.ofNat F).toInt ≠ -1
  rw [o32 (by omega)]
  omega
theorem cX.at {A1 : Nat} (H : cX σ t r C b E F) (h : A1 ≤ E) : cX (q_w σ t 2 (.int (Int32.ofNat A1))) t r C b E F := by
  obtain ⟨⟨A, h1⟩, h2, h3, h4, h5⟩ := H
  exact ⟨⟨A1, h1.at h⟩, (cb_w h1.1 (by omega)).trans h2, by rw [q_w_ne (fun _ q => by omega)]; exact h3, h4, h5.tp (Or.inl rfl)⟩
theorem cG.sg {c x : Int32} (H : cG σ t r C b A E l s) (G : p_93 t c σ x τ) (h0 : 0 ≤ c.toInt) (h1 : c.toInt ≤ 127) : cF σ τ t r C ∧ (x.toInt ≠ 0 → ts b E c.toInt A = some (zBl b E (A + 1)) ∧ cG τ t r C b (zBl b E (A + 1)) E l (s + 1)) ∧ (x.toInt = 0 → ts b E c.toInt A = none ∧ τ = σ) := by
  have hb := H.2.1
  have := G A E H.1 h0 h1
  rw [hb] at this
  rcases this with ⟨g1, g2, g3, rfl⟩ | ⟨g1, g2, rfl⟩
  · have h9 := H.2.2.2.2.2.1
    have hg := zBl_ge (b := b) (E := E) (P := A + 1)
    refine ⟨cF.tp (Or.inl rfl), fun _ => ⟨?_, H.at (zBl_le (by omega)) (by omega)⟩, fun q => absurd q g1⟩
    unfold ts
    rw [if_pos g3]
  · refine ⟨cF.rf, fun q => absurd g1 q, fun _ => ⟨?_, rfl⟩⟩
    unfold ts
    rw [if_neg (g2 H.2.2.1)]
theorem cX.sg {c x : Int32} (H : cX σ t r C b E F) (G : p_93 t c σ x τ) (h0 : 0 ≤ c.toInt) (h1 : c.toInt ≤ 127) : x.toInt = 0 ∧ τ = σ := by
  have hn := H.no
  obtain ⟨⟨A, g1⟩, -⟩ := H
  rcases G A E g1 h0 h1 with ⟨-, g2, -⟩ | ⟨g1, -, g3⟩
  · exact absurd g2 hn
  · exact ⟨g1, g3⟩
theorem cG.ns {c : Int32} (H : cG σ t r C b A E l s) (G : p_94 t c σ τ) (h0 : 0 ≤ c.toInt) (h1 : c.toInt ≤ 127) : cF σ τ t r C ∧ (∀ A1, ts b E c.toInt A = some A1 → cG τ t r C b A1 E l (s + 1)) ∧ (ts b E c.toInt A = none → cX τ t r C b E A) := by
  have hb := H.2.1
  have h9 := H.2.2.2.2.2.1
  have hg := zBl_ge (b := b) (E := E) (P := A + 1)
  have := (G A E H.1 h0 h1).1 H.2.2.1
  rw [hb] at this
  by_cases hc : A < E ∧ b A = c.toInt
  · obtain rfl := this.1 hc
    refine ⟨cF.tp (Or.inl rfl), fun A1 q => ?_, fun q => ?_⟩
    · unfold ts at q
      rw [if_pos hc] at q
      cases q
      exact H.at (zBl_le (by omega)) (by omega)
    · unfold ts at q
      rw [if_pos hc] at q
      cases q
  · obtain rfl := this.2 hc
    refine ⟨cF.tp (Or.inr rfl), fun A1 q => ?_, fun _ => H.wr⟩
    unfold ts at q
    rw [if_neg hc] at q
    cases q
theorem cX.ns {c : Int32} (H : cX σ t r C b E F) (G : p_94 t c σ τ) (h0 : 0 ≤ c.toInt) (h1 : c.toInt ≤ 127) : τ = σ := by
  have hn := H.no
  obtain ⟨⟨A, g1⟩, -⟩ := H
  exact (G A E g1 h0 h1).2 hn
theorem cG.tk {w : Nat} {x : Int32} {z : List Int} (H : cG σ t r C b A E l s) (G : p_91 t w σ x τ) (hw : zwk w) (hz : q_si w = z) (q : Nat) (h1 : q ≤ z.length) : cF σ τ t r C ∧ (x.toInt ≠ 0 → tw b E z A = some (zBl b E (A + z.length)) ∧ cG τ t r C b (zBl b E (A + z.length)) E l (s + q)) ∧ (x.toInt = 0 → tw b E z A = none ∧ τ = σ) := by
  have hb := H.2.1
  have hl : (q_s w).length = z.length := by rw [← hz, q_si_len]
  have hA := H.le
  have := G A E H.1 hw
  rw [hb, hz, hl] at this
  rcases this with ⟨g1, g2, g3, rfl⟩ | ⟨g1, g2, rfl⟩
  · have h9 := H.2.2.2.2.2.1
    have hg := zBl_ge (b := b) (E := E) (P := A + z.length)
    have g4 : A + z.length ≤ E := by
      have h8 : zRn b E 97 122 A = A + z.length := g3.1
      rw [← h8]
      exact zRn_le hA.1
    refine ⟨cF.tp (Or.inl rfl), fun _ => ⟨?_, H.at (zBl_le g4) (by omega)⟩, fun q => absurd q g1⟩
    exact tw_pos g3
  · refine ⟨cF.rf, fun q => absurd g1 q, fun _ => ⟨?_, rfl⟩⟩
    exact tw_neg (g2 H.2.2.1)
theorem cX.tk {w : Nat} {x : Int32} (H : cX σ t r C b E F) (G : p_91 t w σ x τ) (hw : zwk w) : x.toInt = 0 ∧ τ = σ := by
  have hn := H.no
  obtain ⟨⟨A, g1⟩, -⟩ := H
  rcases G A E g1 hw with ⟨-, g2, -⟩ | ⟨g1, -, g3⟩
  · exact absurd g2 hn
  · exact ⟨g1, g3⟩
theorem cG.rf (H : cG σ t r C b A E l s) (G : p_90 t σ τ) : cF σ τ t r C ∧ cX τ t r C b E A := by
  have := G.2 H.2.2.1
  rw [H.1.2.2.1] at this
  have e : τ = q_w σ t 3 (.int (Int32.ofNat A)) := this
  subst e
  exact ⟨cF.tp (Or.inr rfl), H.wr⟩
theorem cX.rf (H : cX σ t r C b E F) (G : p_90 t σ τ) : τ = σ := G.1 H.no
theorem cG.nb {lo hi x : Int32} (H : cG σ t r C b A E l s) (G : p_96 t lo hi σ x τ) (h0 : 0 ≤ lo.toInt) : cF σ τ t r C ∧ (∀ A1 v, tn b E lo.toInt hi.toInt A = some (A1, v) → x = Int32.ofNat v ∧ cG τ t r C b A1 E l (s + 1)) ∧ (tn b E lo.toInt hi.toInt A = none → cX τ t r C b E A) := by
  have hb := H.2.1
  have hA := H.le
  have h9 := H.2.2.2.2.2.1
  have := (G A E H.1 h0).1 H.2.2.1
  rw [hb] at this
  rcases this with ⟨g1, g2, rfl⟩ | ⟨g1, g2, rfl⟩
  · have hv := zNm_ge (b := b) (E := E) (lo := lo.toInt) (hi := hi.toInt) (A := A) (by omega)
    have hd : A < zDe b E A := by
      have h8 := zRn_ge (b := b) (E := E) (lo := 48) (hi := 57) (P := A)
      have e8 : zDe b E A = zRn b E 48 57 A := rfl
      by_cases hq : zDe b E A - A = 0
      · exfalso
        unfold zNm at g1
        rw [if_neg (by omega)] at g1
        omega
      · omega
    have hg := zBl_ge (b := b) (E := E) (P := zDe b E A)
    refine ⟨cF.tp (Or.inl rfl), fun A1 v q => ?_, fun q => ?_⟩
    · unfold tn at q
      rw [if_pos g1] at q
      cases q
      refine ⟨Int32.toInt_inj.mp ?_, H.at (zBl_le (zRn_le hA.1)) (by omega)⟩
      rw [g2, zofNat2 (by omega)]
      omega
    · unfold tn at q
      rw [if_pos g1] at q
      cases q
  · refine ⟨cF.tp (Or.inr rfl), fun A1 v q => ?_, fun _ => H.wr⟩
    unfold tn at q
    rw [if_neg (by omega)] at q
    cases q
theorem cX.nb {lo hi x : Int32} (H : cX σ t r C b E F) (G : p_96 t lo hi σ x τ) (h0 : 0 ≤ lo.toInt) : cF σ τ t r C ∧ cX τ t r C b E F := by
  have hn := H.no
  obtain ⟨A, g1⟩ := H.1
  obtain ⟨-, A', h1, rfl⟩ := (G A E g1 h0).2 hn
  exact ⟨cF.tp (Or.inl rfl), H.at h1⟩
end CGL
noncomputable def p_54 (r : Nat) (x : Int32) (σ σ' : zSg) : Prop := ∀ t C b E, (∀ A l s m n, cG σ t r C b A E l (s + 1) → x = enc (m, n) → cF σ σ' t r C ∧ cG σ' t r C b A E (l ++ [(m, n)]) s) ∧ (∀ F, cX σ t r C b E F → cF σ σ' t r C ∧ cX σ' t r C b E F)
theorem cX.pw {σ : zSg} {t r C E F : Nat} {b : Nat → Int} {k : Nat} {v w : Value} (H : cX σ t r C b E F) : cF σ (q_w (q_w σ C k v) r 5 w) t r C ∧ cX (q_w (q_w σ C k v) r 5 w) t r C b E F := by
  obtain ⟨⟨A, h1⟩, h2, h3, h4, h5⟩ := H
  obtain ⟨d1, d2, d3, d4, d5, d6, d7⟩ := h5
  have go : ∀ c i, c ≠ C → ¬ (c = r ∧ i = 5) → (q_w (q_w σ C k v) r 5 w).1 c i = σ.1 c i := by
    intro c i q1 q2
    rw [q_w_ne (fun e1 e2 => q2 ⟨e1, e2⟩), q_w_ne (fun e1 _ => q1 e1)]
  have gt : ∀ i, (q_w (q_w σ C k v) r 5 w).1 t i = σ.1 t i := fun i => go t i (fun q => d3 q.symm) (fun q => d1 q.1.symm)
  have gb : cu (q_w (q_w σ C k v) r 5 w) t = cu σ t := by
    funext i
    unfold cu
    rw [gt 0, go _ _ (fun q => d5 q.symm) (fun q => d6 q.1)]
  obtain ⟨a1, a2, a3, a4, a5, a6⟩ := h1
  refine ⟨⟨rfl, fun c i q1 q2 q3 => go c i q3 q2⟩, ⟨A, ?_, ?_, ?_, a4, a5, ?_⟩, ?_, ?_, h4, d1, ?_, d3, d4, ?_, ?_, d7⟩
  · rw [gt]; exact a1
  · rw [gt]; exact a2
  · rw [gt]; exact a3
  · rw [gb]; exact a6
  · rw [← h2]
    funext i
    unfold cb
    rw [gb]
  · rw [gt]; exact h3
  · rw [go r 3 (fun q => d4 q.symm) (fun q => by omega)]; exact d2
  · rw [gt]; exact d5
  · rw [gt]; exact d6
theorem zJ_54 : zJ3 54 z_m54 z_c54 z_h54 := ⟨rfl, rfl, rfl⟩
theorem sp_54_et (a0 : Nat) (a1 : Int32) (σ : zSg) (h1 : (q_i (σ.1 a0 5)).toInt ≥ (Int32.ofNat (σ.2.1 (q_r (σ.1 a0 3)))).toInt) :
    p_54 (a0) (a1) σ σ := by
  intro t C b E
  refine ⟨fun A l s m n H hx => ?_, fun F H => ⟨cF.rf, H⟩⟩
  exfalso
  have hA := H.le
  have h6 := H.2.2.2.2.2.1
  have hC := H.2.2.2.1.2.1
  have h4 := H.2.2.2.1.2.2.2.2.2.2
  rw [H.2.2.2.2.1, hC, h4] at h1
  have h9 : (Int32.ofNat l.length).toInt ≥ (Int32.ofNat 400).toInt := h1
  rw [o32 (by omega), o32 (by omega)] at h9
  omega
theorem sp_54_ef (a0 : Nat) (a1 : Int32) (σ : zSg) (h1 : (q_i (σ.1 a0 5)).toInt < (Int32.ofNat (σ.2.1 (q_r (σ.1 a0 3)))).toInt) (h2 : 0 ≤ (q_i (σ.1 a0 5)).toInt ∧ (q_i (σ.1 a0 5)).toInt < (σ.2.1 (q_r (σ.1 a0 3)) : Int)) :
    p_54 (a0) (a1) σ (q_w (q_w σ (q_r (σ.1 a0 3)) (q_i (σ.1 a0 5)).toNatClampNeg (.int a1)) a0 5 (.int ((q_i ((q_w σ (q_r (σ.1 a0 3)) (q_i (σ.1 a0 5)).toNatClampNeg (.int a1)).1 a0 5)) + (Int32.ofInt (1))))) := by
  intro t C b E
  have r5 : ∀ v, q_r (σ.1 a0 3) = C → C ≠ a0 → (q_w σ (q_r (σ.1 a0 3)) (q_i (σ.1 a0 5)).toNatClampNeg v).1 a0 5 = σ.1 a0 5 := fun v e q => q_w_ne (fun e1 _ => q (e ▸ e1.symm))
  refine ⟨fun A l s m n H hx => ?_, fun F H => ?_⟩
  · have hA := H.le
    obtain ⟨h1, h2, h3, h4, h5, h6, h7⟩ := H
    obtain ⟨d1, d2, d3, d4, d5, d6, d7⟩ := h4
    have hl5 : q_i (σ.1 a0 5) = Int32.ofNat l.length := by rw [h5]; rfl
    rw [r5 _ d2 d4, d2, hl5, o32n (by omega), o32i (by omega), hx]
    have go : ∀ c i, c ≠ C → ¬ (c = a0 ∧ i = 5) → (q_w (q_w σ C l.length (.int (enc (m, n)))) a0 5 (.int (Int32.ofNat (l.length + 1)))).1 c i = σ.1 c i := by
      intro c i q1 q2
      rw [q_w_ne (fun e1 e2 => q2 ⟨e1, e2⟩), q_w_ne (fun e1 _ => q1 e1)]
    have gt : ∀ i, (q_w (q_w σ C l.length (.int (enc (m, n)))) a0 5 (.int (Int32.ofNat (l.length + 1)))).1 t i = σ.1 t i := fun i => go t i (fun q => d3 q.symm) (fun q => d1 q.1.symm)
    have gb : cu (q_w (q_w σ C l.length (.int (enc (m, n)))) a0 5 (.int (Int32.ofNat (l.length + 1)))) t = cu σ t := by
      funext i
      unfold cu
      rw [gt 0, go _ _ (fun q => d5 q.symm) (fun q => d6 q.1)]
    obtain ⟨a1', a2', a3', a4', a5', a6'⟩ := h1
    refine ⟨⟨rfl, fun c i q1 q2 q3 => go c i q3 q2⟩, ⟨?_, ?_, ?_, a4', a5', ?_⟩, ?_, ?_, ⟨d1, ?_, d3, d4, ?_, ?_, d7⟩, ?_, ?_, fun i x hx' => ?_⟩
    · rw [gt]; exact a1'
    · rw [gt]; exact a2'
    · rw [gt]; exact a3'
    · rw [gb]; exact a6'
    · rw [← h2]
      funext i
      unfold cb
      rw [gb]
    · rw [gt]; exact h3
    · rw [go a0 3 (fun q => d4 q.symm) (fun q => by omega)]; exact d2
    · rw [gt]; exact d5
    · rw [gt]; exact d6
    · rw [q_w_at, List.length_append]; rfl
    · rw [List.length_append]; show l.length + 1 + s ≤ A; omega
    · rw [q_w_ne (fun e1 _ => d4 e1)]
      by_cases hi : i < l.length
      · rw [List.getElem?_append_left hi] at hx'
        rw [q_w_ne (fun _ e2 => by omega)]
        exact h7 i x hx'
      · rw [List.getElem?_append_right (by omega)] at hx'
        have hi2 : i = l.length := by
          cases hd : i - l.length with
          | zero => omega
          | succ n => rw [hd] at hx'; simp at hx'
        subst hi2
        rw [Nat.sub_self] at hx'
        cases hx'
        exact q_w_at _ _ _ _
  · have d2 := H.2.2.2.2.2.1
    have d4 := H.2.2.2.2.2.2.2.1
    rw [r5 _ d2 d4, d2]
    exact H.pw
noncomputable def qP_54 : zPp := fun as σ o σ' => match as with
  | [a0, a1] => o = .inl none ∧ p_54 (q_r a0) (q_i a1) σ σ'
  | _ => True
set_option maxRecDepth 100000 in
theorem sp_54 {sx : zX}  : zEe sx 54 2 qP_54 := by
  refine zfle zJ_54 (sps := []) (fun q hq => absurd hq List.not_mem_nil) (fun as σ hl => ?_)
  match as, hl with
  | [a0, a1], _ =>
  refine ⟨[], 400, ?_, ?_⟩
  · exact fun q hq => absurd hq List.not_mem_nil
  · refine And.intro (fun h1 => ?_) (fun h1 => ?_)
    · exact ⟨rfl, sp_54_et (q_r a0) (q_i a1) σ (cm3t h1)⟩
    · refine fun h2 => ?_
      exact ⟨rfl, sp_54_ef (q_r a0) (q_i a1) σ (cm3f h1) (q_inp h2)⟩
theorem qsi_36 : q_si (zB + 36) = wFamily := by decide +kernel
theorem zwk_36 : zwk (zB + 36) := by
  have h : (decide ((q_s (zB + 36)).length ≤ 100) && (List.range (q_s (zB + 36)).length).all (fun i => decide (97 ≤ (q_si (zB + 36)).getD i 0 ∧ (q_si (zB + 36)).getD i 0 ≤ 122))) = true := by decide +kernel
  rw [Bool.and_eq_true, decide_eq_true_eq] at h
  refine ⟨h.1, fun i hi => ?_⟩
  have := List.all_eq_true.mp h.2 i (List.mem_range.mpr hi)
  exact of_decide_eq_true this
theorem qsi_37 : q_si (zB + 37) = wHour := by decide +kernel
theorem zwk_37 : zwk (zB + 37) := by
  have h : (decide ((q_s (zB + 37)).length ≤ 100) && (List.range (q_s (zB + 37)).length).all (fun i => decide (97 ≤ (q_si (zB + 37)).getD i 0 ∧ (q_si (zB + 37)).getD i 0 ≤ 122))) = true := by decide +kernel
  rw [Bool.and_eq_true, decide_eq_true_eq] at h
  refine ⟨h.1, fun i hi => ?_⟩
  have := List.all_eq_true.mp h.2 i (List.mem_range.mpr hi)
  exact of_decide_eq_true this
theorem qsi_38 : q_si (zB + 38) = wHeat := by decide +kernel
theorem zwk_38 : zwk (zB + 38) := by
  have h : (decide ((q_s (zB + 38)).length ≤ 100) && (List.range (q_s (zB + 38)).length).all (fun i => decide (97 ≤ (q_si (zB + 38)).getD i 0 ∧ (q_si (zB + 38)).getD i 0 ≤ 122))) = true := by decide +kernel
  rw [Bool.and_eq_true, decide_eq_true_eq] at h
  refine ⟨h.1, fun i hi => ?_⟩
  have := List.all_eq_true.mp h.2 i (List.mem_range.mpr hi)
  exact of_decide_eq_true this
theorem qsi_39 : q_si (zB + 39) = wDirt := by decide +kernel
theorem zwk_39 : zwk (zB + 39) := by
  have h : (decide ((q_s (zB + 39)).length ≤ 100) && (List.range (q_s (zB + 39)).length).all (fun i => decide (97 ≤ (q_si (zB + 39)).getD i 0 ∧ (q_si (zB + 39)).getD i 0 ≤ 122))) = true := by decide +kernel
  rw [Bool.and_eq_true, decide_eq_true_eq] at h
  refine ⟨h.1, fun i hi => ?_⟩
  have := List.all_eq_true.mp h.2 i (List.mem_range.mpr hi)
  exact of_decide_eq_true this
theorem qsi_40 : q_si (zB + 40) = wQuarrel := by decide +kernel
theorem zwk_40 : zwk (zB + 40) := by
  have h : (decide ((q_s (zB + 40)).length ≤ 100) && (List.range (q_s (zB + 40)).length).all (fun i => decide (97 ≤ (q_si (zB + 40)).getD i 0 ∧ (q_si (zB + 40)).getD i 0 ≤ 122))) = true := by decide +kernel
  rw [Bool.and_eq_true, decide_eq_true_eq] at h
  refine ⟨h.1, fun i hi => ?_⟩
  have := List.all_eq_true.mp h.2 i (List.mem_range.mpr hi)
  exact of_decide_eq_true this
theorem qsi_41 : q_si (zB + 41) = wLeft := by decide +kernel
theorem zwk_41 : zwk (zB + 41) := by
  have h : (decide ((q_s (zB + 41)).length ≤ 100) && (List.range (q_s (zB + 41)).length).all (fun i => decide (97 ≤ (q_si (zB + 41)).getD i 0 ∧ (q_si (zB + 41)).getD i 0 ≤ 122))) = true := by decide +kernel
  rw [Bool.and_eq_true, decide_eq_true_eq] at h
  refine ⟨h.1, fun i hi => ?_⟩
  have := List.all_eq_true.mp h.2 i (List.mem_range.mpr hi)
  exact of_decide_eq_true this
theorem qsi_34 : q_si (zB + 34) = wNight := by decide +kernel
theorem zwk_34 : zwk (zB + 34) := by
  have h : (decide ((q_s (zB + 34)).length ≤ 100) && (List.range (q_s (zB + 34)).length).all (fun i => decide (97 ≤ (q_si (zB + 34)).getD i 0 ∧ (q_si (zB + 34)).getD i 0 ≤ 122))) = true := by decide +kernel
  rw [Bool.and_eq_true, decide_eq_true_eq] at h
  refine ⟨h.1, fun i hi => ?_⟩
  have := List.all_eq_true.mp h.2 i (List.mem_range.mpr hi)
  exact of_decide_eq_true this
theorem qsi_35 : q_si (zB + 35) = wWished := by decide +kernel
theorem zwk_35 : zwk (zB + 35) := by
  have h : (decide ((q_s (zB + 35)).length ≤ 100) && (List.range (q_s (zB + 35)).length).all (fun i => decide (97 ≤ (q_si (zB + 35)).getD i 0 ∧ (q_si (zB + 35)).getD i 0 ≤ 122))) = true := by decide +kernel
  rw [Bool.and_eq_true, decide_eq_true_eq] at h
  refine ⟨h.1, fun i hi => ?_⟩
  have := List.all_eq_true.mp h.2 i (List.mem_range.mpr hi)
  exact of_decide_eq_true this
theorem qsi_33 : q_si (zB + 33) = wNot := by decide +kernel
theorem zwk_33 : zwk (zB + 33) := by
  have h : (decide ((q_s (zB + 33)).length ≤ 100) && (List.range (q_s (zB + 33)).length).all (fun i => decide (97 ≤ (q_si (zB + 33)).getD i 0 ∧ (q_si (zB + 33)).getD i 0 ≤ 122))) = true := by decide +kernel
  rw [Bool.and_eq_true, decide_eq_true_eq] at h
  refine ⟨h.1, fun i hi => ?_⟩
  have := List.all_eq_true.mp h.2 i (List.mem_range.mpr hi)
  exact of_decide_eq_true this
theorem qsi_31 : q_si (zB + 31) = wAnd := by decide +kernel
theorem zwk_31 : zwk (zB + 31) := by
  have h : (decide ((q_s (zB + 31)).length ≤ 100) && (List.range (q_s (zB + 31)).length).all (fun i => decide (97 ≤ (q_si (zB + 31)).getD i 0 ∧ (q_si (zB + 31)).getD i 0 ≤ 122))) = true := by decide +kernel
  rw [Bool.and_eq_true, decide_eq_true_eq] at h
  refine ⟨h.1, fun i hi => ?_⟩
  have := List.all_eq_true.mp h.2 i (List.mem_range.mpr hi)
  exact of_decide_eq_true this
theorem qsi_32 : q_si (zB + 32) = wOr := by decide +kernel
theorem zwk_32 : zwk (zB + 32) := by
  have h : (decide ((q_s (zB + 32)).length ≤ 100) && (List.range (q_s (zB + 32)).length).all (fun i => decide (97 ≤ (q_si (zB + 32)).getD i 0 ∧ (q_si (zB + 32)).getD i 0 ≤ 122))) = true := by decide +kernel
  rw [Bool.and_eq_true, decide_eq_true_eq] at h
  refine ⟨h.1, fun i hi => ?_⟩
  have := List.all_eq_true.mp h.2 i (List.mem_range.mpr hi)
  exact of_decide_eq_true this
theorem qsi_27 : q_si (zB + 27) = wIf := by decide +kernel
theorem zwk_27 : zwk (zB + 27) := by
  have h : (decide ((q_s (zB + 27)).length ≤ 100) && (List.range (q_s (zB + 27)).length).all (fun i => decide (97 ≤ (q_si (zB + 27)).getD i 0 ∧ (q_si (zB + 27)).getD i 0 ≤ 122))) = true := by decide +kernel
  rw [Bool.and_eq_true, decide_eq_true_eq] at h
  refine ⟨h.1, fun i hi => ?_⟩
  have := List.all_eq_true.mp h.2 i (List.mem_range.mpr hi)
  exact of_decide_eq_true this
theorem qsi_28 : q_si (zB + 28) = wWarm := by decide +kernel
theorem zwk_28 : zwk (zB + 28) := by
  have h : (decide ((q_s (zB + 28)).length ≤ 100) && (List.range (q_s (zB + 28)).length).all (fun i => decide (97 ≤ (q_si (zB + 28)).getD i 0 ∧ (q_si (zB + 28)).getD i 0 ≤ 122))) = true := by decide +kernel
  rw [Bool.and_eq_true, decide_eq_true_eq] at h
  refine ⟨h.1, fun i hi => ?_⟩
  have := List.all_eq_true.mp h.2 i (List.mem_range.mpr hi)
  exact of_decide_eq_true this
theorem qsi_29 : q_si (zB + 29) = wDust := by decide +kernel
theorem zwk_29 : zwk (zB + 29) := by
  have h : (decide ((q_s (zB + 29)).length ≤ 100) && (List.range (q_s (zB + 29)).length).all (fun i => decide (97 ≤ (q_si (zB + 29)).getD i 0 ∧ (q_si (zB + 29)).getD i 0 ≤ 122))) = true := by decide +kernel
  rw [Bool.and_eq_true, decide_eq_true_eq] at h
  refine ⟨h.1, fun i hi => ?_⟩
  have := List.all_eq_true.mp h.2 i (List.mem_range.mpr hi)
  exact of_decide_eq_true this
theorem qsi_30 : q_si (zB + 30) = wFine := by decide +kernel
theorem zwk_30 : zwk (zB + 30) := by
  have h : (decide ((q_s (zB + 30)).length ≤ 100) && (List.range (q_s (zB + 30)).length).all (fun i => decide (97 ≤ (q_si (zB + 30)).getD i 0 ∧ (q_si (zB + 30)).getD i 0 ≤ 122))) = true := by decide +kernel
  rw [Bool.and_eq_true, decide_eq_true_eq] at h
  refine ⟨h.1, fun i hi => ?_⟩
  have := List.all_eq_true.mp h.2 i (List.mem_range.mpr hi)
  exact of_decide_eq_true this
noncomputable def p_53 (r t : Nat) (σ σ' : zSg) : Prop := ∀ C b E, (∀ A l s, cG σ t r C b A E l s → cF σ σ' t r C ∧ cO σ' t r C b E l s (gPart b E A)) ∧ (∀ F, cX σ t r C b E F → cF σ σ' t r C ∧ cX σ' t r C b E F)
theorem zJ_53 : zJ3 53 z_m53 z_c53 z_h53 := ⟨rfl, rfl, rfl⟩
theorem sp_53_ettttttt (a0 : Nat) (a1 : Nat) (σ : zSg) (τ1 : zSg) (r1 : Int32) (τ3 : zSg) (r3 : Int32) (τ5 : zSg) (r5 : Int32) (τ7 : zSg) (r7 : Int32) (τ9 : zSg) (r9 : Int32) (τ11 : zSg) (r11 : Int32) (τ13 : zSg) (r13 : Int32) (τ15 : zSg) (g1 : p_95 a1 σ r1 τ1) (h2 : r1.toInt = (0 : Int)) (g3 : p_91 a1 (zB + 36) τ1 r3 τ3) (h4 : r3.toInt = (0 : Int)) (g5 : p_91 a1 (zB + 37) τ3 r5 τ5) (h6 : r5.toInt = (0 : Int)) (g7 : p_91 a1 (zB + 38) τ5 r7 τ7) (h8 : r7.toInt = (0 : Int)) (g9 : p_91 a1 (zB + 39) τ7 r9 τ9) (h10 : r9.toInt = (0 : Int)) (g11 : p_91 a1 (zB + 40) τ9 r11 τ11) (h12 : r11.toInt = (0 : Int)) (g13 : p_91 a1 (zB + 41) τ11 r13 τ13) (h14 : r13.toInt = (0 : Int)) (g15 : p_90 a1 τ13 τ15) :
    p_53 (a0) (a1) σ τ15 := by
  intro C b E
  obtain ⟨rfl, gs⟩ := g1
  refine ⟨fun A l s H => ?_, fun F H => ?_⟩
  · have hd : ¬ (A < E ∧ 48 ≤ b A ∧ b A ≤ 57) := by
      intro q
      rw [← H.2.1] at q
      exact ((gs A E H.1).mpr ⟨H.2.2.1, q⟩) h2
    obtain ⟨-, -, v0⟩ := H.tk g3 zwk_36 qsi_36 1 (by decide)
    obtain ⟨e0, rfl⟩ := v0 h4
    obtain ⟨-, -, v1⟩ := H.tk g5 zwk_37 qsi_37 1 (by decide)
    obtain ⟨e1, rfl⟩ := v1 h6
    obtain ⟨-, -, v2⟩ := H.tk g7 zwk_38 qsi_38 1 (by decide)
    obtain ⟨e2, rfl⟩ := v2 h8
    obtain ⟨-, -, v3⟩ := H.tk g9 zwk_39 qsi_39 1 (by decide)
    obtain ⟨e3, rfl⟩ := v3 h10
    obtain ⟨-, -, v4⟩ := H.tk g11 zwk_40 qsi_40 1 (by decide)
    obtain ⟨e4, rfl⟩ := v4 h12
    obtain ⟨-, -, v5⟩ := H.tk g13 zwk_41 qsi_41 1 (by decide)
    obtain ⟨e5, rfl⟩ := v5 h14
    obtain ⟨f1, H1⟩ := H.rf g15
    have hp := gPart_n hd (show tws b E A [wFamily, wHour, wHeat, wDirt, wQuarrel, wLeft] 0 = none by simp only [tws, e0, e1, e2, e3, e4, e5])
    rw [hp]
    exact ⟨f1, H1⟩
  · obtain ⟨x0, rfl⟩ := H.tk g3 zwk_36
    obtain ⟨x1, rfl⟩ := H.tk g5 zwk_37
    obtain ⟨x2, rfl⟩ := H.tk g7 zwk_38
    obtain ⟨x3, rfl⟩ := H.tk g9 zwk_39
    obtain ⟨x4, rfl⟩ := H.tk g11 zwk_40
    obtain ⟨x5, rfl⟩ := H.tk g13 zwk_41
    obtain rfl := H.rf g15
    exact ⟨cF.rf, H⟩
theorem sp_53_ettttttf (a0 : Nat) (a1 : Nat) (σ : zSg) (τ1 : zSg) (r1 : Int32) (τ3 : zSg) (r3 : Int32) (τ5 : zSg) (r5 : Int32) (τ7 : zSg) (r7 : Int32) (τ9 : zSg) (r9 : Int32) (τ11 : zSg) (r11 : Int32) (τ13 : zSg) (r13 : Int32) (τ16 : zSg) (g1 : p_95 a1 σ r1 τ1) (h2 : r1.toInt = (0 : Int)) (g3 : p_91 a1 (zB + 36) τ1 r3 τ3) (h4 : r3.toInt = (0 : Int)) (g5 : p_91 a1 (zB + 37) τ3 r5 τ5) (h6 : r5.toInt = (0 : Int)) (g7 : p_91 a1 (zB + 38) τ5 r7 τ7) (h8 : r7.toInt = (0 : Int)) (g9 : p_91 a1 (zB + 39) τ7 r9 τ9) (h10 : r9.toInt = (0 : Int)) (g11 : p_91 a1 (zB + 40) τ9 r11 τ11) (h12 : r11.toInt = (0 : Int)) (g13 : p_91 a1 (zB + 41) τ11 r13 τ13) (h14 : r13.toInt ≠ (0 : Int)) (g16 : p_54 a0 (Int32.ofInt (-6)) τ13 τ16) :
    p_53 (a0) (a1) σ τ16 := by
  intro C b E
  obtain ⟨rfl, gs⟩ := g1
  refine ⟨fun A l s H => ?_, fun F H => ?_⟩
  · have hd : ¬ (A < E ∧ 48 ≤ b A ∧ b A ≤ 57) := by
      intro q
      rw [← H.2.1] at q
      exact ((gs A E H.1).mpr ⟨H.2.2.1, q⟩) h2
    obtain ⟨-, -, v0⟩ := H.tk g3 zwk_36 qsi_36 1 (by decide)
    obtain ⟨e0, rfl⟩ := v0 h4
    obtain ⟨-, -, v1⟩ := H.tk g5 zwk_37 qsi_37 1 (by decide)
    obtain ⟨e1, rfl⟩ := v1 h6
    obtain ⟨-, -, v2⟩ := H.tk g7 zwk_38 qsi_38 1 (by decide)
    obtain ⟨e2, rfl⟩ := v2 h8
    obtain ⟨-, -, v3⟩ := H.tk g9 zwk_39 qsi_39 1 (by decide)
    obtain ⟨e3, rfl⟩ := v3 h10
    obtain ⟨-, -, v4⟩ := H.tk g11 zwk_40 qsi_40 1 (by decide)
    obtain ⟨e4, rfl⟩ := v4 h12
    obtain ⟨f1, u, -⟩ := H.tk g13 zwk_41 qsi_41 1 (by decide)
    obtain ⟨e5, H1⟩ := u h14
    obtain ⟨f2, h12⟩ := (g16 a1 C b E).1 _ l s 5 0 H1 rfl
    have hp := gPart_w hd (show tws b E A [wFamily, wHour, wHeat, wDirt, wQuarrel, wLeft] 0 = some (zBl b E (A + wLeft.length), 5) by simp only [tws, e0, e1, e2, e3, e4, e5])
    rw [hp]
    exact ⟨f1.tr f2, h12⟩
  · obtain ⟨x0, rfl⟩ := H.tk g3 zwk_36
    obtain ⟨x1, rfl⟩ := H.tk g5 zwk_37
    obtain ⟨x2, rfl⟩ := H.tk g7 zwk_38
    obtain ⟨x3, rfl⟩ := H.tk g9 zwk_39
    obtain ⟨x4, rfl⟩ := H.tk g11 zwk_40
    obtain ⟨x5, rfl⟩ := H.tk g13 zwk_41
    exact absurd x5 h14
theorem sp_53_etttttf (a0 : Nat) (a1 : Nat) (σ : zSg) (τ1 : zSg) (r1 : Int32) (τ3 : zSg) (r3 : Int32) (τ5 : zSg) (r5 : Int32) (τ7 : zSg) (r7 : Int32) (τ9 : zSg) (r9 : Int32) (τ11 : zSg) (r11 : Int32) (τ17 : zSg) (g1 : p_95 a1 σ r1 τ1) (h2 : r1.toInt = (0 : Int)) (g3 : p_91 a1 (zB + 36) τ1 r3 τ3) (h4 : r3.toInt = (0 : Int)) (g5 : p_91 a1 (zB + 37) τ3 r5 τ5) (h6 : r5.toInt = (0 : Int)) (g7 : p_91 a1 (zB + 38) τ5 r7 τ7) (h8 : r7.toInt = (0 : Int)) (g9 : p_91 a1 (zB + 39) τ7 r9 τ9) (h10 : r9.toInt = (0 : Int)) (g11 : p_91 a1 (zB + 40) τ9 r11 τ11) (h12 : r11.toInt ≠ (0 : Int)) (g17 : p_54 a0 (Int32.ofInt (-5)) τ11 τ17) :
    p_53 (a0) (a1) σ τ17 := by
  intro C b E
  obtain ⟨rfl, gs⟩ := g1
  refine ⟨fun A l s H => ?_, fun F H => ?_⟩
  · have hd : ¬ (A < E ∧ 48 ≤ b A ∧ b A ≤ 57) := by
      intro q
      rw [← H.2.1] at q
      exact ((gs A E H.1).mpr ⟨H.2.2.1, q⟩) h2
    obtain ⟨-, -, v0⟩ := H.tk g3 zwk_36 qsi_36 1 (by decide)
    obtain ⟨e0, rfl⟩ := v0 h4
    obtain ⟨-, -, v1⟩ := H.tk g5 zwk_37 qsi_37 1 (by decide)
    obtain ⟨e1, rfl⟩ := v1 h6
    obtain ⟨-, -, v2⟩ := H.tk g7 zwk_38 qsi_38 1 (by decide)
    obtain ⟨e2, rfl⟩ := v2 h8
    obtain ⟨-, -, v3⟩ := H.tk g9 zwk_39 qsi_39 1 (by decide)
    obtain ⟨e3, rfl⟩ := v3 h10
    obtain ⟨f1, u, -⟩ := H.tk g11 zwk_40 qsi_40 1 (by decide)
    obtain ⟨e4, H1⟩ := u h12
    obtain ⟨f2, h10⟩ := (g17 a1 C b E).1 _ l s 4 0 H1 rfl
    have hp := gPart_w hd (show tws b E A [wFamily, wHour, wHeat, wDirt, wQuarrel, wLeft] 0 = some (zBl b E (A + wQuarrel.length), 4) by simp only [tws, e0, e1, e2, e3, e4])
    rw [hp]
    exact ⟨f1.tr f2, h10⟩
  · obtain ⟨x0, rfl⟩ := H.tk g3 zwk_36
    obtain ⟨x1, rfl⟩ := H.tk g5 zwk_37
    obtain ⟨x2, rfl⟩ := H.tk g7 zwk_38
    obtain ⟨x3, rfl⟩ := H.tk g9 zwk_39
    obtain ⟨x4, rfl⟩ := H.tk g11 zwk_40
    exact absurd x4 h12
theorem sp_53_ettttf (a0 : Nat) (a1 : Nat) (σ : zSg) (τ1 : zSg) (r1 : Int32) (τ3 : zSg) (r3 : Int32) (τ5 : zSg) (r5 : Int32) (τ7 : zSg) (r7 : Int32) (τ9 : zSg) (r9 : Int32) (τ18 : zSg) (g1 : p_95 a1 σ r1 τ1) (h2 : r1.toInt = (0 : Int)) (g3 : p_91 a1 (zB + 36) τ1 r3 τ3) (h4 : r3.toInt = (0 : Int)) (g5 : p_91 a1 (zB + 37) τ3 r5 τ5) (h6 : r5.toInt = (0 : Int)) (g7 : p_91 a1 (zB + 38) τ5 r7 τ7) (h8 : r7.toInt = (0 : Int)) (g9 : p_91 a1 (zB + 39) τ7 r9 τ9) (h10 : r9.toInt ≠ (0 : Int)) (g18 : p_54 a0 (Int32.ofInt (-4)) τ9 τ18) :
    p_53 (a0) (a1) σ τ18 := by
  intro C b E
  obtain ⟨rfl, gs⟩ := g1
  refine ⟨fun A l s H => ?_, fun F H => ?_⟩
  · have hd : ¬ (A < E ∧ 48 ≤ b A ∧ b A ≤ 57) := by
      intro q
      rw [← H.2.1] at q
      exact ((gs A E H.1).mpr ⟨H.2.2.1, q⟩) h2
    obtain ⟨-, -, v0⟩ := H.tk g3 zwk_36 qsi_36 1 (by decide)
    obtain ⟨e0, rfl⟩ := v0 h4
    obtain ⟨-, -, v1⟩ := H.tk g5 zwk_37 qsi_37 1 (by decide)
    obtain ⟨e1, rfl⟩ := v1 h6
    obtain ⟨-, -, v2⟩ := H.tk g7 zwk_38 qsi_38 1 (by decide)
    obtain ⟨e2, rfl⟩ := v2 h8
    obtain ⟨f1, u, -⟩ := H.tk g9 zwk_39 qsi_39 1 (by decide)
    obtain ⟨e3, H1⟩ := u h10
    obtain ⟨f2, h8⟩ := (g18 a1 C b E).1 _ l s 3 0 H1 rfl
    have hp := gPart_w hd (show tws b E A [wFamily, wHour, wHeat, wDirt, wQuarrel, wLeft] 0 = some (zBl b E (A + wDirt.length), 3) by simp only [tws, e0, e1, e2, e3])
    rw [hp]
    exact ⟨f1.tr f2, h8⟩
  · obtain ⟨x0, rfl⟩ := H.tk g3 zwk_36
    obtain ⟨x1, rfl⟩ := H.tk g5 zwk_37
    obtain ⟨x2, rfl⟩ := H.tk g7 zwk_38
    obtain ⟨x3, rfl⟩ := H.tk g9 zwk_39
    exact absurd x3 h10
theorem sp_53_etttf (a0 : Nat) (a1 : Nat) (σ : zSg) (τ1 : zSg) (r1 : Int32) (τ3 : zSg) (r3 : Int32) (τ5 : zSg) (r5 : Int32) (τ7 : zSg) (r7 : Int32) (τ19 : zSg) (g1 : p_95 a1 σ r1 τ1) (h2 : r1.toInt = (0 : Int)) (g3 : p_91 a1 (zB + 36) τ1 r3 τ3) (h4 : r3.toInt = (0 : Int)) (g5 : p_91 a1 (zB + 37) τ3 r5 τ5) (h6 : r5.toInt = (0 : Int)) (g7 : p_91 a1 (zB + 38) τ5 r7 τ7) (h8 : r7.toInt ≠ (0 : Int)) (g19 : p_54 a0 (Int32.ofInt (-3)) τ7 τ19) :
    p_53 (a0) (a1) σ τ19 := by
  intro C b E
  obtain ⟨rfl, gs⟩ := g1
  refine ⟨fun A l s H => ?_, fun F H => ?_⟩
  · have hd : ¬ (A < E ∧ 48 ≤ b A ∧ b A ≤ 57) := by
      intro q
      rw [← H.2.1] at q
      exact ((gs A E H.1).mpr ⟨H.2.2.1, q⟩) h2
    obtain ⟨-, -, v0⟩ := H.tk g3 zwk_36 qsi_36 1 (by decide)
    obtain ⟨e0, rfl⟩ := v0 h4
    obtain ⟨-, -, v1⟩ := H.tk g5 zwk_37 qsi_37 1 (by decide)
    obtain ⟨e1, rfl⟩ := v1 h6
    obtain ⟨f1, u, -⟩ := H.tk g7 zwk_38 qsi_38 1 (by decide)
    obtain ⟨e2, H1⟩ := u h8
    obtain ⟨f2, h6⟩ := (g19 a1 C b E).1 _ l s 2 0 H1 rfl
    have hp := gPart_w hd (show tws b E A [wFamily, wHour, wHeat, wDirt, wQuarrel, wLeft] 0 = some (zBl b E (A + wHeat.length), 2) by simp only [tws, e0, e1, e2])
    rw [hp]
    exact ⟨f1.tr f2, h6⟩
  · obtain ⟨x0, rfl⟩ := H.tk g3 zwk_36
    obtain ⟨x1, rfl⟩ := H.tk g5 zwk_37
    obtain ⟨x2, rfl⟩ := H.tk g7 zwk_38
    exact absurd x2 h8
theorem sp_53_ettf (a0 : Nat) (a1 : Nat) (σ : zSg) (τ1 : zSg) (r1 : Int32) (τ3 : zSg) (r3 : Int32) (τ5 : zSg) (r5 : Int32) (τ20 : zSg) (g1 : p_95 a1 σ r1 τ1) (h2 : r1.toInt = (0 : Int)) (g3 : p_91 a1 (zB + 36) τ1 r3 τ3) (h4 : r3.toInt = (0 : Int)) (g5 : p_91 a1 (zB + 37) τ3 r5 τ5) (h6 : r5.toInt ≠ (0 : Int)) (g20 : p_54 a0 (Int32.ofInt (-2)) τ5 τ20) :
    p_53 (a0) (a1) σ τ20 := by
  intro C b E
  obtain ⟨rfl, gs⟩ := g1
  refine ⟨fun A l s H => ?_, fun F H => ?_⟩
  · have hd : ¬ (A < E ∧ 48 ≤ b A ∧ b A ≤ 57) := by
      intro q
      rw [← H.2.1] at q
      exact ((gs A E H.1).mpr ⟨H.2.2.1, q⟩) h2
    obtain ⟨-, -, v0⟩ := H.tk g3 zwk_36 qsi_36 1 (by decide)
    obtain ⟨e0, rfl⟩ := v0 h4
    obtain ⟨f1, u, -⟩ := H.tk g5 zwk_37 qsi_37 1 (by decide)
    obtain ⟨e1, H1⟩ := u h6
    obtain ⟨f2, h4⟩ := (g20 a1 C b E).1 _ l s 1 0 H1 rfl
    have hp := gPart_w hd (show tws b E A [wFamily, wHour, wHeat, wDirt, wQuarrel, wLeft] 0 = some (zBl b E (A + wHour.length), 1) by simp only [tws, e0, e1])
    rw [hp]
    exact ⟨f1.tr f2, h4⟩
  · obtain ⟨x0, rfl⟩ := H.tk g3 zwk_36
    obtain ⟨x1, rfl⟩ := H.tk g5 zwk_37
    exact absurd x1 h6
theorem sp_53_etf (a0 : Nat) (a1 : Nat) (σ : zSg) (τ1 : zSg) (r1 : Int32) (τ3 : zSg) (r3 : Int32) (τ21 : zSg) (g1 : p_95 a1 σ r1 τ1) (h2 : r1.toInt = (0 : Int)) (g3 : p_91 a1 (zB + 36) τ1 r3 τ3) (h4 : r3.toInt ≠ (0 : Int)) (g21 : p_54 a0 (Int32.ofInt (-1)) τ3 τ21) :
    p_53 (a0) (a1) σ τ21 := by
  intro C b E
  obtain ⟨rfl, gs⟩ := g1
  refine ⟨fun A l s H => ?_, fun F H => ?_⟩
  · have hd : ¬ (A < E ∧ 48 ≤ b A ∧ b A ≤ 57) := by
      intro q
      rw [← H.2.1] at q
      exact ((gs A E H.1).mpr ⟨H.2.2.1, q⟩) h2
    obtain ⟨f1, u, -⟩ := H.tk g3 zwk_36 qsi_36 1 (by decide)
    obtain ⟨e0, H1⟩ := u h4
    obtain ⟨f2, h2⟩ := (g21 a1 C b E).1 _ l s 0 0 H1 rfl
    have hp := gPart_w hd (show tws b E A [wFamily, wHour, wHeat, wDirt, wQuarrel, wLeft] 0 = some (zBl b E (A + wFamily.length), 0) by simp only [tws, e0])
    rw [hp]
    exact ⟨f1.tr f2, h2⟩
  · obtain ⟨x0, rfl⟩ := H.tk g3 zwk_36
    exact absurd x0 h4
theorem sp_53_ef (a0 : Nat) (a1 : Nat) (σ : zSg) (τ1 : zSg) (r1 : Int32) (τ22 : zSg) (r22 : Int32) (τ23 : zSg) (g1 : p_95 a1 σ r1 τ1) (h2 : r1.toInt ≠ (0 : Int)) (g22 : p_96 a1 (Int32.ofInt (0)) (Int32.ofInt (999)) τ1 r22 τ22) (g23 : p_54 a0 r22 τ22 τ23) :
    p_53 (a0) (a1) σ τ23 := by
  intro C b E
  obtain ⟨rfl, gs⟩ := g1
  refine ⟨fun A l s H => ?_, fun F H => ?_⟩
  · have hd := (gs A E H.1).mp h2
    rw [H.2.1] at hd
    have c9 : (Int32.ofInt 999).toInt = 999 := rfl
    have c0 : (Int32.ofInt 0).toInt = 0 := rfl
    obtain ⟨f1, u, v⟩ := H.nb g22 (by decide)
    rw [c0, c9] at u v
    unfold gPart
    rw [if_pos hd.2]
    cases hn : tn b E 0 999 A with
    | none =>
      have H1 := v hn
      obtain ⟨f2, H2x⟩ := (g23 a1 C b E).2 _ H1
      exact ⟨f1.tr f2, H2x⟩
    | some q =>
      obtain ⟨A1, w⟩ := q
      obtain ⟨e, H1⟩ := u A1 w hn
      obtain ⟨f2, H2x⟩ := (g23 a1 C b E).1 _ l s 8 w H1 e
      exact ⟨f1.tr f2, H2x⟩
  · obtain ⟨f1, H1⟩ := H.nb g22 (by decide)
    obtain ⟨f2, H2x⟩ := (g23 a1 C b E).2 _ H1
    exact ⟨f1.tr f2, H2x⟩
noncomputable def qP_53 : zPp := fun as σ o σ' => match as with
  | [a0, a1] => o = .inl none ∧ p_53 (q_r a0) (q_r a1) σ σ'
  | _ => True
set_option maxRecDepth 100000 in
theorem sp_53 {sx : zX} (S95 : zEe sx 95 1 qP_95) (S91 : zEe sx 91 2 qP_91) (S90 : zEe sx 90 1 qP_90) (S54 : zEe sx 54 2 qP_54) (S96 : zEe sx 96 3 qP_96) : zEe sx 53 2 qP_53 := by
  refine zfle zJ_53 (sps := [(95, 1, qP_95), (91, 2, qP_91), (90, 1, qP_90), (54, 2, qP_54), (96, 3, qP_96)]) (fun q hq => by
    simp only [List.mem_cons, List.not_mem_nil, or_false] at hq
    rcases hq with rfl | rfl | rfl | rfl | rfl
    · exact S95
    · exact S91
    · exact S90
    · exact S54
    · exact S96) (fun as σ hl => ?_)
  match as, hl with
  | [a0, a1], _ =>
  refine ⟨[], 400, ?_, ?_⟩
  · exact fun q hq => absurd hq List.not_mem_nil
  · refine fun o1 τ1 g1 => ?_
    obtain ⟨r1, rfl, g1⟩ := g1
    refine And.intro (fun h2 => ?_) (fun h2 => ?_)
    · refine fun o3 τ3 g3 => ?_
      obtain ⟨r3, rfl, g3⟩ := g3
      refine And.intro (fun h4 => ?_) (fun h4 => ?_)
      · refine fun o5 τ5 g5 => ?_
        obtain ⟨r5, rfl, g5⟩ := g5
        refine And.intro (fun h6 => ?_) (fun h6 => ?_)
        · refine fun o7 τ7 g7 => ?_
          obtain ⟨r7, rfl, g7⟩ := g7
          refine And.intro (fun h8 => ?_) (fun h8 => ?_)
          · refine fun o9 τ9 g9 => ?_
            obtain ⟨r9, rfl, g9⟩ := g9
            refine And.intro (fun h10 => ?_) (fun h10 => ?_)
            · refine fun o11 τ11 g11 => ?_
              obtain ⟨r11, rfl, g11⟩ := g11
              refine And.intro (fun h12 => ?_) (fun h12 => ?_)
              · refine fun o13 τ13 g13 => ?_
                obtain ⟨r13, rfl, g13⟩ := g13
                refine And.intro (fun h14 => ?_) (fun h14 => ?_)
                · refine fun o15 τ15 g15 => ?_
                  obtain ⟨rfl, g15⟩ := g15
                  exact ⟨rfl, sp_53_ettttttt (q_r a0) (q_r a1) σ τ1 r1 τ3 r3 τ5 r5 τ7 r7 τ9 r9 τ11 r11 τ13 r13 τ15 g1 (cm0t h2) g3 (cm0t h4) g5 (cm0t h6) g7 (cm0t h8) g9 (cm0t h10) g11 (cm0t h12) g13 (cm0t h14) g15⟩
                · refine fun o16 τ16 g16 => ?_
                  obtain ⟨rfl, g16⟩ := g16
                  exact ⟨rfl, sp_53_ettttttf (q_r a0) (q_r a1) σ τ1 r1 τ3 r3 τ5 r5 τ7 r7 τ9 r9 τ11 r11 τ13 r13 τ16 g1 (cm0t h2) g3 (cm0t h4) g5 (cm0t h6) g7 (cm0t h8) g9 (cm0t h10) g11 (cm0t h12) g13 (cm0f h14) g16⟩
              · refine fun o17 τ17 g17 => ?_
                obtain ⟨rfl, g17⟩ := g17
                exact ⟨rfl, sp_53_etttttf (q_r a0) (q_r a1) σ τ1 r1 τ3 r3 τ5 r5 τ7 r7 τ9 r9 τ11 r11 τ17 g1 (cm0t h2) g3 (cm0t h4) g5 (cm0t h6) g7 (cm0t h8) g9 (cm0t h10) g11 (cm0f h12) g17⟩
            · refine fun o18 τ18 g18 => ?_
              obtain ⟨rfl, g18⟩ := g18
              exact ⟨rfl, sp_53_ettttf (q_r a0) (q_r a1) σ τ1 r1 τ3 r3 τ5 r5 τ7 r7 τ9 r9 τ18 g1 (cm0t h2) g3 (cm0t h4) g5 (cm0t h6) g7 (cm0t h8) g9 (cm0f h10) g18⟩
          · refine fun o19 τ19 g19 => ?_
            obtain ⟨rfl, g19⟩ := g19
            exact ⟨rfl, sp_53_etttf (q_r a0) (q_r a1) σ τ1 r1 τ3 r3 τ5 r5 τ7 r7 τ19 g1 (cm0t h2) g3 (cm0t h4) g5 (cm0t h6) g7 (cm0f h8) g19⟩
        · refine fun o20 τ20 g20 => ?_
          obtain ⟨rfl, g20⟩ := g20
          exact ⟨rfl, sp_53_ettf (q_r a0) (q_r a1) σ τ1 r1 τ3 r3 τ5 r5 τ20 g1 (cm0t h2) g3 (cm0t h4) g5 (cm0f h6) g20⟩
      · refine fun o21 τ21 g21 => ?_
        obtain ⟨rfl, g21⟩ := g21
        exact ⟨rfl, sp_53_etf (q_r a0) (q_r a1) σ τ1 r1 τ3 r3 τ21 g1 (cm0t h2) g3 (cm0f h4) g21⟩
    · refine fun o22 τ22 g22 => ?_
      obtain ⟨r22, rfl, g22⟩ := g22
      refine fun o23 τ23 g23 => ?_
      obtain ⟨rfl, g23⟩ := g23
      exact ⟨rfl, sp_53_ef (q_r a0) (q_r a1) σ τ1 r1 τ22 r22 τ23 g1 (cm0f h2) g22 g23⟩
noncomputable def p_52 (r t : Nat) (σ σ' : zSg) : Prop := ∀ C b E, (∀ A l s, cG σ t r C b A E l s → cF σ σ' t r C ∧ ∃ R, GS b E A R ∧ cO σ' t r C b E l s R) ∧ (∀ F, cX σ t r C b E F → cF σ σ' t r C ∧ cX σ' t r C b E F)
noncomputable def i_52 (r t : Nat) (σ : zSg) (l0 l1 : Nat) (i : Int32) (τ : zSg) : Prop := l0 = r ∧ l1 = t ∧ ∀ C b E, (∀ A l s, cG σ t r C b A E l s → cF σ τ t r C ∧ ((∃ A1 m K, i = Int32.ofNat K ∧ K ≤ m.length ∧ cG τ t r C b A1 E (l ++ m) s ∧ ∀ R, GSL b E A1 m R → GS b E A R) ∨ (∃ F, GS b E A (.inr F) ∧ cX τ t r C b E F))) ∧ (∀ F, cX σ t r C b E F → cF σ τ t r C ∧ cX τ t r C b E F)
theorem zJ_52 : zJ3 52 z_m52 z_c52 z_h52 := ⟨rfl, rfl, rfl⟩
theorem sp_52_e (a0 : Nat) (a1 : Nat) (σ : zSg) (τ1 : zSg) (g1 : p_53 a0 a1 σ τ1) :
    i_52 a0 a1 σ a0 a1 (Int32.ofInt (0)) τ1 := by
  refine ⟨rfl, rfl, fun C b E => ⟨fun A l s H => ?_, fun F H => (g1 C b E).2 F H⟩⟩
  obtain ⟨f1, g1⟩ := (g1 C b E).1 A l s H
  refine ⟨f1, ?_⟩
  cases hp : gPart b E A with
  | inr F => rw [hp] at g1; exact Or.inr ⟨F, GS.wrong hp, g1⟩
  | inl q =>
    obtain ⟨A1, m⟩ := q
    rw [hp] at g1
    exact Or.inl ⟨A1, m, 0, rfl, Nat.zero_le _, g1, fun R hR => GS.go hp hR⟩
theorem sp_52_c5_t (a0 : Nat) (a1 : Nat) (σ : zSg) (l0 : Nat) (l1 : Nat) (l2 : Int32) (τ : zSg) (hI : i_52 a0 a1 σ l0 l1 l2 τ) (h2 : l2.toInt ≥ (400 : Int)) :
    p_52 (a0) (a1) σ τ := by
  obtain ⟨rfl, rfl, G⟩ := hI
  refine fun C b E => ⟨fun A l s H => ?_, fun F H => (G C b E).2 F H⟩
  obtain ⟨f1, ⟨A1, m, K, rfl, k1, H1, hR⟩ | ⟨F, hF, H1⟩⟩ := (G C b E).1 A l s H
  · have hl := H1.le
    have hm := H1.2.2.2.2.2.1
    rw [List.length_append] at hm
    rw [o32 (by omega)] at h2
    have e1 : ts b E 43 A1 = none := by
      unfold ts
      rw [if_neg (by omega)]
    exact ⟨f1, _, hR _ (GSL.stop e1), H1⟩
  · exact ⟨f1, _, hF, H1⟩
theorem sp_52_c5_ft (a0 : Nat) (a1 : Nat) (σ : zSg) (l0 : Nat) (l1 : Nat) (l2 : Int32) (τ : zSg) (τ3 : zSg) (r3 : Int32) (hI : i_52 a0 a1 σ l0 l1 l2 τ) (h2 : l2.toInt < (400 : Int)) (g3 : p_93 l1 (Int32.ofInt (43)) τ r3 τ3) (h4 : r3.toInt = (0 : Int)) :
    p_52 (a0) (a1) σ τ3 := by
  obtain ⟨rfl, rfl, G⟩ := hI
  refine fun C b E => ⟨fun A l s H => ?_, fun F H => ?_⟩
  · obtain ⟨f1, ⟨A1, m, K, rfl, k1, H1, hR⟩ | ⟨F, hF, H1⟩⟩ := (G C b E).1 A l s H
    · obtain ⟨-, -, v⟩ := H1.sg g3 (by decide) (by decide)
      obtain ⟨e1, rfl⟩ := v h4
      exact ⟨f1, _, hR _ (GSL.stop e1), H1⟩
    · obtain ⟨-, rfl⟩ := H1.sg g3 (by decide) (by decide)
      exact ⟨f1, _, hF, H1⟩
  · obtain ⟨f1, H1⟩ := (G C b E).2 F H
    obtain ⟨-, rfl⟩ := H1.sg g3 (by decide) (by decide)
    exact ⟨f1, H1⟩
theorem sp_52_c5_ff (a0 : Nat) (a1 : Nat) (σ : zSg) (l0 : Nat) (l1 : Nat) (l2 : Int32) (τ : zSg) (τ3 : zSg) (r3 : Int32) (τ5 : zSg) (τ6 : zSg) (hI : i_52 a0 a1 σ l0 l1 l2 τ) (h2 : l2.toInt < (400 : Int)) (g3 : p_93 l1 (Int32.ofInt (43)) τ r3 τ3) (h4 : r3.toInt ≠ (0 : Int)) (g5 : p_53 l0 l1 τ3 τ5) (g6 : p_54 l0 (Int32.ofInt (-10)) τ5 τ6) :
    i_52 a0 a1 σ l0 l1 (l2 + Int32.ofInt (1)) τ6 := by
  obtain ⟨rfl, rfl, G⟩ := hI
  refine ⟨rfl, rfl, fun C b E => ⟨fun A l s H => ?_, fun F H => ?_⟩⟩
  · obtain ⟨f1, ⟨A1, m, K, rfl, k1, H1, hR⟩ | ⟨F, hF, H1⟩⟩ := (G C b E).1 A l s H
    · obtain ⟨f2, u, -⟩ := H1.sg g3 (by decide) (by decide)
      obtain ⟨e1, H2x⟩ := u h4
      have hl := H1.le
      have hg := zBl_ge (b := b) (E := E) (P := A1 + 1)
      obtain ⟨f3, g3⟩ := (g5 C b E).1 _ _ _ H2x
      cases hp : gPart b E (zBl b E (A1 + 1)) with
      | inr F =>
        rw [hp] at g3
        obtain ⟨f4, H4x⟩ := (g6 l1 C b E).2 _ g3
        exact ⟨((f1.tr f2).tr f3).tr f4, Or.inr ⟨F, hR _ (GSL.wrong e1 hp), H4x⟩⟩
      | inl q =>
        obtain ⟨A2, m2⟩ := q
        rw [hp] at g3
        obtain ⟨f4, H4x⟩ := (g6 l1 C b E).1 _ _ s 9 0 g3 rfl
        have hm := g3.2.2.2.2.2.1
        have hl2 := g3.le
        rw [List.length_append, List.length_append] at hm
        refine ⟨((f1.tr f2).tr f3).tr f4, Or.inl ⟨A2, m ++ m2 ++ [(9, 0)], K + 1, by rw [← o32i (by omega)], by rw [List.length_append, List.length_append]; show K + 1 ≤ m.length + m2.length + 1; omega, ?_, fun R hq => hR R (GSL.step e1 hp hq)⟩⟩
        rw [show l ++ (m ++ m2 ++ [(9, 0)]) = l ++ m ++ m2 ++ [(9, 0)] by simp only [List.append_assoc]]
        exact H4x
    · exact absurd (H1.sg g3 (by decide) (by decide)).1 h4
  · obtain ⟨f1, H1⟩ := (G C b E).2 F H
    exact absurd (H1.sg g3 (by decide) (by decide)).1 h4
noncomputable def qP_52 : zPp := fun as σ o σ' => match as with
  | [a0, a1] => o = .inl none ∧ p_52 (q_r a0) (q_r a1) σ σ'
  | _ => True
set_option maxRecDepth 100000 in
theorem sp_52 {sx : zX} (S53 : zEe sx 53 2 qP_53) (S93 : zEe sx 93 2 qP_93) (S54 : zEe sx 54 2 qP_54) : zEe sx 52 2 qP_52 := by
  refine zfle zJ_52 (sps := [(53, 2, qP_53), (93, 2, qP_93), (54, 2, qP_54)]) (fun q hq => by
    simp only [List.mem_cons, List.not_mem_nil, or_false] at hq
    rcases hq with rfl | rfl | rfl
    · exact S53
    · exact S93
    · exact S54) (fun as σ hl => ?_)
  match as, hl with
  | [a0, a1], _ =>
  refine ⟨[(5, fun lo st τ => st = [] ∧ i_52 (q_r a0) (q_r a1) σ (q_r (lo 0)) (q_r (lo 1)) (q_i (lo 2)) τ)], 400, ?_, ?_⟩
  · intro q hq
    simp only [List.mem_cons, List.not_mem_nil, or_false] at hq
    rcases hq with rfl
    · rintro lo st τ ⟨rfl, hI⟩
      refine ⟨400, ?_⟩
      refine And.intro (fun h2 => ?_) (fun h2 => ?_)
      · exact ⟨rfl, sp_52_c5_t (q_r a0) (q_r a1) σ (q_r (lo 0)) (q_r (lo 1)) (q_i (lo 2)) τ hI (cm3t h2)⟩
      · refine fun o3 τ3 g3 => ?_
        obtain ⟨r3, rfl, g3⟩ := g3
        refine And.intro (fun h4 => ?_) (fun h4 => ?_)
        · exact ⟨rfl, sp_52_c5_ft (q_r a0) (q_r a1) σ (q_r (lo 0)) (q_r (lo 1)) (q_i (lo 2)) τ τ3 r3 hI (cm3f h2) g3 (cm0t h4)⟩
        · refine fun o5 τ5 g5 => ?_
          obtain ⟨rfl, g5⟩ := g5
          refine fun o6 τ6 g6 => ?_
          obtain ⟨rfl, g6⟩ := g6
          exact ⟨rfl, sp_52_c5_ff (q_r a0) (q_r a1) σ (q_r (lo 0)) (q_r (lo 1)) (q_i (lo 2)) τ τ3 r3 τ5 τ6 hI (cm3f h2) g3 (cm0f h4) g5 g6⟩
  · refine fun o1 τ1 g1 => ?_
    obtain ⟨rfl, g1⟩ := g1
    exact ⟨rfl, sp_52_e (q_r a0) (q_r a1) σ τ1 g1⟩
theorem GS.det {b : Nat → Int} {E A : Nat} {R R' : zRs} (h : GS b E A R) (h' : GS b E A R') : R = R' := by
  obtain ⟨n, h⟩ := h
  obtain ⟨k, h'⟩ := h'
  have h1 := gSum_mono h (Nat.le_max_left n k)
  have h2 := gSum_mono h' (Nat.le_max_right n k)
  rw [h1] at h2
  exact Option.some.inj h2
theorem GB.det {b : Nat → Int} {E A : Nat} {R R' : zRs} (h : GB b E A R) (h' : GB b E A R') : R = R' := by
  obtain ⟨n, h⟩ := h
  obtain ⟨k, h'⟩ := h'
  have h1 := gBase_mono h (Nat.le_max_left n k)
  have h2 := gBase_mono h' (Nat.le_max_right n k)
  rw [h1] at h2
  exact Option.some.inj h2
theorem tw_len {b : Nat → Int} {E A : Nat} {s : List Int} (h : zLt b E A ≠ A + s.length) : tw b E s A = none := by
  exact tw_neg (fun q => h q.1)
theorem g_out {b : Nat → Int} {E A n : Nat} (hz : zLt b E A = A + n) (hd : ¬ (A < E ∧ 48 ≤ b A ∧ b A ≤ 57)) (hn : n ≠ 6 ∧ n ≠ 4 ∧ n ≠ 7 ∧ n ≠ 5) : GB b E A (.inr A) := by
  have h6 : ∀ s : List Int, s.length ≠ n → tw b E s A = none := fun s h => tw_len (by rw [hz]; omega)
  refine GB.wrong1 (h6 _ (by show 5 ≠ n; omega)) (h6 _ (by show 6 ≠ n; omega)) (GS.wrong (gPart_n hd ?_))
  simp only [tws, h6 wFamily (by show 6 ≠ n; omega), h6 wHour (by show 4 ≠ n; omega), h6 wHeat (by show 4 ≠ n; omega), h6 wDirt (by show 4 ≠ n; omega), h6 wQuarrel (by show 7 ≠ n; omega), h6 wLeft (by show 4 ≠ n; omega)]
theorem gA_base {b : Nat → Int} {E D A : Nat} {R : zRs} (h : GB b E A R) (hD : D ≤ 6) (h1 : D < 6 → ts b E 40 A = none ∧ tw b E wNot A = none) : GA b E D A R := by
  cases h2 : ts b E 40 A with
  | some A1 =>
    have e : D = 6 := by
      by_cases q : D < 6
      · rw [(h1 q).1] at h2; cases h2
      · omega
    subst e
    have h3 : A < E ∧ b A = 40 := by
      unfold ts at h2
      split at h2
      · assumption
      · cases h2
    have h4 : zLt b E A = A + 0 := zRn_f (by omega)
    rw [GB.det h (g_out h4 (by omega) (by omega))]
    exact GA.deep1 h2
  | none =>
    cases h3 : tw b E wNot A with
    | none => exact GA.base h2 h3 h
    | some A1 =>
      have e : D = 6 := by
        by_cases q : D < 6
        · rw [(h1 q).2] at h3; cases h3
        · omega
      subst e
      have h4 : zWa b E wNot A := tw_some h3
      have h5 : zLt b E A = A + 3 := h4.1
      rw [GB.det h (g_out h5 (zLt_ne (by omega)) (by omega))]
      exact GA.deep2 h2 h3
noncomputable def p_51 (r t : Nat) (d : Int32) (σ σ' : zSg) : Prop := ∀ D C b E, d = Int32.ofNat D → D ≤ 6 → (∀ A l s, cG σ t r C b A E l s → cF σ σ' t r C ∧ ∃ R, GA b E D A R ∧ cO σ' t r C b E l s R) ∧ (∀ F, cX σ t r C b E F → cF σ σ' t r C ∧ cX σ' t r C b E F)
noncomputable def p_50 (r t : Nat) (d : Int32) (σ σ' : zSg) : Prop := ∀ D C b E, d = Int32.ofNat D → D ≤ 6 → (∀ A l s, cG σ t r C b A E l s → cF σ σ' t r C ∧ ∃ R, GC b E D A R ∧ cO σ' t r C b E l s R) ∧ (∀ F, cX σ t r C b E F → cF σ σ' t r C ∧ cX σ' t r C b E F)
noncomputable def i_51 (r t : Nat) (d : Int32) (σ : zSg) (l0 l1 : Nat) (l2 : Int32) (τ : zSg) : Prop := l0 = r ∧ l1 = t ∧ l2 = d ∧ (∀ A E, cS σ t A E → τ = σ) ∧ ∀ D C b E A l s, d = Int32.ofNat D → cG σ t r C b A E l s → D < 6 → tw b E wNot A = none
noncomputable def j_51 (r t : Nat) (d : Int32) (σ : zSg) (l0 l1 : Nat) (l2 : Int32) (τ : zSg) : Prop := l0 = r ∧ l1 = t ∧ l2 = d ∧ (∀ A E, cS σ t A E → τ = σ) ∧ ∀ D C b E A l s, d = Int32.ofNat D → cG σ t r C b A E l s → D < 6 → ts b E 40 A = none ∧ tw b E wNot A = none
noncomputable def k_51 (r t : Nat) (d : Int32) (σ : zSg) (l0 l1 : Nat) (less : Int32) (τ : zSg) : Prop := l0 = r ∧ l1 = t ∧ ∀ D C b E, d = Int32.ofNat D → D ≤ 6 → (∀ A l s, cG σ t r C b A E l s → (D < 6 → ts b E 40 A = none ∧ tw b E wNot A = none) ∧ cF σ τ t r C ∧ ((∃ A1 A2 m, tw b E wNight A = none ∧ tw b E wWished A = none ∧ GS b E A (.inl (A1, m)) ∧ ((less.toInt ≠ 0 ∧ ts b E 60 A1 = some A2) ∨ (less.toInt = 0 ∧ ts b E 60 A1 = none ∧ ts b E 62 A1 = some A2)) ∧ cG τ t r C b A2 E (l ++ m) (s + 1)) ∨ (∃ F, GB b E A (.inr F) ∧ cX τ t r C b E F))) ∧ (∀ F, cX σ t r C b E F → cF σ τ t r C ∧ cX τ t r C b E F)
noncomputable def qP_50 : zPp := fun as σ o σ' => match as with
  | [a0, a1, a2] => o = .inl none ∧ p_50 (q_r a0) (q_r a1) (q_i a2) σ σ'
  | _ => True
noncomputable def qP_51 : zPp := fun as σ o σ' => match as with
  | [a0, a1, a2] => o = .inl none ∧ p_51 (q_r a0) (q_r a1) (q_i a2) σ σ'
  | _ => True
theorem zJ_51 : zJ3 51 z_m51 z_c51 z_h51 := ⟨rfl, rfl, rfl⟩
theorem zJ_50 : zJ3 50 z_m50 z_c50 z_h50 := ⟨rfl, rfl, rfl⟩
theorem sp_51_et (a0 : Nat) (a1 : Nat) (a2 : Int32) (σ : zSg) (h1 : a2.toInt ≥ (6 : Int)) :
    i_51 a0 a1 a2 σ a0 a1 a2 σ := by
  refine ⟨rfl, rfl, rfl, fun _ _ _ => rfl, fun D C b E A l s eD H hlt => ?_⟩
  rw [eD, o32 (by omega)] at h1
  omega
theorem sp_51_eft (a0 : Nat) (a1 : Nat) (a2 : Int32) (σ : zSg) (τ2 : zSg) (r2 : Int32) (h1 : a2.toInt < (6 : Int)) (g2 : p_91 a1 (zB + 33) σ r2 τ2) (h3 : r2.toInt = (0 : Int)) :
    i_51 a0 a1 a2 σ a0 a1 a2 τ2 := by
  refine ⟨rfl, rfl, rfl, fun A E S => ?_, fun D C b E A l s eD H hlt => ?_⟩
  · rcases g2 A E S zwk_33 with ⟨g1, -⟩ | ⟨-, -, g3⟩
    · exact absurd h3 g1
    · exact g3
  · obtain ⟨-, -, v⟩ := H.tk g2 zwk_33 qsi_33 1 (by decide)
    exact (v h3).1
theorem sp_51_eff (a0 : Nat) (a1 : Nat) (a2 : Int32) (σ : zSg) (τ2 : zSg) (r2 : Int32) (τ4 : zSg) (τ5 : zSg) (h1 : a2.toInt < (6 : Int)) (g2 : p_91 a1 (zB + 33) σ r2 τ2) (h3 : r2.toInt ≠ (0 : Int)) (g4 : p_51 a0 a1 (a2 + (Int32.ofInt (1))) τ2 τ4) (g5 : p_54 a0 (Int32.ofInt (-9)) τ4 τ5) :
    p_51 (a0) (a1) (a2) σ τ5 := by
  intro D C b E eD hD
  refine ⟨fun A l s H => ?_, fun F H => ?_⟩
  · have hlt : D < 6 := by
      have h9 := h1
      rw [eD, o32 (by omega)] at h9
      omega
    obtain ⟨f1, u, -⟩ := H.tk g2 zwk_33 qsi_33 1 (by decide)
    obtain ⟨e1, H1⟩ := u h3
    obtain ⟨f2, R, g1, g2⟩ := (g4 (D + 1) C b E (by rw [eD]; exact o32i (by omega)) (by omega)).1 _ _ _ H1
    have e0 : ts b E 40 A = none := by
      unfold ts
      rw [if_neg]
      intro q
      have hz := tw_some e1
      have h9 : zLt b E A = A + 3 := hz.1
      have h8 : zLt b E A = A := zRn_f (by omega)
      omega
    cases R with
    | inr F =>
      obtain ⟨f3, H3x⟩ := (g5 a1 C b E).2 _ g2
      exact ⟨(f1.tr f2).tr f3, _, GA.not (by omega) e0 e1 g1, H3x⟩
    | inl q =>
      obtain ⟨A2, m⟩ := q
      obtain ⟨f3, H3x⟩ := (g5 a1 C b E).1 _ _ s 12 0 g2 rfl
      refine ⟨(f1.tr f2).tr f3, _, GA.not (by omega) e0 e1 g1, ?_⟩
      show cG _ a1 a0 C b A2 E (l ++ (m ++ [(12, 0)])) s
      rw [show l ++ (m ++ [(12, 0)]) = l ++ m ++ [(12, 0)] by simp only [List.append_assoc]]
      exact H3x
  · exact absurd (H.tk g2 zwk_33).1 h3
theorem sp_51_c17_t (a0 : Nat) (a1 : Nat) (a2 : Int32) (σ : zSg) (l0 : Nat) (l1 : Nat) (l2 : Int32) (τ : zSg) (hI : i_51 a0 a1 a2 σ l0 l1 l2 τ) (h6 : l2.toInt ≥ (6 : Int)) :
    j_51 a0 a1 a2 σ l0 l1 l2 τ := by
  obtain ⟨rfl, rfl, rfl, G0, G⟩ := hI
  refine ⟨rfl, rfl, rfl, G0, fun D C b E A l s eD H hlt => ?_⟩
  rw [eD, o32 (by omega)] at h6
  omega
theorem sp_51_c17_ft (a0 : Nat) (a1 : Nat) (a2 : Int32) (σ : zSg) (l0 : Nat) (l1 : Nat) (l2 : Int32) (τ : zSg) (τ7 : zSg) (r7 : Int32) (hI : i_51 a0 a1 a2 σ l0 l1 l2 τ) (h6 : l2.toInt < (6 : Int)) (g7 : p_93 l1 (Int32.ofInt (40)) τ r7 τ7) (h8 : r7.toInt = (0 : Int)) :
    j_51 a0 a1 a2 σ l0 l1 l2 τ7 := by
  obtain ⟨rfl, rfl, rfl, G0, G⟩ := hI
  refine ⟨rfl, rfl, rfl, fun A E S => ?_, fun D C b E A l s eD H hlt => ?_⟩
  · obtain rfl := G0 A E S
    rcases g7 A E S (by decide) (by decide) with ⟨g1, -⟩ | ⟨-, -, g3⟩
    · exact absurd h8 g1
    · exact g3
  · obtain rfl := G0 A E H.1
    obtain ⟨-, -, v⟩ := H.sg g7 (by decide) (by decide)
    exact ⟨(v h8).1, G D C b E A l s eD H hlt⟩
theorem sp_51_c17_ff (a0 : Nat) (a1 : Nat) (a2 : Int32) (σ : zSg) (l0 : Nat) (l1 : Nat) (l2 : Int32) (τ : zSg) (τ7 : zSg) (r7 : Int32) (τ9 : zSg) (τ10 : zSg) (hI : i_51 a0 a1 a2 σ l0 l1 l2 τ) (h6 : l2.toInt < (6 : Int)) (g7 : p_93 l1 (Int32.ofInt (40)) τ r7 τ7) (h8 : r7.toInt ≠ (0 : Int)) (g9 : p_50 l0 l1 (l2 + (Int32.ofInt (1))) τ7 τ9) (g10 : p_94 l1 (Int32.ofInt (41)) τ9 τ10) :
    p_51 (a0) (a1) (a2) σ τ10 := by
  obtain ⟨rfl, rfl, rfl, G0, G⟩ := hI
  intro D C b E eD hD
  refine ⟨fun A l s H => ?_, fun F H => ?_⟩
  · obtain rfl := G0 _ _ H.1
    have hlt : D < 6 := by
      have h9 := h6
      rw [eD, o32 (by omega)] at h9
      omega
    obtain ⟨f1, u, -⟩ := H.sg g7 (by decide) (by decide)
    obtain ⟨e1, H1⟩ := u h8
    obtain ⟨f2, R, g1, g2⟩ := (g9 (D + 1) C b E (by rw [eD]; exact o32i (by omega)) (by omega)).1 _ _ _ H1
    cases R with
    | inr F =>
      obtain rfl := g2.ns g10 (by decide) (by decide)
      exact ⟨f1.tr f2, _, GA.par (by omega) e1 g1, g2⟩
    | inl q =>
      obtain ⟨A2, m⟩ := q
      have g2x : cG _ l1 l0 C b A2 E (l ++ m) (s + 1) := g2
      obtain ⟨f3, u3, v3⟩ := g2x.ns g10 (by decide) (by decide)
      refine ⟨(f1.tr f2).tr f3, _, GA.par (by omega) e1 g1, ?_⟩
      dsimp only
      cases h4 : ts b E 41 A2 with
      | none => exact v3 h4
      | some A3 => exact (u3 A3 h4).wk (by omega)
  · obtain ⟨A0, hA0⟩ := H.1
    obtain rfl := G0 _ _ hA0
    exact absurd (H.sg g7 (by decide) (by decide)).1 h8
theorem sp_51_c34_ttt (a0 : Nat) (a1 : Nat) (a2 : Int32) (σ : zSg) (l0 : Nat) (l1 : Nat) (l2 : Int32) (τ : zSg) (τ11 : zSg) (r11 : Int32) (τ13 : zSg) (r13 : Int32) (τ15 : zSg) (τ16 : zSg) (r16 : Int32) (hI : j_51 a0 a1 a2 σ l0 l1 l2 τ) (g11 : p_91 l1 (zB + 34) τ r11 τ11) (h12 : r11.toInt = (0 : Int)) (g13 : p_91 l1 (zB + 35) τ11 r13 τ13) (h14 : r13.toInt = (0 : Int)) (g15 : p_52 l0 l1 τ13 τ15) (g16 : p_93 l1 (Int32.ofInt (60)) τ15 r16 τ16) (h17 : r16.toInt ≠ (0 : Int)) :
    k_51 a0 a1 a2 σ l0 l1 r16 τ16 := by
  obtain ⟨rfl, rfl, rfl, G0, G⟩ := hI
  refine ⟨rfl, rfl, fun D C b E eD hD => ⟨fun A l s H => ⟨G D C b E A l s eD H, ?_⟩, fun F H => ?_⟩⟩
  · obtain rfl := G0 _ _ H.1
    obtain ⟨-, -, v⟩ := H.tk g11 zwk_34 qsi_34 1 (by decide)
    obtain ⟨e0, rfl⟩ := v h12
    obtain ⟨-, -, v⟩ := H.tk g13 zwk_35 qsi_35 1 (by decide)
    obtain ⟨e1, rfl⟩ := v h14
    obtain ⟨f1, R, g1, g2⟩ := (g15 C b E).1 _ _ _ H
    cases R with
    | inr F => exact absurd (cX.sg g2 g16 (by decide) (by decide)).1 h17
    | inl q =>
      obtain ⟨A1, m⟩ := q
      have g2x : cG _ l1 l0 C b A1 E (l ++ m) s := g2
      obtain ⟨f2, u, -⟩ := g2x.sg g16 (by decide) (by decide)
      obtain ⟨e2, H2x⟩ := u h17
      exact ⟨f1.tr f2, Or.inl ⟨A1, _, m, e0, e1, g1, Or.inl ⟨h17, e2⟩, H2x⟩⟩
  · obtain ⟨A0, hA0⟩ := H.1
    obtain rfl := G0 _ _ hA0
    obtain ⟨-, rfl⟩ := H.tk g11 zwk_34
    obtain ⟨-, rfl⟩ := H.tk g13 zwk_35
    obtain ⟨f1, H1⟩ := (g15 C b E).2 _ H
    exact absurd (H1.sg g16 (by decide) (by decide)).1 h17
theorem sp_51_c34_ttf (a0 : Nat) (a1 : Nat) (a2 : Int32) (σ : zSg) (l0 : Nat) (l1 : Nat) (l2 : Int32) (τ : zSg) (τ11 : zSg) (r11 : Int32) (τ13 : zSg) (r13 : Int32) (τ15 : zSg) (τ16 : zSg) (r16 : Int32) (τ18 : zSg) (hI : j_51 a0 a1 a2 σ l0 l1 l2 τ) (g11 : p_91 l1 (zB + 34) τ r11 τ11) (h12 : r11.toInt = (0 : Int)) (g13 : p_91 l1 (zB + 35) τ11 r13 τ13) (h14 : r13.toInt = (0 : Int)) (g15 : p_52 l0 l1 τ13 τ15) (g16 : p_93 l1 (Int32.ofInt (60)) τ15 r16 τ16) (h17 : r16.toInt = (0 : Int)) (g18 : p_94 l1 (Int32.ofInt (62)) τ16 τ18) :
    k_51 a0 a1 a2 σ l0 l1 r16 τ18 := by
  obtain ⟨rfl, rfl, rfl, G0, G⟩ := hI
  refine ⟨rfl, rfl, fun D C b E eD hD => ⟨fun A l s H => ⟨G D C b E A l s eD H, ?_⟩, fun F H => ?_⟩⟩
  · obtain rfl := G0 _ _ H.1
    obtain ⟨-, -, v⟩ := H.tk g11 zwk_34 qsi_34 1 (by decide)
    obtain ⟨e0, rfl⟩ := v h12
    obtain ⟨-, -, v⟩ := H.tk g13 zwk_35 qsi_35 1 (by decide)
    obtain ⟨e1, rfl⟩ := v h14
    obtain ⟨f1, R, g1, g2⟩ := (g15 C b E).1 _ _ _ H
    cases R with
    | inr F =>
      obtain ⟨-, rfl⟩ := cX.sg g2 g16 (by decide) (by decide)
      obtain rfl := cX.ns g2 g18 (by decide) (by decide)
      exact ⟨f1, Or.inr ⟨F, GB.wrong1 e0 e1 g1, g2⟩⟩
    | inl q =>
      obtain ⟨A1, m⟩ := q
      have g2x : cG _ l1 l0 C b A1 E (l ++ m) s := g2
      obtain ⟨f2, -, v⟩ := g2x.sg g16 (by decide) (by decide)
      obtain ⟨e2, rfl⟩ := v h17
      obtain ⟨f3, u3, v3⟩ := g2x.ns g18 (by decide) (by decide)
      refine ⟨f1.tr f3, ?_⟩
      cases h4 : ts b E 62 A1 with
      | none => exact Or.inr ⟨A1, GB.wrong2 e0 e1 g1 e2 h4, v3 h4⟩
      | some A2 => exact Or.inl ⟨A1, A2, m, e0, e1, g1, Or.inr ⟨h17, e2, h4⟩, u3 A2 h4⟩
  · obtain ⟨A0, hA0⟩ := H.1
    obtain rfl := G0 _ _ hA0
    obtain ⟨-, rfl⟩ := H.tk g11 zwk_34
    obtain ⟨-, rfl⟩ := H.tk g13 zwk_35
    obtain ⟨f1, H1⟩ := (g15 C b E).2 _ H
    obtain ⟨-, rfl⟩ := H1.sg g16 (by decide) (by decide)
    obtain rfl := H1.ns g18 (by decide) (by decide)
    exact ⟨f1, H1⟩
theorem sp_51_c34_tf (a0 : Nat) (a1 : Nat) (a2 : Int32) (σ : zSg) (l0 : Nat) (l1 : Nat) (l2 : Int32) (τ : zSg) (τ11 : zSg) (r11 : Int32) (τ13 : zSg) (r13 : Int32) (τ19 : zSg) (hI : j_51 a0 a1 a2 σ l0 l1 l2 τ) (g11 : p_91 l1 (zB + 34) τ r11 τ11) (h12 : r11.toInt = (0 : Int)) (g13 : p_91 l1 (zB + 35) τ11 r13 τ13) (h14 : r13.toInt ≠ (0 : Int)) (g19 : p_54 l0 (Int32.ofInt (-8)) τ13 τ19) :
    p_51 (a0) (a1) (a2) σ τ19 := by
  obtain ⟨rfl, rfl, rfl, G0, G⟩ := hI
  intro D C b E eD hD
  refine ⟨fun A l s H => ?_, fun F H => ?_⟩
  · obtain rfl := G0 _ _ H.1
    obtain ⟨-, -, v⟩ := H.tk g11 zwk_34 qsi_34 1 (by decide)
    obtain ⟨e0, rfl⟩ := v h12
    obtain ⟨f1, u, -⟩ := H.tk g13 zwk_35 qsi_35 1 (by decide)
    obtain ⟨e1, H1⟩ := u h14
    obtain ⟨f2, H2x⟩ := (g19 l1 C b E).1 _ _ s 7 0 H1 rfl
    exact ⟨f1.tr f2, _, gA_base (GB.wished e0 e1) hD (G D C b E A l s eD H), H2x⟩
  · obtain ⟨A0, hA0⟩ := H.1
    obtain rfl := G0 _ _ hA0
    obtain ⟨-, rfl⟩ := H.tk g11 zwk_34
    exact absurd (H.tk g13 zwk_35).1 h14
theorem sp_51_c34_f (a0 : Nat) (a1 : Nat) (a2 : Int32) (σ : zSg) (l0 : Nat) (l1 : Nat) (l2 : Int32) (τ : zSg) (τ11 : zSg) (r11 : Int32) (τ20 : zSg) (hI : j_51 a0 a1 a2 σ l0 l1 l2 τ) (g11 : p_91 l1 (zB + 34) τ r11 τ11) (h12 : r11.toInt ≠ (0 : Int)) (g20 : p_54 l0 (Int32.ofInt (-7)) τ11 τ20) :
    p_51 (a0) (a1) (a2) σ τ20 := by
  obtain ⟨rfl, rfl, rfl, G0, G⟩ := hI
  intro D C b E eD hD
  refine ⟨fun A l s H => ?_, fun F H => ?_⟩
  · obtain rfl := G0 _ _ H.1
    obtain ⟨f1, u, -⟩ := H.tk g11 zwk_34 qsi_34 1 (by decide)
    obtain ⟨e1, H1⟩ := u h12
    obtain ⟨f2, H2x⟩ := (g20 l1 C b E).1 _ _ s 6 0 H1 rfl
    exact ⟨f1.tr f2, _, gA_base (GB.night e1) hD (G D C b E A l s eD H), H2x⟩
  · obtain ⟨A0, hA0⟩ := H.1
    obtain rfl := G0 _ _ hA0
    exact absurd (H.tk g11 zwk_34).1 h12
theorem sp_51_c62_t (a0 : Nat) (a1 : Nat) (a2 : Int32) (σ : zSg) (l0 : Nat) (l1 : Nat) (l3 : Int32) (τ : zSg) (τ21 : zSg) (τ23 : zSg) (hI : k_51 a0 a1 a2 σ l0 l1 l3 τ) (g21 : p_52 l0 l1 τ τ21) (h22 : l3.toInt = (0 : Int)) (g23 : p_54 l0 (Int32.ofInt (-12)) τ21 τ23) :
    p_51 (a0) (a1) (a2) σ τ23 := by
  obtain ⟨rfl, rfl, G⟩ := hI
  intro D C b E eD hD
  refine ⟨fun A l s H => ?_, fun F H => ?_⟩
  · obtain ⟨hD6, f1, hx⟩ := (G D C b E eD hD).1 A l s H
    rcases hx with ⟨A1, A2, m, e0, e1, g1, hs, H1⟩ | ⟨F, hF, H1⟩
    · obtain ⟨f2, R, g3, g4⟩ := (g21 C b E).1 _ _ _ H1
      rcases hs with ⟨h3, -⟩ | ⟨h3, e2, e3⟩
      case inl => exact absurd h22 h3
      cases R with
      | inr F =>
        obtain ⟨f3, H3x⟩ := (g23 l1 C b E).2 _ g4
        exact ⟨(f1.tr f2).tr f3, _, gA_base (GB.more e0 e1 g1 e2 e3 g3) hD hD6, H3x⟩
      | inl q =>
        obtain ⟨A3, m2⟩ := q
        obtain ⟨f3, H3x⟩ := (g23 l1 C b E).1 _ _ s 11 0 g4 rfl
        refine ⟨(f1.tr f2).tr f3, _, gA_base (GB.more e0 e1 g1 e2 e3 g3) hD hD6, ?_⟩
        show cG _ l1 l0 C b A3 E (l ++ (m ++ m2 ++ [(11, 0)])) s
        rw [show l ++ (m ++ m2 ++ [(11, 0)]) = l ++ m ++ m2 ++ [(11, 0)] by simp only [List.append_assoc]]
        exact H3x
    · obtain ⟨f2, H2x⟩ := (g21 C b E).2 _ H1
      obtain ⟨f3, H3x⟩ := (g23 l1 C b E).2 _ H2x
      exact ⟨(f1.tr f2).tr f3, _, gA_base hF hD hD6, H3x⟩
  · obtain ⟨f1, H1⟩ := (G D C b E eD hD).2 F H
    obtain ⟨f2, H2x⟩ := (g21 C b E).2 _ H1
    obtain ⟨f3, H3x⟩ := (g23 l1 C b E).2 _ H2x
    exact ⟨(f1.tr f2).tr f3, H3x⟩
theorem sp_51_c62_f (a0 : Nat) (a1 : Nat) (a2 : Int32) (σ : zSg) (l0 : Nat) (l1 : Nat) (l3 : Int32) (τ : zSg) (τ21 : zSg) (τ24 : zSg) (hI : k_51 a0 a1 a2 σ l0 l1 l3 τ) (g21 : p_52 l0 l1 τ τ21) (h22 : l3.toInt ≠ (0 : Int)) (g24 : p_54 l0 (Int32.ofInt (-11)) τ21 τ24) :
    p_51 (a0) (a1) (a2) σ τ24 := by
  obtain ⟨rfl, rfl, G⟩ := hI
  intro D C b E eD hD
  refine ⟨fun A l s H => ?_, fun F H => ?_⟩
  · obtain ⟨hD6, f1, hx⟩ := (G D C b E eD hD).1 A l s H
    rcases hx with ⟨A1, A2, m, e0, e1, g1, hs, H1⟩ | ⟨F, hF, H1⟩
    · obtain ⟨f2, R, g3, g4⟩ := (g21 C b E).1 _ _ _ H1
      rcases hs with ⟨h3, e2⟩ | ⟨h3, -⟩
      case inr => exact absurd h3 h22
      cases R with
      | inr F =>
        obtain ⟨f3, H3x⟩ := (g24 l1 C b E).2 _ g4
        exact ⟨(f1.tr f2).tr f3, _, gA_base (GB.less e0 e1 g1 e2 g3) hD hD6, H3x⟩
      | inl q =>
        obtain ⟨A3, m2⟩ := q
        obtain ⟨f3, H3x⟩ := (g24 l1 C b E).1 _ _ s 10 0 g4 rfl
        refine ⟨(f1.tr f2).tr f3, _, gA_base (GB.less e0 e1 g1 e2 g3) hD hD6, ?_⟩
        show cG _ l1 l0 C b A3 E (l ++ (m ++ m2 ++ [(10, 0)])) s
        rw [show l ++ (m ++ m2 ++ [(10, 0)]) = l ++ m ++ m2 ++ [(10, 0)] by simp only [List.append_assoc]]
        exact H3x
    · obtain ⟨f2, H2x⟩ := (g21 C b E).2 _ H1
      obtain ⟨f3, H3x⟩ := (g24 l1 C b E).2 _ H2x
      exact ⟨(f1.tr f2).tr f3, _, gA_base hF hD hD6, H3x⟩
  · obtain ⟨f1, H1⟩ := (G D C b E eD hD).2 F H
    obtain ⟨f2, H2x⟩ := (g21 C b E).2 _ H1
    obtain ⟨f3, H3x⟩ := (g24 l1 C b E).2 _ H2x
    exact ⟨(f1.tr f2).tr f3, H3x⟩
set_option maxRecDepth 100000 in
theorem sp_51 {sx : zX} {m : Nat} (S91 : zEe sx 91 2 qP_91) (S54 : zEe sx 54 2 qP_54) (S93 : zEe sx 93 2 qP_93) (S94 : zEe sx 94 2 qP_94) (S52 : zEe sx 52 2 qP_52) (S51 : zMt sx m 51 3 qP_51) (S50 : zMt sx m 50 3 qP_50) : zMt sx (m + 1) 51 3 qP_51 := by
  refine zfl zJ_51 (sps := [(91, 2, qP_91), (51, 3, qP_51), (54, 2, qP_54), (93, 2, qP_93), (50, 3, qP_50), (94, 2, qP_94), (52, 2, qP_52)]) (fun q hq => by
    simp only [List.mem_cons, List.not_mem_nil, or_false] at hq
    rcases hq with rfl | rfl | rfl | rfl | rfl | rfl | rfl
    · exact S91 m
    · exact S51
    · exact S54 m
    · exact S93 m
    · exact S50
    · exact S94 m
    · exact S52 m) (fun as σ hl => ?_)
  match as, hl with
  | [a0, a1, a2], _ =>
  refine ⟨[(17, fun lo st τ => st = [] ∧ i_51 (q_r a0) (q_r a1) (q_i a2) σ (q_r (lo 0)) (q_r (lo 1)) (q_i (lo 2)) τ), (34, fun lo st τ => st = [] ∧ j_51 (q_r a0) (q_r a1) (q_i a2) σ (q_r (lo 0)) (q_r (lo 1)) (q_i (lo 2)) τ), (62, fun lo st τ => st = [] ∧ k_51 (q_r a0) (q_r a1) (q_i a2) σ (q_r (lo 0)) (q_r (lo 1)) (q_i (lo 3)) τ)], 400, ?_, ?_⟩
  · intro q hq
    simp only [List.mem_cons, List.not_mem_nil, or_false] at hq
    rcases hq with rfl | rfl | rfl
    · rintro lo st τ ⟨rfl, hI⟩
      refine ⟨400, ?_⟩
      refine And.intro (fun h6 => ?_) (fun h6 => ?_)
      · exact ⟨rfl, sp_51_c17_t (q_r a0) (q_r a1) (q_i a2) σ (q_r (lo 0)) (q_r (lo 1)) (q_i (lo 2)) τ hI (cm3t h6)⟩
      · refine fun o7 τ7 g7 => ?_
        obtain ⟨r7, rfl, g7⟩ := g7
        refine And.intro (fun h8 => ?_) (fun h8 => ?_)
        · exact ⟨rfl, sp_51_c17_ft (q_r a0) (q_r a1) (q_i a2) σ (q_r (lo 0)) (q_r (lo 1)) (q_i (lo 2)) τ τ7 r7 hI (cm3f h6) g7 (cm0t h8)⟩
        · refine fun o9 τ9 g9 => ?_
          obtain ⟨rfl, g9⟩ := g9
          refine fun o10 τ10 g10 => ?_
          obtain ⟨rfl, g10⟩ := g10
          exact ⟨rfl, sp_51_c17_ff (q_r a0) (q_r a1) (q_i a2) σ (q_r (lo 0)) (q_r (lo 1)) (q_i (lo 2)) τ τ7 r7 τ9 τ10 hI (cm3f h6) g7 (cm0f h8) g9 g10⟩
    · rintro lo st τ ⟨rfl, hI⟩
      refine ⟨400, ?_⟩
      refine fun o11 τ11 g11 => ?_
      obtain ⟨r11, rfl, g11⟩ := g11
      refine And.intro (fun h12 => ?_) (fun h12 => ?_)
      · refine fun o13 τ13 g13 => ?_
        obtain ⟨r13, rfl, g13⟩ := g13
        refine And.intro (fun h14 => ?_) (fun h14 => ?_)
        · refine fun o15 τ15 g15 => ?_
          obtain ⟨rfl, g15⟩ := g15
          refine fun o16 τ16 g16 => ?_
          obtain ⟨r16, rfl, g16⟩ := g16
          refine And.intro (fun h17 => ?_) (fun h17 => ?_)
          · exact ⟨rfl, sp_51_c34_ttt (q_r a0) (q_r a1) (q_i a2) σ (q_r (lo 0)) (q_r (lo 1)) (q_i (lo 2)) τ τ11 r11 τ13 r13 τ15 τ16 r16 hI g11 (cm0t h12) g13 (cm0t h14) g15 g16 (cm1t h17)⟩
          · refine fun o18 τ18 g18 => ?_
            obtain ⟨rfl, g18⟩ := g18
            exact ⟨rfl, sp_51_c34_ttf (q_r a0) (q_r a1) (q_i a2) σ (q_r (lo 0)) (q_r (lo 1)) (q_i (lo 2)) τ τ11 r11 τ13 r13 τ15 τ16 r16 τ18 hI g11 (cm0t h12) g13 (cm0t h14) g15 g16 (cm1f h17) g18⟩
        · refine fun o19 τ19 g19 => ?_
          obtain ⟨rfl, g19⟩ := g19
          exact ⟨rfl, sp_51_c34_tf (q_r a0) (q_r a1) (q_i a2) σ (q_r (lo 0)) (q_r (lo 1)) (q_i (lo 2)) τ τ11 r11 τ13 r13 τ19 hI g11 (cm0t h12) g13 (cm0f h14) g19⟩
      · refine fun o20 τ20 g20 => ?_
        obtain ⟨rfl, g20⟩ := g20
        exact ⟨rfl, sp_51_c34_f (q_r a0) (q_r a1) (q_i a2) σ (q_r (lo 0)) (q_r (lo 1)) (q_i (lo 2)) τ τ11 r11 τ20 hI g11 (cm0f h12) g20⟩
    · rintro lo st τ ⟨rfl, hI⟩
      refine ⟨400, ?_⟩
      refine fun o21 τ21 g21 => ?_
      obtain ⟨rfl, g21⟩ := g21
      refine And.intro (fun h22 => ?_) (fun h22 => ?_)
      · refine fun o23 τ23 g23 => ?_
        obtain ⟨rfl, g23⟩ := g23
        exact ⟨rfl, sp_51_c62_t (q_r a0) (q_r a1) (q_i a2) σ (q_r (lo 0)) (q_r (lo 1)) (q_i (lo 3)) τ τ21 τ23 hI g21 (cm0t h22) g23⟩
      · refine fun o24 τ24 g24 => ?_
        obtain ⟨rfl, g24⟩ := g24
        exact ⟨rfl, sp_51_c62_f (q_r a0) (q_r a1) (q_i a2) σ (q_r (lo 0)) (q_r (lo 1)) (q_i (lo 3)) τ τ21 τ24 hI g21 (cm0f h22) g24⟩
  · refine And.intro (fun h1 => ?_) (fun h1 => ?_)
    · exact ⟨rfl, sp_51_et (q_r a0) (q_r a1) (q_i a2) σ (cm3t h1)⟩
    · refine fun o2 τ2 g2 => ?_
      obtain ⟨r2, rfl, g2⟩ := g2
      refine And.intro (fun h3 => ?_) (fun h3 => ?_)
      · exact ⟨rfl, sp_51_eft (q_r a0) (q_r a1) (q_i a2) σ τ2 r2 (cm3f h1) g2 (cm0t h3)⟩
      · refine fun o4 τ4 g4 => ?_
        obtain ⟨rfl, g4⟩ := g4
        refine fun o5 τ5 g5 => ?_
        obtain ⟨rfl, g5⟩ := g5
        exact ⟨rfl, sp_51_eff (q_r a0) (q_r a1) (q_i a2) σ τ2 r2 τ4 τ5 (cm3f h1) g2 (cm0f h3) g4 g5⟩
noncomputable def i_50 (r t : Nat) (d : Int32) (σ : zSg) (l0 l1 : Nat) (l2 w i : Int32) (τ : zSg) : Prop := l0 = r ∧ l1 = t ∧ l2 = d ∧ ∀ D C b E, d = Int32.ofNat D → D ≤ 6 → (∀ A l s, cG σ t r C b A E l s → cF σ τ t r C ∧ ((∃ A1 m K, ∃ wb : Bool, i = Int32.ofNat K ∧ (w.toInt ≠ 0 ↔ wb = true) ∧ cG τ t r C b A1 E (l ++ m) (s + K + (bif wb then 1 else 0)) ∧ ∀ R, GL b E D A1 wb m R → GC b E D A R) ∨ (∃ F, GC b E D A (.inr F) ∧ cX τ t r C b E F))) ∧ (∀ F, cX σ t r C b E F → cF σ τ t r C ∧ cX τ t r C b E F)
theorem tw_e {b : Nat → Int} {E : Nat} {s : List Int} (hs : 0 < s.length) : tw b E s E = none := tw_0 (zRn_f (by omega)) hs
theorem sp_50_e (a0 : Nat) (a1 : Nat) (a2 : Int32) (σ : zSg) (τ1 : zSg) (g1 : p_51 a0 a1 a2 σ τ1) :
    i_50 a0 a1 a2 σ a0 a1 a2 (Int32.ofInt (0)) (Int32.ofInt (0)) τ1 := by
  refine ⟨rfl, rfl, rfl, fun D C b E eD hD => ⟨fun A l s H => ?_, fun F H => (g1 D C b E eD hD).2 F H⟩⟩
  obtain ⟨f1, R, g1, g2⟩ := (g1 D C b E eD hD).1 A l s H
  refine ⟨f1, ?_⟩
  cases R with
  | inr F => exact Or.inr ⟨F, GC.wrong g1, g2⟩
  | inl q =>
    obtain ⟨A1, m⟩ := q
    exact Or.inl ⟨A1, m, 0, false, rfl, ⟨fun h => absurd rfl h, fun h => by cases h⟩, g2, fun R hR => GC.go g1 hR⟩
theorem sp_50_c8_tt (a0 : Nat) (a1 : Nat) (a2 : Int32) (σ : zSg) (l0 : Nat) (l1 : Nat) (l2 : Int32) (l3 : Int32) (l4 : Int32) (τ : zSg) (hI : i_50 a0 a1 a2 σ l0 l1 l2 l3 l4 τ) (h2 : l4.toInt ≥ (400 : Int)) (h3 : l3.toInt = (0 : Int)) :
    p_50 (a0) (a1) (a2) σ τ := by
  obtain ⟨rfl, rfl, rfl, G⟩ := hI
  intro D C b E eD hD
  refine ⟨fun A l s H => ?_, fun F H => ?_⟩
  · obtain ⟨f1, ⟨A1, m, K, wb, rfl, hw, H1, hR⟩ | ⟨F, hF, H1⟩⟩ := (G D C b E eD hD).1 A l s H
    · have hl := H1.le
      have hm := H1.2.2.2.2.2.1
      rw [o32 (by omega)] at h2
      have eA : A1 = E := by omega
      subst eA
      have ea : tw b A1 wAnd A1 = none := tw_e (by decide)
      have eo : tw b A1 wOr A1 = none := tw_e (by decide)
      have ew : wb = false := by
        cases wb with
        | false => rfl
        | true => exact absurd h3 (hw.mpr rfl)
      subst ew
      exact ⟨f1, _, hR _ (GL.stop ea eo), H1.wk (by omega)⟩
    · exact ⟨f1, _, hF, H1⟩
  · obtain ⟨f1, H1⟩ := (G D C b E eD hD).2 F H
    exact ⟨f1, H1⟩
theorem sp_50_c8_tf (a0 : Nat) (a1 : Nat) (a2 : Int32) (σ : zSg) (l0 : Nat) (l1 : Nat) (l2 : Int32) (l3 : Int32) (l4 : Int32) (τ : zSg) (τ4 : zSg) (hI : i_50 a0 a1 a2 σ l0 l1 l2 l3 l4 τ) (h2 : l4.toInt ≥ (400 : Int)) (h3 : l3.toInt ≠ (0 : Int)) (g4 : p_54 l0 (Int32.ofInt (-14)) τ τ4) :
    p_50 (a0) (a1) (a2) σ τ4 := by
  obtain ⟨rfl, rfl, rfl, G⟩ := hI
  intro D C b E eD hD
  refine ⟨fun A l s H => ?_, fun F H => ?_⟩
  · obtain ⟨f1, ⟨A1, m, K, wb, rfl, hw, H1, hR⟩ | ⟨F, hF, H1⟩⟩ := (G D C b E eD hD).1 A l s H
    · have hl := H1.le
      have hm := H1.2.2.2.2.2.1
      rw [o32 (by omega)] at h2
      have eA : A1 = E := by omega
      subst eA
      have ea : tw b A1 wAnd A1 = none := tw_e (by decide)
      have eo : tw b A1 wOr A1 = none := tw_e (by decide)
      have ew : wb = true := by
        cases wb with
        | true => rfl
        | false => exact absurd (hw.mp h3) (by decide)
      subst ew
      obtain ⟨f9, H9⟩ := (g4 l1 C b A1).1 _ _ s 14 0 (H1.wk (show s + 1 ≤ s + K + 1 by omega)) rfl
      refine ⟨(f1).tr f9, _, hR _ (GL.stop ea eo), ?_⟩
      show cG _ l1 l0 C b A1 A1 (l ++ (m ++ [(14, 0)])) s
      rw [← List.append_assoc]
      exact H9
    · obtain ⟨f2, H2x⟩ := (g4 l1 C b E).2 _ H1
      exact ⟨f1.tr f2, _, hF, H2x⟩
  · obtain ⟨f1, H1⟩ := (G D C b E eD hD).2 F H
    obtain ⟨f2, H2x⟩ := (g4 l1 C b E).2 _ H1
    exact ⟨f1.tr f2, H2x⟩
theorem sp_50_c8_fttt (a0 : Nat) (a1 : Nat) (a2 : Int32) (σ : zSg) (l0 : Nat) (l1 : Nat) (l2 : Int32) (l3 : Int32) (l4 : Int32) (τ : zSg) (τ5 : zSg) (r5 : Int32) (τ7 : zSg) (r7 : Int32) (hI : i_50 a0 a1 a2 σ l0 l1 l2 l3 l4 τ) (h2 : l4.toInt < (400 : Int)) (g5 : p_91 l1 (zB + 31) τ r5 τ5) (h6 : r5.toInt = (0 : Int)) (g7 : p_91 l1 (zB + 32) τ5 r7 τ7) (h8 : r7.toInt = (0 : Int)) (h9 : l3.toInt = (0 : Int)) :
    p_50 (a0) (a1) (a2) σ τ7 := by
  obtain ⟨rfl, rfl, rfl, G⟩ := hI
  intro D C b E eD hD
  refine ⟨fun A l s H => ?_, fun F H => ?_⟩
  · obtain ⟨f1, ⟨A1, m, K, wb, rfl, hw, H1, hR⟩ | ⟨F, hF, H1⟩⟩ := (G D C b E eD hD).1 A l s H
    · obtain ⟨-, -, v⟩ := H1.tk g5 zwk_31 qsi_31 2 (by decide)
      obtain ⟨ea, rfl⟩ := v h6
      obtain ⟨-, -, v⟩ := H1.tk g7 zwk_32 qsi_32 2 (by decide)
      obtain ⟨eo, rfl⟩ := v h8
      have ew : wb = false := by
        cases wb with
        | false => rfl
        | true => exact absurd h9 (hw.mpr rfl)
      subst ew
      exact ⟨f1, _, hR _ (GL.stop ea eo), H1.wk (by omega)⟩
    · obtain ⟨-, rfl⟩ := H1.tk g5 zwk_31
      obtain ⟨-, rfl⟩ := H1.tk g7 zwk_32
      exact ⟨f1, _, hF, H1⟩
  · obtain ⟨f1, H1⟩ := (G D C b E eD hD).2 F H
    obtain ⟨-, rfl⟩ := H1.tk g5 zwk_31
    obtain ⟨-, rfl⟩ := H1.tk g7 zwk_32
    exact ⟨f1, H1⟩
theorem sp_50_c8_fttf (a0 : Nat) (a1 : Nat) (a2 : Int32) (σ : zSg) (l0 : Nat) (l1 : Nat) (l2 : Int32) (l3 : Int32) (l4 : Int32) (τ : zSg) (τ5 : zSg) (r5 : Int32) (τ7 : zSg) (r7 : Int32) (τ10 : zSg) (hI : i_50 a0 a1 a2 σ l0 l1 l2 l3 l4 τ) (h2 : l4.toInt < (400 : Int)) (g5 : p_91 l1 (zB + 31) τ r5 τ5) (h6 : r5.toInt = (0 : Int)) (g7 : p_91 l1 (zB + 32) τ5 r7 τ7) (h8 : r7.toInt = (0 : Int)) (h9 : l3.toInt ≠ (0 : Int)) (g10 : p_54 l0 (Int32.ofInt (-14)) τ7 τ10) :
    p_50 (a0) (a1) (a2) σ τ10 := by
  obtain ⟨rfl, rfl, rfl, G⟩ := hI
  intro D C b E eD hD
  refine ⟨fun A l s H => ?_, fun F H => ?_⟩
  · obtain ⟨f1, ⟨A1, m, K, wb, rfl, hw, H1, hR⟩ | ⟨F, hF, H1⟩⟩ := (G D C b E eD hD).1 A l s H
    · obtain ⟨-, -, v⟩ := H1.tk g5 zwk_31 qsi_31 2 (by decide)
      obtain ⟨ea, rfl⟩ := v h6
      obtain ⟨-, -, v⟩ := H1.tk g7 zwk_32 qsi_32 2 (by decide)
      obtain ⟨eo, rfl⟩ := v h8
      have ew : wb = true := by
        cases wb with
        | true => rfl
        | false => exact absurd (hw.mp h9) (by decide)
      subst ew
      obtain ⟨f9, H9⟩ := (g10 l1 C b E).1 _ _ s 14 0 (H1.wk (show s + 1 ≤ s + K + 1 by omega)) rfl
      refine ⟨(f1).tr f9, _, hR _ (GL.stop ea eo), ?_⟩
      show cG _ l1 l0 C b A1 E (l ++ (m ++ [(14, 0)])) s
      rw [← List.append_assoc]
      exact H9
    · obtain ⟨-, rfl⟩ := H1.tk g5 zwk_31
      obtain ⟨-, rfl⟩ := H1.tk g7 zwk_32
      obtain ⟨f2, H2x⟩ := (g10 l1 C b E).2 _ H1
      exact ⟨f1.tr f2, _, hF, H2x⟩
  · obtain ⟨f1, H1⟩ := (G D C b E eD hD).2 F H
    obtain ⟨-, rfl⟩ := H1.tk g5 zwk_31
    obtain ⟨-, rfl⟩ := H1.tk g7 zwk_32
    obtain ⟨f2, H2x⟩ := (g10 l1 C b E).2 _ H1
    exact ⟨f1.tr f2, H2x⟩
theorem sp_50_c8_ftft (a0 : Nat) (a1 : Nat) (a2 : Int32) (σ : zSg) (l0 : Nat) (l1 : Nat) (l2 : Int32) (l3 : Int32) (l4 : Int32) (τ : zSg) (τ5 : zSg) (r5 : Int32) (τ7 : zSg) (r7 : Int32) (τ12 : zSg) (hI : i_50 a0 a1 a2 σ l0 l1 l2 l3 l4 τ) (h2 : l4.toInt < (400 : Int)) (g5 : p_91 l1 (zB + 31) τ r5 τ5) (h6 : r5.toInt = (0 : Int)) (g7 : p_91 l1 (zB + 32) τ5 r7 τ7) (h8 : r7.toInt ≠ (0 : Int)) (h11 : l3.toInt = (0 : Int)) (g12 : p_51 l0 l1 l2 τ7 τ12) :
    i_50 a0 a1 a2 σ l0 l1 l2 (Int32.ofInt (1)) (l4 + Int32.ofInt (1)) τ12 := by
  obtain ⟨rfl, rfl, rfl, G⟩ := hI
  refine ⟨rfl, rfl, rfl, fun D C b E eD hD => ⟨fun A l s H => ?_, fun F H => ?_⟩⟩
  · obtain ⟨f1, ⟨A1, m, K, wb, rfl, hw, H1, hR⟩ | ⟨F, hF, H1⟩⟩ := (G D C b E eD hD).1 A l s H
    · obtain ⟨-, -, v⟩ := H1.tk g5 zwk_31 qsi_31 2 (by decide)
      obtain ⟨ea, rfl⟩ := v h6
      obtain ⟨f2, u, -⟩ := H1.tk g7 zwk_32 qsi_32 2 (by decide)
      obtain ⟨eo, H2x⟩ := u h8
      have ew : wb = false := by
        cases wb with
        | false => rfl
        | true => exact absurd h11 (hw.mpr rfl)
      subst ew
      have hl := H1.le
      have hm := H1.2.2.2.2.2.1
      obtain ⟨f3, R, g1, g2⟩ := (g12 D C b E eD hD).1 _ _ _ H2x
      refine ⟨(f1.tr f2).tr f3, ?_⟩
      cases R with
      | inr F => exact Or.inr ⟨F, hR _ (GL.or0 ea eo g1), g2⟩
      | inl q =>
        obtain ⟨A2, m2⟩ := q
        have g2x : cG _ l1 l0 C b A2 E (l ++ m ++ m2) (s + K + 0 + 2) := g2
        refine Or.inl ⟨A2, m ++ m2, K + 1, true, by rw [← o32i (by omega)], ⟨fun _ => rfl, fun _ => by decide⟩, ?_, fun R hq => hR R (GL.or1 ea eo g1 hq)⟩
        rw [← List.append_assoc]
        exact g2x.wk (by show s + (K + 1) + 1 ≤ s + K + 0 + 2; omega)
    · obtain ⟨-, rfl⟩ := H1.tk g5 zwk_31
      exact absurd (H1.tk g7 zwk_32).1 h8
  · obtain ⟨f1, H1⟩ := (G D C b E eD hD).2 F H
    obtain ⟨-, rfl⟩ := H1.tk g5 zwk_31
    exact absurd (H1.tk g7 zwk_32).1 h8
theorem sp_50_c8_ftff (a0 : Nat) (a1 : Nat) (a2 : Int32) (σ : zSg) (l0 : Nat) (l1 : Nat) (l2 : Int32) (l3 : Int32) (l4 : Int32) (τ : zSg) (τ5 : zSg) (r5 : Int32) (τ7 : zSg) (r7 : Int32) (τ13 : zSg) (τ14 : zSg) (hI : i_50 a0 a1 a2 σ l0 l1 l2 l3 l4 τ) (h2 : l4.toInt < (400 : Int)) (g5 : p_91 l1 (zB + 31) τ r5 τ5) (h6 : r5.toInt = (0 : Int)) (g7 : p_91 l1 (zB + 32) τ5 r7 τ7) (h8 : r7.toInt ≠ (0 : Int)) (h11 : l3.toInt ≠ (0 : Int)) (g13 : p_54 l0 (Int32.ofInt (-14)) τ7 τ13) (g14 : p_51 l0 l1 l2 τ13 τ14) :
    i_50 a0 a1 a2 σ l0 l1 l2 (Int32.ofInt (1)) (l4 + Int32.ofInt (1)) τ14 := by
  obtain ⟨rfl, rfl, rfl, G⟩ := hI
  refine ⟨rfl, rfl, rfl, fun D C b E eD hD => ⟨fun A l s H => ?_, fun F H => ?_⟩⟩
  · obtain ⟨f1, ⟨A1, m, K, wb, rfl, hw, H1, hR⟩ | ⟨F, hF, H1⟩⟩ := (G D C b E eD hD).1 A l s H
    · obtain ⟨-, -, v⟩ := H1.tk g5 zwk_31 qsi_31 2 (by decide)
      obtain ⟨ea, rfl⟩ := v h6
      obtain ⟨f2, u, -⟩ := H1.tk g7 zwk_32 qsi_32 2 (by decide)
      obtain ⟨eo, H2x⟩ := u h8
      have ew : wb = true := by
        cases wb with
        | true => rfl
        | false => exact absurd (hw.mp h11) (by decide)
      subst ew
      have hl := H1.le
      have hm := H1.2.2.2.2.2.1
      obtain ⟨f3, H3x⟩ := (g13 l1 C b E).1 _ _ (s + K + 2) 14 0 (H2x.wk (by show s + K + 2 + 1 ≤ s + K + 1 + 2; omega)) rfl
      obtain ⟨f4, R, g1, g2⟩ := (g14 D C b E eD hD).1 _ _ _ H3x
      refine ⟨((f1.tr f2).tr f3).tr f4, ?_⟩
      cases R with
      | inr F => exact Or.inr ⟨F, hR _ (GL.or0 ea eo g1), g2⟩
      | inl q =>
        obtain ⟨A2, m2⟩ := q
        have g2x : cG _ l1 l0 C b A2 E (l ++ m ++ [(14, 0)] ++ m2) (s + K + 2) := g2
        refine Or.inl ⟨A2, m ++ [(14, 0)] ++ m2, K + 1, true, by rw [← o32i (by omega)], ⟨fun _ => rfl, fun _ => by decide⟩, ?_, fun R hq => hR R (GL.or1 ea eo g1 hq)⟩
        rw [show l ++ (m ++ [(14, 0)] ++ m2) = l ++ m ++ [(14, 0)] ++ m2 by simp only [List.append_assoc]]
        exact g2x.wk (by show s + (K + 1) + 1 ≤ s + K + 2; omega)
    · obtain ⟨-, rfl⟩ := H1.tk g5 zwk_31
      exact absurd (H1.tk g7 zwk_32).1 h8
  · obtain ⟨f1, H1⟩ := (G D C b E eD hD).2 F H
    obtain ⟨-, rfl⟩ := H1.tk g5 zwk_31
    exact absurd (H1.tk g7 zwk_32).1 h8
theorem sp_50_c8_ff (a0 : Nat) (a1 : Nat) (a2 : Int32) (σ : zSg) (l0 : Nat) (l1 : Nat) (l2 : Int32) (l3 : Int32) (l4 : Int32) (τ : zSg) (τ5 : zSg) (r5 : Int32) (τ15 : zSg) (τ16 : zSg) (hI : i_50 a0 a1 a2 σ l0 l1 l2 l3 l4 τ) (h2 : l4.toInt < (400 : Int)) (g5 : p_91 l1 (zB + 31) τ r5 τ5) (h6 : r5.toInt ≠ (0 : Int)) (g15 : p_51 l0 l1 l2 τ5 τ15) (g16 : p_54 l0 (Int32.ofInt (-13)) τ15 τ16) :
    i_50 a0 a1 a2 σ l0 l1 l2 l3 (l4 + Int32.ofInt (1)) τ16 := by
  obtain ⟨rfl, rfl, rfl, G⟩ := hI
  refine ⟨rfl, rfl, rfl, fun D C b E eD hD => ⟨fun A l s H => ?_, fun F H => ?_⟩⟩
  · obtain ⟨f1, ⟨A1, m, K, wb, rfl, hw, H1, hR⟩ | ⟨F, hF, H1⟩⟩ := (G D C b E eD hD).1 A l s H
    · obtain ⟨f2, u, -⟩ := H1.tk g5 zwk_31 qsi_31 2 (by decide)
      obtain ⟨ea, H2x⟩ := u h6
      have hl := H1.le
      have hm := H1.2.2.2.2.2.1
      obtain ⟨f3, R, g1, g2⟩ := (g15 D C b E eD hD).1 _ _ _ H2x
      cases R with
      | inr F =>
        obtain ⟨f4, H4x⟩ := (g16 l1 C b E).2 _ g2
        exact ⟨((f1.tr f2).tr f3).tr f4, Or.inr ⟨F, hR _ (GL.and0 ea g1), H4x⟩⟩
      | inl q =>
        obtain ⟨A2, m2⟩ := q
        have g2x : cG _ l1 l0 C b A2 E (l ++ m ++ m2) (s + K + (bif wb then 1 else 0) + 2) := g2
        obtain ⟨f4, H4x⟩ := (g16 l1 C b E).1 _ _ (s + (K + 1) + (bif wb then 1 else 0)) 13 0 (g2x.wk (by omega)) rfl
        refine ⟨((f1.tr f2).tr f3).tr f4, Or.inl ⟨A2, m ++ m2 ++ [(13, 0)], K + 1, wb, by rw [← o32i (by omega)], hw, ?_, fun R hq => hR R (GL.and1 ea g1 hq)⟩⟩
        rw [show l ++ (m ++ m2 ++ [(13, 0)]) = l ++ m ++ m2 ++ [(13, 0)] by simp only [List.append_assoc]]
        exact H4x
    · exact absurd (H1.tk g5 zwk_31).1 h6
  · obtain ⟨f1, H1⟩ := (G D C b E eD hD).2 F H
    exact absurd (H1.tk g5 zwk_31).1 h6
set_option maxRecDepth 100000 in
theorem sp_50 {sx : zX} {m : Nat} (S54 : zEe sx 54 2 qP_54) (S91 : zEe sx 91 2 qP_91) (S51 : zMt sx m 51 3 qP_51) : zMt sx (m + 1) 50 3 qP_50 := by
  refine zfl zJ_50 (sps := [(51, 3, qP_51), (54, 2, qP_54), (91, 2, qP_91)]) (fun q hq => by
    simp only [List.mem_cons, List.not_mem_nil, or_false] at hq
    rcases hq with rfl | rfl | rfl
    · exact S51
    · exact S54 m
    · exact S91 m) (fun as σ hl => ?_)
  match as, hl with
  | [a0, a1, a2], _ =>
  refine ⟨[(8, fun lo st τ => st = [] ∧ i_50 (q_r a0) (q_r a1) (q_i a2) σ (q_r (lo 0)) (q_r (lo 1)) (q_i (lo 2)) (q_i (lo 3)) (q_i (lo 4)) τ)], 400, ?_, ?_⟩
  · intro q hq
    simp only [List.mem_cons, List.not_mem_nil, or_false] at hq
    rcases hq with rfl
    · rintro lo st τ ⟨rfl, hI⟩
      refine ⟨400, ?_⟩
      refine And.intro (fun h2 => ?_) (fun h2 => ?_)
      · refine And.intro (fun h3 => ?_) (fun h3 => ?_)
        · exact ⟨rfl, sp_50_c8_tt (q_r a0) (q_r a1) (q_i a2) σ (q_r (lo 0)) (q_r (lo 1)) (q_i (lo 2)) (q_i (lo 3)) (q_i (lo 4)) τ hI (cm3t h2) (cm0t h3)⟩
        · refine fun o4 τ4 g4 => ?_
          obtain ⟨rfl, g4⟩ := g4
          exact ⟨rfl, sp_50_c8_tf (q_r a0) (q_r a1) (q_i a2) σ (q_r (lo 0)) (q_r (lo 1)) (q_i (lo 2)) (q_i (lo 3)) (q_i (lo 4)) τ τ4 hI (cm3t h2) (cm0f h3) g4⟩
      · refine fun o5 τ5 g5 => ?_
        obtain ⟨r5, rfl, g5⟩ := g5
        refine And.intro (fun h6 => ?_) (fun h6 => ?_)
        · refine fun o7 τ7 g7 => ?_
          obtain ⟨r7, rfl, g7⟩ := g7
          refine And.intro (fun h8 => ?_) (fun h8 => ?_)
          · refine And.intro (fun h9 => ?_) (fun h9 => ?_)
            · exact ⟨rfl, sp_50_c8_fttt (q_r a0) (q_r a1) (q_i a2) σ (q_r (lo 0)) (q_r (lo 1)) (q_i (lo 2)) (q_i (lo 3)) (q_i (lo 4)) τ τ5 r5 τ7 r7 hI (cm3f h2) g5 (cm0t h6) g7 (cm0t h8) (cm0t h9)⟩
            · refine fun o10 τ10 g10 => ?_
              obtain ⟨rfl, g10⟩ := g10
              exact ⟨rfl, sp_50_c8_fttf (q_r a0) (q_r a1) (q_i a2) σ (q_r (lo 0)) (q_r (lo 1)) (q_i (lo 2)) (q_i (lo 3)) (q_i (lo 4)) τ τ5 r5 τ7 r7 τ10 hI (cm3f h2) g5 (cm0t h6) g7 (cm0t h8) (cm0f h9) g10⟩
          · refine And.intro (fun h11 => ?_) (fun h11 => ?_)
            · refine fun o12 τ12 g12 => ?_
              obtain ⟨rfl, g12⟩ := g12
              exact ⟨rfl, sp_50_c8_ftft (q_r a0) (q_r a1) (q_i a2) σ (q_r (lo 0)) (q_r (lo 1)) (q_i (lo 2)) (q_i (lo 3)) (q_i (lo 4)) τ τ5 r5 τ7 r7 τ12 hI (cm3f h2) g5 (cm0t h6) g7 (cm0f h8) (cm0t h11) g12⟩
            · refine fun o13 τ13 g13 => ?_
              obtain ⟨rfl, g13⟩ := g13
              refine fun o14 τ14 g14 => ?_
              obtain ⟨rfl, g14⟩ := g14
              exact ⟨rfl, sp_50_c8_ftff (q_r a0) (q_r a1) (q_i a2) σ (q_r (lo 0)) (q_r (lo 1)) (q_i (lo 2)) (q_i (lo 3)) (q_i (lo 4)) τ τ5 r5 τ7 r7 τ13 τ14 hI (cm3f h2) g5 (cm0t h6) g7 (cm0f h8) (cm0f h11) g13 g14⟩
        · refine fun o15 τ15 g15 => ?_
          obtain ⟨rfl, g15⟩ := g15
          refine fun o16 τ16 g16 => ?_
          obtain ⟨rfl, g16⟩ := g16
          exact ⟨rfl, sp_50_c8_ff (q_r a0) (q_r a1) (q_i a2) σ (q_r (lo 0)) (q_r (lo 1)) (q_i (lo 2)) (q_i (lo 3)) (q_i (lo 4)) τ τ5 r5 τ15 τ16 hI (cm3f h2) g5 (cm0f h6) g15 g16⟩
  · refine fun o1 τ1 g1 => ?_
    obtain ⟨rfl, g1⟩ := g1
    exact ⟨rfl, sp_50_e (q_r a0) (q_r a1) (q_i a2) σ τ1 g1⟩
theorem sc_atom {sx : zX} (S91 : zEe sx 91 2 qP_91) (S93 : zEe sx 93 2 qP_93) (S94 : zEe sx 94 2 qP_94) (S52 : zEe sx 52 2 qP_52) (S54 : zEe sx 54 2 qP_54) : ∀ m, zMt sx m 51 3 qP_51 ∧ zMt sx m 50 3 qP_50
  | 0 => ⟨zMt0, zMt0⟩
  | m + 1 => by
    obtain ⟨h1, h2⟩ := sc_atom S91 S93 S94 S52 S54 m
    exact ⟨sp_51 (m := m) S91 S54 S93 S94 S52 h1 h2, sp_50 (m := m) S54 S91 h1⟩
end
section
/-! lines, and a text of them -/
abbrev gLn4 : Type := Nat × Nat × Nat × Nat
noncomputable def gLine (b : Nat → Int) (E n A : Nat) : Option ((Nat × Nat × Nat × zSs) ⊕ Nat) := match tws b E A [wWarm, wDust, wFine] 0 with
  | none => some (.inr A)
  | some (A1, c) => (match tn b E 0 20 A1 with
    | none => some (.inr A1)
    | some (A2, v) => (match tw b E wIf A2 with
      | none => some (.inl (A2, c, v, []))
      | some A3 => (match gCond b E (gAtom b E n 0) n A3 with
        | none => none
        | some (.inr F) => some (.inr F)
        | some (.inl (A4, m)) => some (.inl (A4, c, v, m)))))
noncomputable def gText (b : Nat → Int) (E : Nat) : Nat → Nat → List gLn4 → zSs → Option ((List gLn4 × zSs) ⊕ Nat)
  | 0, _, _, _ => none
  | n + 1, A, ls, l => if ls.length = 12 then some (.inr A) else (match gLine b E n A with
    | none => none
    | some (.inr F) => some (.inr F)
    | some (.inl (A1, c, v, m)) => if A1 = E then some (.inl (ls ++ [(c, v, l.length, (l ++ m).length)], l ++ m)) else (match ts b E 59 A1 with
      | none => some (.inr A1)
      | some A2 => gText b E n A2 (ls ++ [(c, v, l.length, (l ++ m).length)]) (l ++ m)))
section GTX
variable {b : Nat → Int} {E : Nat}
noncomputable def GI (b : Nat → Int) (E A : Nat) (R : (Nat × Nat × Nat × zSs) ⊕ Nat) : Prop := ∃ n, gLine b E n A = some R
noncomputable def GT (b : Nat → Int) (E A : Nat) (ls : List gLn4) (l : zSs) (R : (List gLn4 × zSs) ⊕ Nat) : Prop := ∃ n, gText b E n A ls l = some R
theorem gLine_mono {n m A : Nat} {R : (Nat × Nat × Nat × zSs) ⊕ Nat} (h : gLine b E n A = some R) (hm : n ≤ m) : gLine b E m A = some R := by
  unfold gLine at h ⊢
  cases h1 : tws b E A [wWarm, wDust, wFine] 0 with
  | none => rw [h1] at h; exact h
  | some q =>
  obtain ⟨A1, c⟩ := q
  rw [h1] at h
  dsimp only at h ⊢
  cases h2 : tn b E 0 20 A1 with
  | none => rw [h2] at h; exact h
  | some q =>
  obtain ⟨A2, v⟩ := q
  rw [h2] at h
  dsimp only at h ⊢
  cases h3 : tw b E wIf A2 with
  | none => rw [h3] at h; exact h
  | some A3 =>
  rw [h3] at h
  dsimp only at h ⊢
  cases h4 : gCond b E (gAtom b E n 0) n A3 with
  | none => rw [h4] at h; cases h
  | some q => rw [h4] at h; rw [gCond_mono (gAm hm) h4 hm]; exact h
theorem gText_mono {R : (List gLn4 × zSs) ⊕ Nat} : ∀ {n m A : Nat} {ls : List gLn4} {l : zSs}, gText b E n A ls l = some R → n ≤ m → gText b E m A ls l = some R
  | 0, _, _, _, _, h, _ => by cases h
  | n + 1, 0, _, _, _, _, hm => by omega
  | n + 1, m + 1, A, ls, l, h, hm => by
    unfold gText at h ⊢
    by_cases h0 : ls.length = 12
    · rw [if_pos h0] at h ⊢; exact h
    rw [if_neg h0] at h ⊢
    cases h1 : gLine b E n A with
    | none => rw [h1] at h; cases h
    | some q =>
    rw [h1] at h
    rw [gLine_mono h1 (by omega)]
    cases q with
    | inr F => exact h
    | inl q =>
    obtain ⟨A1, c, v, w⟩ := q
    dsimp only at h ⊢
    by_cases h2 : A1 = E
    · rw [if_pos h2] at h ⊢; exact h
    rw [if_neg h2] at h ⊢
    cases h3 : ts b E 59 A1 with
    | none => rw [h3] at h; exact h
    | some A2 => rw [h3] at h; exact gText_mono h (by omega)
theorem GI.k0 {A : Nat} (h : tws b E A [wWarm, wDust, wFine] 0 = none) : GI b E A (.inr A) := ⟨0, by unfold gLine; rw [h]⟩
theorem GI.n0 {A A1 c : Nat} (h : tws b E A [wWarm, wDust, wFine] 0 = some (A1, c)) (h1 : tn b E 0 20 A1 = none) : GI b E A (.inr A1) := ⟨0, by unfold gLine; rw [h]; dsimp only; rw [h1]⟩
theorem GI.plain {A A1 c A2 v : Nat} (h : tws b E A [wWarm, wDust, wFine] 0 = some (A1, c)) (h1 : tn b E 0 20 A1 = some (A2, v)) (h2 : tw b E wIf A2 = none) : GI b E A (.inl (A2, c, v, [])) := ⟨0, by unfold gLine; rw [h]; dsimp only; rw [h1]; dsimp only; rw [h2]⟩
theorem GI.if0 {A A1 c A2 v A3 F : Nat} (h : tws b E A [wWarm, wDust, wFine] 0 = some (A1, c)) (h1 : tn b E 0 20 A1 = some (A2, v)) (h2 : tw b E wIf A2 = some A3) (h3 : GC b E 0 A3 (.inr F)) : GI b E A (.inr F) := by
  obtain ⟨n, h3⟩ := h3
  exact ⟨n, by unfold gLine; rw [h]; dsimp only; rw [h1]; dsimp only; rw [h2]; dsimp only; rw [h3]⟩
theorem GI.if1 {A A1 c A2 v A3 A4 : Nat} {m : zSs} (h : tws b E A [wWarm, wDust, wFine] 0 = some (A1, c)) (h1 : tn b E 0 20 A1 = some (A2, v)) (h2 : tw b E wIf A2 = some A3) (h3 : GC b E 0 A3 (.inl (A4, m))) : GI b E A (.inl (A4, c, v, m)) := by
  obtain ⟨n, h3⟩ := h3
  exact ⟨n, by unfold gLine; rw [h]; dsimp only; rw [h1]; dsimp only; rw [h2]; dsimp only; rw [h3]⟩
theorem GT.full {A : Nat} {ls : List gLn4} {l : zSs} (h : ls.length = 12) : GT b E A ls l (.inr A) := ⟨1, by unfold gText; rw [if_pos h]⟩
theorem GT.bad {A F : Nat} {ls : List gLn4} {l : zSs} (h0 : ls.length ≠ 12) (h : GI b E A (.inr F)) : GT b E A ls l (.inr F) := by
  obtain ⟨n, h⟩ := h
  exact ⟨n + 1, by unfold gText; rw [if_neg h0, h]⟩
theorem GT.last {A c v : Nat} {m : zSs} {ls : List gLn4} {l : zSs} (h0 : ls.length ≠ 12) (h : GI b E A (.inl (E, c, v, m))) : GT b E A ls l (.inl (ls ++ [(c, v, l.length, (l ++ m).length)], l ++ m)) := by
  obtain ⟨n, h⟩ := h
  exact ⟨n + 1, by unfold gText; rw [if_neg h0, h]; dsimp only; rw [if_pos rfl]⟩
theorem GT.semi {A A1 c v : Nat} {m : zSs} {ls : List gLn4} {l : zSs} (h0 : ls.length ≠ 12) (h : GI b E A (.inl (A1, c, v, m))) (h1 : A1 ≠ E) (h2 : ts b E 59 A1 = none) : GT b E A ls l (.inr A1) := by
  obtain ⟨n, h⟩ := h
  exact ⟨n + 1, by unfold gText; rw [if_neg h0, h]; dsimp only; rw [if_neg h1, h2]⟩
theorem GT.step {A A1 A2 c v : Nat} {m : zSs} {ls : List gLn4} {l : zSs} {R : (List gLn4 × zSs) ⊕ Nat} (h0 : ls.length ≠ 12) (h : GI b E A (.inl (A1, c, v, m))) (h1 : A1 ≠ E) (h2 : ts b E 59 A1 = some A2) (h3 : GT b E A2 (ls ++ [(c, v, l.length, (l ++ m).length)]) (l ++ m) R) : GT b E A ls l R := by
  obtain ⟨n, h⟩ := h
  obtain ⟨k, h3⟩ := h3
  refine ⟨max n k + 1, ?_⟩
  unfold gText
  rw [if_neg h0, gLine_mono h (Nat.le_max_left n k)]
  dsimp only
  rw [if_neg h1, h2]
  exact gText_mono h3 (Nat.le_max_right n k)
theorem GT.det {A : Nat} {ls : List gLn4} {l : zSs} {R R' : (List gLn4 × zSs) ⊕ Nat} (h : GT b E A ls l R) (h' : GT b E A ls l R') : R = R' := by
  obtain ⟨n, h⟩ := h
  obtain ⟨k, h'⟩ := h'
  have h1 := gText_mono h (Nat.le_max_left n k)
  have h2 := gText_mono h' (Nat.le_max_right n k)
  rw [h1] at h2
  exact Option.some.inj h2
end GTX
/-- a law's text: its lines and steps, or the wrong place -/
noncomputable def GLaw (b : Nat → Int) (E : Nat) (R : (List gLn4 × zSs) ⊕ Nat) : Prop := (zBl b E 0 = E ∧ R = .inl ([], [])) ∨ (zBl b E 0 ≠ E ∧ GT b E (zBl b E 0) [] [] R)
theorem GLaw.det {b : Nat → Int} {E : Nat} {R R' : (List gLn4 × zSs) ⊕ Nat} (h : GLaw b E R) (h' : GLaw b E R') : R = R' := by
  rcases h with ⟨h1, h2⟩ | ⟨h1, h2⟩ <;> rcases h' with ⟨g1, g2⟩ | ⟨g1, g2⟩
  · rw [h2, g2]
  · exact absurd h1 g1
  · exact absurd g1 h1
  · exact h2.det g2
end
section
/-! the reference's reader of lines, exact; printed with wip/gen/gen_t5.py -/
theorem qsi_66 : q_si (zB + 66) = wWarm := by decide +kernel
theorem qsi_44 : q_si (zB + 44) = wDust := by decide +kernel
theorem qsi_54 : q_si (zB + 54) = wFine := by decide +kernel
theorem qsi_67 : q_si (zB + 67) = wIf := by decide +kernel
noncomputable def rF3 (σ σ' : zSg) (a W N : Nat) : Prop := σ'.2 = σ.2 ∧ ∀ c k, ¬ (c = a ∧ (k = 10 ∨ k = 12 ∨ k = 13 ∨ k = 16)) → ¬ (c = W ∧ 1286 ≤ k) → ¬ (c = W ∧ 1238 + 4 * N ≤ k ∧ k ≤ 1241 + 4 * N) → σ'.1 c k = σ.1 c k
section RLN
variable {σ τ υ : zSg} {a W P E D N : Nat} {b : Nat → Int} {l : zSs}
theorem rF3.rf : rF3 σ σ a W N := ⟨rfl, fun _ _ _ _ _ => rfl⟩
theorem rF3.tr (h1 : rF3 σ τ a W N) (h2 : rF3 τ υ a W N) : rF3 σ υ a W N := ⟨h2.1.trans h1.1, fun c k q1 q2 q3 => (h2.2 c k q1 q2 q3).trans (h1.2 c k q1 q2 q3)⟩
theorem rF3.of (h : rF σ τ a W) : rF3 σ τ a W N := ⟨h.1, fun c k q1 q2 _ => h.2 c k q1 q2⟩
theorem rF3.ww {k : Nat} {v : Value} (h : 1238 + 4 * N ≤ k ∧ k ≤ 1241 + 4 * N) : rF3 σ (q_w σ W k v) a W N := ⟨rfl, fun c i _ _ q3 => q_w_ne (fun e1 e2 => q3 ⟨e1, by omega⟩)⟩
theorem rG.ww {k : Nat} {v : Value} (H : rG σ a W b P E D l) (h : k < 1286) : rG (q_w σ W k v) a W b P E D l := by
  obtain ⟨h1, h2, h3, h4, h5, h6, h7, h8, h9, h10, h11⟩ := H
  obtain ⟨g1, g2, g3, g4, g5⟩ := h1
  have ne : a = W → False := fun q => h4 q.symm
  refine ⟨⟨?_, ?_, ?_, g4, g5⟩, ?_, ?_, h4, ?_, h6, ?_, h8, ?_, h10, fun i x hx => ?_⟩
  · rw [q_w_ne (fun q _ => ne q)]; exact g1
  · rw [q_w_ne (fun q _ => ne q)]; exact g2
  · rw [q_w_ne (fun q _ => ne q)]; exact g3
  · rw [← h2]
    funext i
    unfold rb
    rw [q_w_ne (c' := a) (k' := 8) (fun q _ => ne q), q_w_ne (fun q _ => h5 q)]
  · rw [q_w_ne (fun q _ => ne q)]; exact h3
  · rw [q_w_ne (fun q _ => ne q)]; exact h5
  · rw [q_w_ne (fun q _ => ne q)]; exact h7
  · rw [q_w_ne (fun q _ => ne q)]; exact h9
  · rw [q_w_ne (fun _ q => by omega), q_w_ne (fun _ q => by omega)]; exact h11 i x hx
theorem rF.at {k : Nat} (h : rF σ τ a W) (hW : W ≠ a) (hk : k < 1286) : τ.1 W k = σ.1 W k := h.2 W k (fun q => hW q.1) (fun q => by omega)
theorem zK4 {n : Nat} (h : n < 12) : (Int32.ofInt 1238 + Int32.ofInt 4 * Int32.ofNat n).toInt = 1238 + 4 * (n : Int) := by
  have e : (Int32.ofInt 4 * Int32.ofNat n).toInt = 4 * (n : Int) := by
    rw [Int32.toInt_mul, zI_c (by omega) (by omega), o32 (by omega)]
    exact z_bm (by omega) (by omega)
  exact zI_add (zI_c (by omega) (by omega)) e (by omega) (by omega)
theorem zK4n {n : Nat} (h : n < 12) : (Int32.ofInt 1238 + Int32.ofInt 4 * Int32.ofNat n).toNatClampNeg = 1238 + 4 * n := znat (by rw [zK4 h]; omega)
theorem zK4a {n m : Nat} (h : n < 12) (hm : m ≤ 3) : (Int32.ofInt 1238 + Int32.ofInt 4 * Int32.ofNat n + Int32.ofInt (m : Int)).toNatClampNeg = 1238 + 4 * n + m := znat (by rw [zI_add (zK4 h) (zI_c (by omega) (by omega)) (by omega) (by omega)]; omega)
end RLN
/-- what holds as a line begins -/
noncomputable def rB (σ : zSg) (a W : Nat) (b : Nat → Int) (E D : Nat) (l : zSs) (A N : Nat) (n : Int32) : Prop := rG σ a W b (zLt b E A) E D l ∧ σ.1 a 12 = .int (Int32.ofNat A) ∧ zBl b E A = A ∧ n = Int32.ofNat N ∧ N < 12
abbrev rI (σ' : zSg) (a W : Nat) (b : Nat → Int) (E : Nat) (l : zSs) (N : Nat) (r : Int32) (R : (Nat × Nat × Nat × zSs) ⊕ Nat) : Prop := match R with
  | .inl (A1, c, v, m) => r.toInt ≠ 0 ∧ (∃ P', P' ≤ E ∧ zBl b E P' = A1 ∧ rG σ' a W b P' E 0 (l ++ m)) ∧ σ'.1 W (1238 + 4 * N) = .int (Int32.ofNat c) ∧ σ'.1 W (1239 + 4 * N) = .int (Int32.ofNat v) ∧ σ'.1 W (1240 + 4 * N) = .int (Int32.ofNat l.length) ∧ σ'.1 W (1241 + 4 * N) = .int (Int32.ofNat (l ++ m).length)
  | .inr F => r.toInt = 0 ∧ σ'.1 a 12 = .int (Int32.ofNat F)
noncomputable def p_228 (a : Nat) (n : Int32) (σ : zSg) (r : Int32) (σ' : zSg) : Prop := ∀ W b E D l A N, rB σ a W b E D l A N n → rF3 σ σ' a W N ∧ ∃ R, GI b E A R ∧ rI σ' a W b E l N r R
noncomputable def i_228 (a : Nat) (n : Int32) (σ : zSg) (l0 : Nat) (l1 l2 : Int32) (s0 s1 : Int32) (s2 : Nat) (τ : zSg) : Prop := l0 = a ∧ l1 = n ∧ l2 = Int32.ofInt 1238 + Int32.ofInt 4 * n ∧ s1 = l2 ∧ s2 = q_r (σ.1 a 1) ∧ ∀ W b E D l A N, rB σ a W b E D l A N n → τ = σ ∧ ((s0.toInt = -1 ∧ tws b E A [wWarm, wDust, wFine] 0 = none) ∨ ∃ c, c ≤ 2 ∧ s0 = Int32.ofNat c ∧ tws b E A [wWarm, wDust, wFine] 0 = some (zBl b E (zLt b E A), c))
noncomputable def j_228 (a : Nat) (n : Int32) (σ : zSg) (l0 : Nat) (l1 l2 : Int32) (τ : zSg) : Prop := l0 = a ∧ l1 = n ∧ l2 = Int32.ofInt 1238 + Int32.ofInt 4 * n ∧ ∀ W b E D l A N, rB σ a W b E D l A N n → rF3 σ τ a W N ∧ ∃ c v A1 P2, tws b E A [wWarm, wDust, wFine] 0 = some (A1, c) ∧ tn b E 0 20 A1 = some (zBl b E P2, v) ∧ rG τ a W b P2 E D l ∧ τ.1 W (1238 + 4 * N) = .int (Int32.ofNat c) ∧ τ.1 W (1239 + 4 * N) = .int (Int32.ofNat v)
noncomputable def k_228 (a : Nat) (n : Int32) (σ : zSg) (l0 : Nat) (l1 l2 : Int32) (τ : zSg) : Prop := l0 = a ∧ l1 = n ∧ l2 = Int32.ofInt 1238 + Int32.ofInt 4 * n ∧ ∀ W b E D l A N, rB σ a W b E D l A N n → rF3 σ τ a W N ∧ ∃ c v m P2, GI b E A (.inl (zBl b E P2, c, v, m)) ∧ rG τ a W b P2 E 0 (l ++ m) ∧ τ.1 W (1238 + 4 * N) = .int (Int32.ofNat c) ∧ τ.1 W (1239 + 4 * N) = .int (Int32.ofNat v) ∧ τ.1 W (1240 + 4 * N) = .int (Int32.ofNat l.length)
theorem sp_228_ettt (a0 : Nat) (a1 : Int32) (σ : zSg) (τ1 : zSg) (r1 : Int32) (τ3 : zSg) (r3 : Int32) (τ5 : zSg) (r5 : Int32) (g1 : p_204 a0 (zB + 66) σ r1 τ1) (h2 : r1.toInt = (0 : Int)) (g3 : p_204 a0 (zB + 44) τ1 r3 τ3) (h4 : r3.toInt = (0 : Int)) (g5 : p_204 a0 (zB + 54) τ3 r5 τ5) (h6 : r5.toInt = (0 : Int)) :
    i_228 a0 a1 σ a0 a1 ((Int32.ofInt (1238)) + ((Int32.ofInt (4)) * a1)) (Int32.ofInt (-1)) ((Int32.ofInt (1238)) + ((Int32.ofInt (4)) * a1)) (q_r (σ.1 a0 1)) τ5 := by
  refine ⟨rfl, rfl, rfl, rfl, rfl, fun W b E D l A N H => ?_⟩
  obtain ⟨H0, t12, hA, -, -⟩ := H
  obtain ⟨rfl, u0, v0⟩ := H0.wd t12 g1 qsi_66 (by decide)
  obtain ⟨rfl, u1, v1⟩ := H0.wd t12 g3 qsi_44 (by decide)
  obtain ⟨rfl, u2, v2⟩ := H0.wd t12 g5 qsi_54 (by decide)
  have e0 := v0 h2
  have e1 := v1 h4
  have e2 := v2 h6
  exact ⟨rfl, Or.inl ⟨by decide, by simp only [tws, e0, e1, e2]⟩⟩
theorem sp_228_ettf (a0 : Nat) (a1 : Int32) (σ : zSg) (τ1 : zSg) (r1 : Int32) (τ3 : zSg) (r3 : Int32) (τ5 : zSg) (r5 : Int32) (g1 : p_204 a0 (zB + 66) σ r1 τ1) (h2 : r1.toInt = (0 : Int)) (g3 : p_204 a0 (zB + 44) τ1 r3 τ3) (h4 : r3.toInt = (0 : Int)) (g5 : p_204 a0 (zB + 54) τ3 r5 τ5) (h6 : r5.toInt ≠ (0 : Int)) :
    i_228 a0 a1 σ a0 a1 ((Int32.ofInt (1238)) + ((Int32.ofInt (4)) * a1)) (Int32.ofInt (2)) ((Int32.ofInt (1238)) + ((Int32.ofInt (4)) * a1)) (q_r (σ.1 a0 1)) τ5 := by
  refine ⟨rfl, rfl, rfl, rfl, rfl, fun W b E D l A N H => ?_⟩
  obtain ⟨H0, t12, hA, -, -⟩ := H
  obtain ⟨rfl, u0, v0⟩ := H0.wd t12 g1 qsi_66 (by decide)
  obtain ⟨rfl, u1, v1⟩ := H0.wd t12 g3 qsi_44 (by decide)
  obtain ⟨rfl, u2, v2⟩ := H0.wd t12 g5 qsi_54 (by decide)
  have e0 := v0 h2
  have e1 := v1 h4
  have e2 := (u2 h6).2
  exact ⟨rfl, Or.inr ⟨2, by omega, rfl, by simp only [tws, e0, e1, e2]⟩⟩
theorem sp_228_etf (a0 : Nat) (a1 : Int32) (σ : zSg) (τ1 : zSg) (r1 : Int32) (τ3 : zSg) (r3 : Int32) (g1 : p_204 a0 (zB + 66) σ r1 τ1) (h2 : r1.toInt = (0 : Int)) (g3 : p_204 a0 (zB + 44) τ1 r3 τ3) (h4 : r3.toInt ≠ (0 : Int)) :
    i_228 a0 a1 σ a0 a1 ((Int32.ofInt (1238)) + ((Int32.ofInt (4)) * a1)) (Int32.ofInt (1)) ((Int32.ofInt (1238)) + ((Int32.ofInt (4)) * a1)) (q_r (σ.1 a0 1)) τ3 := by
  refine ⟨rfl, rfl, rfl, rfl, rfl, fun W b E D l A N H => ?_⟩
  obtain ⟨H0, t12, hA, -, -⟩ := H
  obtain ⟨rfl, u0, v0⟩ := H0.wd t12 g1 qsi_66 (by decide)
  obtain ⟨rfl, u1, v1⟩ := H0.wd t12 g3 qsi_44 (by decide)
  have e0 := v0 h2
  have e1 := (u1 h4).2
  exact ⟨rfl, Or.inr ⟨1, by omega, rfl, by simp only [tws, e0, e1]⟩⟩
theorem sp_228_ef (a0 : Nat) (a1 : Int32) (σ : zSg) (τ1 : zSg) (r1 : Int32) (g1 : p_204 a0 (zB + 66) σ r1 τ1) (h2 : r1.toInt ≠ (0 : Int)) :
    i_228 a0 a1 σ a0 a1 ((Int32.ofInt (1238)) + ((Int32.ofInt (4)) * a1)) (Int32.ofInt (0)) ((Int32.ofInt (1238)) + ((Int32.ofInt (4)) * a1)) (q_r (σ.1 a0 1)) τ1 := by
  refine ⟨rfl, rfl, rfl, rfl, rfl, fun W b E D l A N H => ?_⟩
  obtain ⟨H0, t12, hA, -, -⟩ := H
  obtain ⟨rfl, u0, v0⟩ := H0.wd t12 g1 qsi_66 (by decide)
  have e0 := (u0 h2).2
  exact ⟨rfl, Or.inr ⟨0, by omega, rfl, by simp only [tws, e0]⟩⟩
theorem sp_228_c28_tt (a0 : Nat) (a1 : Int32) (σ : zSg) (l0 : Nat) (l1 : Int32) (l2 : Int32) (s0 : Int32) (s1 : Int32) (s2 : Nat) (τ : zSg) (τ10 : zSg) (r10 : Int32) (hI : i_228 a0 a1 σ l0 l1 l2 s0 s1 s2 τ) (h7 : 0 ≤ s1.toInt ∧ s1.toInt < (τ.2.1 s2 : Int)) (h8 : 0 ≤ l2.toInt ∧ l2.toInt < ((q_w τ s2 s1.toNatClampNeg (.int s0)).2.1 (q_r ((q_w τ s2 s1.toNatClampNeg (.int s0)).1 l0 1)) : Int)) (h9 : (q_i ((q_w τ s2 s1.toNatClampNeg (.int s0)).1 (q_r ((q_w τ s2 s1.toNatClampNeg (.int s0)).1 l0 1)) l2.toNatClampNeg)).toInt ≥ (0 : Int)) (g10 : p_207 l0 (Int32.ofInt (0)) (Int32.ofInt (20)) (q_w τ s2 s1.toNatClampNeg (.int s0)) r10 τ10) (h11 : 0 ≤ (l2 + (Int32.ofInt (1))).toInt ∧ (l2 + (Int32.ofInt (1))).toInt < (τ10.2.1 (q_r ((q_w τ s2 s1.toNatClampNeg (.int s0)).1 l0 1)) : Int)) (h12 : 0 ≤ (l2 + (Int32.ofInt (1))).toInt ∧ (l2 + (Int32.ofInt (1))).toInt < ((q_w τ10 (q_r ((q_w τ s2 s1.toNatClampNeg (.int s0)).1 l0 1)) (l2 + (Int32.ofInt (1))).toNatClampNeg (.int r10)).2.1 (q_r ((q_w τ10 (q_r ((q_w τ s2 s1.toNatClampNeg (.int s0)).1 l0 1)) (l2 + (Int32.ofInt (1))).toNatClampNeg (.int r10)).1 l0 1)) : Int)) (h13 : (q_i ((q_w τ10 (q_r ((q_w τ s2 s1.toNatClampNeg (.int s0)).1 l0 1)) (l2 + (Int32.ofInt (1))).toNatClampNeg (.int r10)).1 (q_r ((q_w τ10 (q_r ((q_w τ s2 s1.toNatClampNeg (.int s0)).1 l0 1)) (l2 + (Int32.ofInt (1))).toNatClampNeg (.int r10)).1 l0 1)) (l2 + (Int32.ofInt (1))).toNatClampNeg)).toInt ≥ (0 : Int)) :
    j_228 a0 a1 σ l0 l1 l2 (q_w τ10 (q_r ((q_w τ s2 s1.toNatClampNeg (.int s0)).1 l0 1)) (l2 + (Int32.ofInt (1))).toNatClampNeg (.int r10)) := by
  obtain ⟨rfl, rfl, rfl, rfl, rfl, G⟩ := hI
  refine ⟨rfl, rfl, rfl, fun W b E D l A N H => ?_⟩
  obtain ⟨rfl, hs⟩ := G W b E D l A N H
  obtain ⟨H0, t12, hA, rfl, hN⟩ := id H
  have hW := H0.2.2.2.1
  have q1 : q_r (τ.1 l0 1) = W := by rw [H0.2.2.1]; rfl
  have k0 := zK4n hN
  have H1 : rG (q_w τ W (1238 + 4 * N) (.int s0)) l0 W b (zLt b E A) E D l := H0.ww (by omega)
  have r1 : q_r ((q_w τ W (1238 + 4 * N) (.int s0)).1 l0 1) = W := by rw [H1.2.2.1]; rfl
  simp only [q1, k0, r1] at h9 ⊢
  rw [q_w_at] at h9
  have kd : s0.toInt ≥ 0 := h9
  have k1 : (Int32.ofInt 1238 + Int32.ofInt 4 * Int32.ofNat N + Int32.ofInt 1).toNatClampNeg = 1239 + 4 * N := (zK4a hN (m := 1) (by omega)).trans (by omega)
  simp only [q1, k0] at g10
  have g9 := g10 _ E H1.1
  rw [H1.2.1] at g9
  obtain ⟨g8, rfl⟩ := g9
  have c0 : (Int32.ofInt 0).toInt = 0 := rfl
  have c20 : (Int32.ofInt 20).toInt = 20 := rfl
  rw [c0, c20] at g8
  have H2x := H1.rs (K := zDe b E (zBl b E (zLt b E A))) (Q := zBl b E (zLt b E A)) (zRn_le H1.bl)
  have H3x := H2x.ww (k := 1239 + 4 * N) (v := .int r10) (by omega)
  have r3 : q_r ((q_w (q_rs (q_w τ W (1238 + 4 * N) (.int s0)) l0 (zDe b E (zBl b E (zLt b E A))) (zBl b E (zLt b E A))) W (1239 + 4 * N) (.int r10)).1 l0 1) = W := by rw [H3x.2.2.1]; rfl
  simp only [q1, k0, r1, k1, r3] at h13 ⊢
  rw [q_w_at] at h13
  have av : (r10).toInt ≥ 0 := h13
  have f9 : rF3 τ (q_w (q_rs (q_w τ W (1238 + 4 * N) (.int s0)) l0 (zDe b E (zBl b E (zLt b E A))) (zBl b E (zLt b E A))) W (1239 + 4 * N) (.int r10)) l0 W N := ((rF3.ww (by omega)).tr (rF3.of rF.rs)).tr (rF3.ww (by omega))
  rcases hs with ⟨h9, -⟩ | ⟨c, hc, rfl, ht⟩
  · omega
  have hn : tn b E 0 20 (zBl b E (zLt b E A)) = some (zBl b E (zDe b E (zBl b E (zLt b E A))), (zNm b E 0 20 (zBl b E (zLt b E A))).toNat) := by
    unfold tn
    rw [if_pos (by omega)]
  have hv := zNm_ge (b := b) (E := E) (lo := 0) (hi := 20) (A := zBl b E (zLt b E A)) (by omega)
  have er : r10 = Int32.ofNat (zNm b E 0 20 (zBl b E (zLt b E A))).toNat := by
    refine Int32.toInt_inj.mp ?_
    rw [g8, Int32.toInt_ofNat_of_lt (by omega)]
    omega
  refine ⟨f9, c, _, _, _, ht, hn, H3x, ?_, ?_⟩
  · rw [q_w_ne (fun _ q => by omega), (rF.rs (W := W)).at hW (by omega), q_w_at]
  · rw [q_w_at, er]
theorem sp_228_c28_tf (a0 : Nat) (a1 : Int32) (σ : zSg) (l0 : Nat) (l1 : Int32) (l2 : Int32) (s0 : Int32) (s1 : Int32) (s2 : Nat) (τ : zSg) (τ10 : zSg) (r10 : Int32) (hI : i_228 a0 a1 σ l0 l1 l2 s0 s1 s2 τ) (h7 : 0 ≤ s1.toInt ∧ s1.toInt < (τ.2.1 s2 : Int)) (h8 : 0 ≤ l2.toInt ∧ l2.toInt < ((q_w τ s2 s1.toNatClampNeg (.int s0)).2.1 (q_r ((q_w τ s2 s1.toNatClampNeg (.int s0)).1 l0 1)) : Int)) (h9 : (q_i ((q_w τ s2 s1.toNatClampNeg (.int s0)).1 (q_r ((q_w τ s2 s1.toNatClampNeg (.int s0)).1 l0 1)) l2.toNatClampNeg)).toInt ≥ (0 : Int)) (g10 : p_207 l0 (Int32.ofInt (0)) (Int32.ofInt (20)) (q_w τ s2 s1.toNatClampNeg (.int s0)) r10 τ10) (h11 : 0 ≤ (l2 + (Int32.ofInt (1))).toInt ∧ (l2 + (Int32.ofInt (1))).toInt < (τ10.2.1 (q_r ((q_w τ s2 s1.toNatClampNeg (.int s0)).1 l0 1)) : Int)) (h12 : 0 ≤ (l2 + (Int32.ofInt (1))).toInt ∧ (l2 + (Int32.ofInt (1))).toInt < ((q_w τ10 (q_r ((q_w τ s2 s1.toNatClampNeg (.int s0)).1 l0 1)) (l2 + (Int32.ofInt (1))).toNatClampNeg (.int r10)).2.1 (q_r ((q_w τ10 (q_r ((q_w τ s2 s1.toNatClampNeg (.int s0)).1 l0 1)) (l2 + (Int32.ofInt (1))).toNatClampNeg (.int r10)).1 l0 1)) : Int)) (h13 : (q_i ((q_w τ10 (q_r ((q_w τ s2 s1.toNatClampNeg (.int s0)).1 l0 1)) (l2 + (Int32.ofInt (1))).toNatClampNeg (.int r10)).1 (q_r ((q_w τ10 (q_r ((q_w τ s2 s1.toNatClampNeg (.int s0)).1 l0 1)) (l2 + (Int32.ofInt (1))).toNatClampNeg (.int r10)).1 l0 1)) (l2 + (Int32.ofInt (1))).toNatClampNeg)).toInt < (0 : Int)) :
    p_228 (a0) (a1) σ (Int32.ofInt (0)) (q_w τ10 (q_r ((q_w τ s2 s1.toNatClampNeg (.int s0)).1 l0 1)) (l2 + (Int32.ofInt (1))).toNatClampNeg (.int r10)) := by
  obtain ⟨rfl, rfl, rfl, rfl, rfl, G⟩ := hI
  intro W b E D l A N H
  obtain ⟨rfl, hs⟩ := G W b E D l A N H
  obtain ⟨H0, t12, hA, rfl, hN⟩ := id H
  have hW := H0.2.2.2.1
  have q1 : q_r (τ.1 l0 1) = W := by rw [H0.2.2.1]; rfl
  have k0 := zK4n hN
  have H1 : rG (q_w τ W (1238 + 4 * N) (.int s0)) l0 W b (zLt b E A) E D l := H0.ww (by omega)
  have r1 : q_r ((q_w τ W (1238 + 4 * N) (.int s0)).1 l0 1) = W := by rw [H1.2.2.1]; rfl
  simp only [q1, k0, r1] at h9 ⊢
  rw [q_w_at] at h9
  have kd : s0.toInt ≥ 0 := h9
  have k1 : (Int32.ofInt 1238 + Int32.ofInt 4 * Int32.ofNat N + Int32.ofInt 1).toNatClampNeg = 1239 + 4 * N := (zK4a hN (m := 1) (by omega)).trans (by omega)
  simp only [q1, k0] at g10
  have g9 := g10 _ E H1.1
  rw [H1.2.1] at g9
  obtain ⟨g8, rfl⟩ := g9
  have c0 : (Int32.ofInt 0).toInt = 0 := rfl
  have c20 : (Int32.ofInt 20).toInt = 20 := rfl
  rw [c0, c20] at g8
  have H2x := H1.rs (K := zDe b E (zBl b E (zLt b E A))) (Q := zBl b E (zLt b E A)) (zRn_le H1.bl)
  have H3x := H2x.ww (k := 1239 + 4 * N) (v := .int r10) (by omega)
  have r3 : q_r ((q_w (q_rs (q_w τ W (1238 + 4 * N) (.int s0)) l0 (zDe b E (zBl b E (zLt b E A))) (zBl b E (zLt b E A))) W (1239 + 4 * N) (.int r10)).1 l0 1) = W := by rw [H3x.2.2.1]; rfl
  simp only [q1, k0, r1, k1, r3] at h13 ⊢
  rw [q_w_at] at h13
  have av : (r10).toInt < 0 := h13
  have f9 : rF3 τ (q_w (q_rs (q_w τ W (1238 + 4 * N) (.int s0)) l0 (zDe b E (zBl b E (zLt b E A))) (zBl b E (zLt b E A))) W (1239 + 4 * N) (.int r10)) l0 W N := ((rF3.ww (by omega)).tr (rF3.of rF.rs)).tr (rF3.ww (by omega))
  rcases hs with ⟨h9, -⟩ | ⟨c, hc, rfl, ht⟩
  · omega
  have hn : tn b E 0 20 (zBl b E (zLt b E A)) = none := by
    unfold tn
    rw [if_neg (by omega)]
  refine ⟨f9, _, GI.n0 ht hn, rfl, ?_⟩
  rw [q_w_ne (fun q _ => hW q.symm)]
  exact q_rs_12
theorem sp_228_c28_f (a0 : Nat) (a1 : Int32) (σ : zSg) (l0 : Nat) (l1 : Int32) (l2 : Int32) (s0 : Int32) (s1 : Int32) (s2 : Nat) (τ : zSg) (hI : i_228 a0 a1 σ l0 l1 l2 s0 s1 s2 τ) (h7 : 0 ≤ s1.toInt ∧ s1.toInt < (τ.2.1 s2 : Int)) (h8 : 0 ≤ l2.toInt ∧ l2.toInt < ((q_w τ s2 s1.toNatClampNeg (.int s0)).2.1 (q_r ((q_w τ s2 s1.toNatClampNeg (.int s0)).1 l0 1)) : Int)) (h9 : (q_i ((q_w τ s2 s1.toNatClampNeg (.int s0)).1 (q_r ((q_w τ s2 s1.toNatClampNeg (.int s0)).1 l0 1)) l2.toNatClampNeg)).toInt < (0 : Int)) :
    p_228 (a0) (a1) σ (Int32.ofInt (0)) (q_w τ s2 s1.toNatClampNeg (.int s0)) := by
  obtain ⟨rfl, rfl, rfl, rfl, rfl, G⟩ := hI
  intro W b E D l A N H
  obtain ⟨rfl, hs⟩ := G W b E D l A N H
  obtain ⟨H0, t12, hA, rfl, hN⟩ := id H
  have hW := H0.2.2.2.1
  have q1 : q_r (τ.1 l0 1) = W := by rw [H0.2.2.1]; rfl
  have k0 := zK4n hN
  have H1 : rG (q_w τ W (1238 + 4 * N) (.int s0)) l0 W b (zLt b E A) E D l := H0.ww (by omega)
  have r1 : q_r ((q_w τ W (1238 + 4 * N) (.int s0)).1 l0 1) = W := by rw [H1.2.2.1]; rfl
  simp only [q1, k0, r1] at h9 ⊢
  rw [q_w_at] at h9
  have kd : s0.toInt < 0 := h9
  rcases hs with ⟨h9, ht⟩ | ⟨c, hc, rfl, ht⟩
  · exact ⟨rF3.ww (by omega), _, GI.k0 ht, rfl, by rw [q_w_ne (fun q _ => hW q.symm)]; exact t12⟩
  · rw [o32 (by omega)] at kd
    omega
theorem sp_228_c55_t (a0 : Nat) (a1 : Int32) (σ : zSg) (l0 : Nat) (l1 : Int32) (l2 : Int32) (τ : zSg) (τ15 : zSg) (r15 : Int32) (hI : j_228 a0 a1 σ l0 l1 l2 τ) (h14 : 0 ≤ (l2 + (Int32.ofInt (2))).toInt ∧ (l2 + (Int32.ofInt (2))).toInt < (τ.2.1 (q_r (τ.1 l0 1)) : Int)) (g15 : p_205 l0 (zB + 67) (q_w (q_w τ (q_r (τ.1 l0 1)) (l2 + (Int32.ofInt (2))).toNatClampNeg (.int (q_i (τ.1 l0 16)))) l0 13 (.int (Int32.ofInt (0)))) r15 τ15) (h16 : r15.toInt = (0 : Int)) :
    k_228 a0 a1 σ l0 l1 l2 τ15 := by
  obtain ⟨rfl, rfl, rfl, G⟩ := hI
  refine ⟨rfl, rfl, rfl, fun W b E D l A N H => ?_⟩
  obtain ⟨f1, c, v, A1, P2, ht, hn, H1, w0, w1⟩ := G W b E D l A N H
  obtain ⟨-, -, -, rfl, hN⟩ := id H
  have hW := H1.2.2.2.1
  have q1 : q_r (τ.1 l0 1) = W := by rw [H1.2.2.1]; rfl
  have q16 : q_i (τ.1 l0 16) = Int32.ofNat l.length := by rw [H1.2.2.2.2.2.2.2.2.1]; rfl
  have k2 : (Int32.ofInt 1238 + Int32.ofInt 4 * Int32.ofNat N + Int32.ofInt 2).toNatClampNeg = 1240 + 4 * N := (zK4a hN (m := 2) (by omega)).trans (by omega)
  simp only [q1, q16, k2] at g15
  have H2x := (H1.ww (k := 1240 + 4 * N) (v := .int (Int32.ofNat l.length)) (by omega)).dp (K := 0) (by omega)
  have f2 : rF3 τ (q_w (q_w τ W (1240 + 4 * N) (.int (Int32.ofNat l.length))) l0 13 (.int (Int32.ofNat 0))) l0 W N := (rF3.ww (by omega)).tr (rF3.of (rF.w (by omega)))
  have x0 : (q_w (q_w τ W (1240 + 4 * N) (.int (Int32.ofNat l.length))) l0 13 (.int (Int32.ofNat 0))).1 W (1238 + 4 * N) = .int (Int32.ofNat c) := by
    rw [q_w_ne (fun q _ => hW q), q_w_ne (fun _ q => by omega)]; exact w0
  have x1 : (q_w (q_w τ W (1240 + 4 * N) (.int (Int32.ofNat l.length))) l0 13 (.int (Int32.ofNat 0))).1 W (1239 + 4 * N) = .int (Int32.ofNat v) := by
    rw [q_w_ne (fun q _ => hW q), q_w_ne (fun _ q => by omega)]; exact w1
  have x2 : (q_w (q_w τ W (1240 + 4 * N) (.int (Int32.ofNat l.length))) l0 13 (.int (Int32.ofNat 0))).1 W (1240 + 4 * N) = .int (Int32.ofNat l.length) := by
    rw [q_w_ne (fun q _ => hW q), q_w_at]
  obtain ⟨f3, -, u, z⟩ := H2x.ps g15 qsi_67 (by decide)
  obtain ⟨e1, H3x⟩ := z h16
  refine ⟨(f1.tr f2).tr (rF3.of f3), c, v, [], zBl b E P2, ?_, ?_, ?_, ?_, ?_⟩
  · rw [zBl_bl]; exact GI.plain ht hn e1
  · rw [List.append_nil]; exact H3x
  · rw [f3.at hW (by omega)]; exact x0
  · rw [f3.at hW (by omega)]; exact x1
  · rw [f3.at hW (by omega)]; exact x2
theorem sp_228_c55_ft (a0 : Nat) (a1 : Int32) (σ : zSg) (l0 : Nat) (l1 : Int32) (l2 : Int32) (τ : zSg) (τ15 : zSg) (r15 : Int32) (τ17 : zSg) (r17 : Int32) (hI : j_228 a0 a1 σ l0 l1 l2 τ) (h14 : 0 ≤ (l2 + (Int32.ofInt (2))).toInt ∧ (l2 + (Int32.ofInt (2))).toInt < (τ.2.1 (q_r (τ.1 l0 1)) : Int)) (g15 : p_205 l0 (zB + 67) (q_w (q_w τ (q_r (τ.1 l0 1)) (l2 + (Int32.ofInt (2))).toNatClampNeg (.int (q_i (τ.1 l0 16)))) l0 13 (.int (Int32.ofInt (0)))) r15 τ15) (h16 : r15.toInt ≠ (0 : Int)) (g17 : p_227 l0 τ15 r17 τ17) (h18 : r17.toInt ≠ (0 : Int)) :
    k_228 a0 a1 σ l0 l1 l2 τ17 := by
  obtain ⟨rfl, rfl, rfl, G⟩ := hI
  refine ⟨rfl, rfl, rfl, fun W b E D l A N H => ?_⟩
  obtain ⟨f1, c, v, A1, P2, ht, hn, H1, w0, w1⟩ := G W b E D l A N H
  obtain ⟨-, -, -, rfl, hN⟩ := id H
  have hW := H1.2.2.2.1
  have q1 : q_r (τ.1 l0 1) = W := by rw [H1.2.2.1]; rfl
  have q16 : q_i (τ.1 l0 16) = Int32.ofNat l.length := by rw [H1.2.2.2.2.2.2.2.2.1]; rfl
  have k2 : (Int32.ofInt 1238 + Int32.ofInt 4 * Int32.ofNat N + Int32.ofInt 2).toNatClampNeg = 1240 + 4 * N := (zK4a hN (m := 2) (by omega)).trans (by omega)
  simp only [q1, q16, k2] at g15
  have H2x := (H1.ww (k := 1240 + 4 * N) (v := .int (Int32.ofNat l.length)) (by omega)).dp (K := 0) (by omega)
  have f2 : rF3 τ (q_w (q_w τ W (1240 + 4 * N) (.int (Int32.ofNat l.length))) l0 13 (.int (Int32.ofNat 0))) l0 W N := (rF3.ww (by omega)).tr (rF3.of (rF.w (by omega)))
  have x0 : (q_w (q_w τ W (1240 + 4 * N) (.int (Int32.ofNat l.length))) l0 13 (.int (Int32.ofNat 0))).1 W (1238 + 4 * N) = .int (Int32.ofNat c) := by
    rw [q_w_ne (fun q _ => hW q), q_w_ne (fun _ q => by omega)]; exact w0
  have x1 : (q_w (q_w τ W (1240 + 4 * N) (.int (Int32.ofNat l.length))) l0 13 (.int (Int32.ofNat 0))).1 W (1239 + 4 * N) = .int (Int32.ofNat v) := by
    rw [q_w_ne (fun q _ => hW q), q_w_ne (fun _ q => by omega)]; exact w1
  have x2 : (q_w (q_w τ W (1240 + 4 * N) (.int (Int32.ofNat l.length))) l0 13 (.int (Int32.ofNat 0))).1 W (1240 + 4 * N) = .int (Int32.ofNat l.length) := by
    rw [q_w_ne (fun q _ => hW q), q_w_at]
  obtain ⟨f3, -, u, z⟩ := H2x.ps g15 qsi_67 (by decide)
  obtain ⟨e1, H3x⟩ := u h16
  obtain ⟨f4, R, g1, g2⟩ := g17 W b _ E _ _ H3x
  cases R with
  | inr F => exact absurd g2.1 h18
  | inl q =>
    obtain ⟨A4, m⟩ := q
    obtain ⟨-, P4, p4, rfl, H4x⟩ := g2
    refine ⟨(f1.tr f2).tr (rF3.of (f3.tr f4)), c, v, m, P4, GI.if1 ht hn e1 g1, H4x, ?_, ?_, ?_⟩
    · rw [(f3.tr f4).at hW (by omega)]; exact x0
    · rw [(f3.tr f4).at hW (by omega)]; exact x1
    · rw [(f3.tr f4).at hW (by omega)]; exact x2
theorem sp_228_c55_ff (a0 : Nat) (a1 : Int32) (σ : zSg) (l0 : Nat) (l1 : Int32) (l2 : Int32) (τ : zSg) (τ15 : zSg) (r15 : Int32) (τ17 : zSg) (r17 : Int32) (hI : j_228 a0 a1 σ l0 l1 l2 τ) (h14 : 0 ≤ (l2 + (Int32.ofInt (2))).toInt ∧ (l2 + (Int32.ofInt (2))).toInt < (τ.2.1 (q_r (τ.1 l0 1)) : Int)) (g15 : p_205 l0 (zB + 67) (q_w (q_w τ (q_r (τ.1 l0 1)) (l2 + (Int32.ofInt (2))).toNatClampNeg (.int (q_i (τ.1 l0 16)))) l0 13 (.int (Int32.ofInt (0)))) r15 τ15) (h16 : r15.toInt ≠ (0 : Int)) (g17 : p_227 l0 τ15 r17 τ17) (h18 : r17.toInt = (0 : Int)) :
    p_228 (a0) (a1) σ (Int32.ofInt (0)) τ17 := by
  obtain ⟨rfl, rfl, rfl, G⟩ := hI
  intro W b E D l A N H
  obtain ⟨f1, c, v, A1, P2, ht, hn, H1, w0, w1⟩ := G W b E D l A N H
  obtain ⟨-, -, -, rfl, hN⟩ := id H
  have hW := H1.2.2.2.1
  have q1 : q_r (τ.1 l0 1) = W := by rw [H1.2.2.1]; rfl
  have q16 : q_i (τ.1 l0 16) = Int32.ofNat l.length := by rw [H1.2.2.2.2.2.2.2.2.1]; rfl
  have k2 : (Int32.ofInt 1238 + Int32.ofInt 4 * Int32.ofNat N + Int32.ofInt 2).toNatClampNeg = 1240 + 4 * N := (zK4a hN (m := 2) (by omega)).trans (by omega)
  simp only [q1, q16, k2] at g15
  have H2x := (H1.ww (k := 1240 + 4 * N) (v := .int (Int32.ofNat l.length)) (by omega)).dp (K := 0) (by omega)
  have f2 : rF3 τ (q_w (q_w τ W (1240 + 4 * N) (.int (Int32.ofNat l.length))) l0 13 (.int (Int32.ofNat 0))) l0 W N := (rF3.ww (by omega)).tr (rF3.of (rF.w (by omega)))
  have x0 : (q_w (q_w τ W (1240 + 4 * N) (.int (Int32.ofNat l.length))) l0 13 (.int (Int32.ofNat 0))).1 W (1238 + 4 * N) = .int (Int32.ofNat c) := by
    rw [q_w_ne (fun q _ => hW q), q_w_ne (fun _ q => by omega)]; exact w0
  have x1 : (q_w (q_w τ W (1240 + 4 * N) (.int (Int32.ofNat l.length))) l0 13 (.int (Int32.ofNat 0))).1 W (1239 + 4 * N) = .int (Int32.ofNat v) := by
    rw [q_w_ne (fun q _ => hW q), q_w_ne (fun _ q => by omega)]; exact w1
  have x2 : (q_w (q_w τ W (1240 + 4 * N) (.int (Int32.ofNat l.length))) l0 13 (.int (Int32.ofNat 0))).1 W (1240 + 4 * N) = .int (Int32.ofNat l.length) := by
    rw [q_w_ne (fun q _ => hW q), q_w_at]
  obtain ⟨f3, -, u, z⟩ := H2x.ps g15 qsi_67 (by decide)
  obtain ⟨e1, H3x⟩ := u h16
  obtain ⟨f4, R, g1, g2⟩ := g17 W b _ E _ _ H3x
  cases R with
  | inl q => exact absurd h18 g2.1
  | inr F => exact ⟨(f1.tr f2).tr (rF3.of (f3.tr f4)), _, GI.if0 ht hn e1 g1, rfl, g2.2⟩
theorem sp_228_c75_ (a0 : Nat) (a1 : Int32) (σ : zSg) (l0 : Nat) (l1 : Int32) (l2 : Int32) (τ : zSg) (hI : k_228 a0 a1 σ l0 l1 l2 τ) (h19 : 0 ≤ (l2 + (Int32.ofInt (3))).toInt ∧ (l2 + (Int32.ofInt (3))).toInt < (τ.2.1 (q_r (τ.1 l0 1)) : Int)) :
    p_228 (a0) (a1) σ (Int32.ofInt (1)) (q_w τ (q_r (τ.1 l0 1)) (l2 + (Int32.ofInt (3))).toNatClampNeg (.int (q_i (τ.1 l0 16)))) := by
  obtain ⟨rfl, rfl, rfl, G⟩ := hI
  intro W b E D l A N H
  obtain ⟨f1, c, v, m, P2, hg, H1, w0, w1, w2⟩ := G W b E D l A N H
  obtain ⟨-, -, -, rfl, hN⟩ := id H
  have hW := H1.2.2.2.1
  have q1 : q_r (τ.1 l0 1) = W := by rw [H1.2.2.1]; rfl
  have q16 : q_i (τ.1 l0 16) = Int32.ofNat (l ++ m).length := by rw [H1.2.2.2.2.2.2.2.2.1]; rfl
  have k3 : (Int32.ofInt 1238 + Int32.ofInt 4 * Int32.ofNat N + Int32.ofInt 3).toNatClampNeg = 1241 + 4 * N := (zK4a hN (m := 3) (by omega)).trans (by omega)
  simp only [q1, q16, k3]
  refine ⟨f1.tr (rF3.ww (by omega)), _, hg, by decide, ⟨P2, H1.le.1, rfl, H1.ww (by omega)⟩, ?_, ?_, ?_, q_w_at _ _ _ _⟩
  · rw [q_w_ne (fun _ q => by omega)]; exact w0
  · rw [q_w_ne (fun _ q => by omega)]; exact w1
  · rw [q_w_ne (fun _ q => by omega)]; exact w2
noncomputable def qP_228 : zPp := fun as σ o σ' => match as with
  | [a0, a1] => ∃ r, o = .inl (some (.int r)) ∧ p_228 (q_r a0) (q_i a1) σ r σ'
  | _ => True
set_option maxRecDepth 100000 in
theorem sp_228 {sx : zX} (S204 : zEe sx 204 2 qP_204) (S207 : zEe sx 207 3 qP_207) (S205 : zEe sx 205 2 qP_205) (S227 : zEe sx 227 1 qP_227) : zEe sx 228 2 qP_228 := by
  refine zfle zJ_228 (sps := [(204, 2, qP_204), (207, 3, qP_207), (205, 2, qP_205), (227, 1, qP_227)]) (fun q hq => by
    simp only [List.mem_cons, List.not_mem_nil, or_false] at hq
    rcases hq with rfl | rfl | rfl | rfl
    · exact S204
    · exact S207
    · exact S205
    · exact S227) (fun as σ hl => ?_)
  match as, hl with
  | [a0, a1], _ =>
  refine ⟨[(28, fun lo st τ => ∃ s0, ∃ s1, ∃ s2, st = [.int s0, .int s1, .ref s2] ∧ i_228 (q_r a0) (q_i a1) σ (q_r (lo 0)) (q_i (lo 1)) (q_i (lo 2)) s0 s1 s2 τ), (55, fun lo st τ => st = [] ∧ j_228 (q_r a0) (q_i a1) σ (q_r (lo 0)) (q_i (lo 1)) (q_i (lo 2)) τ), (75, fun lo st τ => st = [] ∧ k_228 (q_r a0) (q_i a1) σ (q_r (lo 0)) (q_i (lo 1)) (q_i (lo 2)) τ)], 400, ?_, ?_⟩
  · intro q hq
    simp only [List.mem_cons, List.not_mem_nil, or_false] at hq
    rcases hq with rfl | rfl | rfl
    · rintro lo st τ ⟨s0, s1, s2, rfl, hI⟩
      refine ⟨400, ?_⟩
      refine fun h7 => ?_
      refine fun h8 => ?_
      refine And.intro (fun h9 => ?_) (fun h9 => ?_)
      · refine fun o10 τ10 g10 => ?_
        obtain ⟨r10, rfl, g10⟩ := g10
        refine fun h11 => ?_
        refine fun h12 => ?_
        refine And.intro (fun h13 => ?_) (fun h13 => ?_)
        · exact ⟨rfl, sp_228_c28_tt (q_r a0) (q_i a1) σ (q_r (lo 0)) (q_i (lo 1)) (q_i (lo 2)) s0 s1 s2 τ τ10 r10 hI (q_inp h7) (q_inp h8) (cm3t h9) g10 (q_inp h11) (q_inp h12) (cm3t h13)⟩
        · exact ⟨_, rfl, sp_228_c28_tf (q_r a0) (q_i a1) σ (q_r (lo 0)) (q_i (lo 1)) (q_i (lo 2)) s0 s1 s2 τ τ10 r10 hI (q_inp h7) (q_inp h8) (cm3t h9) g10 (q_inp h11) (q_inp h12) (cm3f h13)⟩
      · exact ⟨_, rfl, sp_228_c28_f (q_r a0) (q_i a1) σ (q_r (lo 0)) (q_i (lo 1)) (q_i (lo 2)) s0 s1 s2 τ hI (q_inp h7) (q_inp h8) (cm3f h9)⟩
    · rintro lo st τ ⟨rfl, hI⟩
      refine ⟨400, ?_⟩
      refine fun h14 => ?_
      refine fun o15 τ15 g15 => ?_
      obtain ⟨r15, rfl, g15⟩ := g15
      refine And.intro (fun h16 => ?_) (fun h16 => ?_)
      · exact ⟨rfl, sp_228_c55_t (q_r a0) (q_i a1) σ (q_r (lo 0)) (q_i (lo 1)) (q_i (lo 2)) τ τ15 r15 hI (q_inp h14) g15 (cm0t h16)⟩
      · refine fun o17 τ17 g17 => ?_
        obtain ⟨r17, rfl, g17⟩ := g17
        refine And.intro (fun h18 => ?_) (fun h18 => ?_)
        · exact ⟨rfl, sp_228_c55_ft (q_r a0) (q_i a1) σ (q_r (lo 0)) (q_i (lo 1)) (q_i (lo 2)) τ τ15 r15 τ17 r17 hI (q_inp h14) g15 (cm0f h16) g17 (cm1t h18)⟩
        · exact ⟨_, rfl, sp_228_c55_ff (q_r a0) (q_i a1) σ (q_r (lo 0)) (q_i (lo 1)) (q_i (lo 2)) τ τ15 r15 τ17 r17 hI (q_inp h14) g15 (cm0f h16) g17 (cm1f h18)⟩
    · rintro lo st τ ⟨rfl, hI⟩
      refine ⟨400, ?_⟩
      refine fun h19 => ?_
      exact ⟨_, rfl, sp_228_c75_ (q_r a0) (q_i a1) σ (q_r (lo 0)) (q_i (lo 1)) (q_i (lo 2)) τ hI (q_inp h19)⟩
  · refine fun o1 τ1 g1 => ?_
    obtain ⟨r1, rfl, g1⟩ := g1
    refine And.intro (fun h2 => ?_) (fun h2 => ?_)
    · refine fun o3 τ3 g3 => ?_
      obtain ⟨r3, rfl, g3⟩ := g3
      refine And.intro (fun h4 => ?_) (fun h4 => ?_)
      · refine fun o5 τ5 g5 => ?_
        obtain ⟨r5, rfl, g5⟩ := g5
        refine And.intro (fun h6 => ?_) (fun h6 => ?_)
        · exact ⟨_, _, _, rfl, sp_228_ettt (q_r a0) (q_i a1) σ τ1 r1 τ3 r3 τ5 r5 g1 (cm0t h2) g3 (cm0t h4) g5 (cm0t h6)⟩
        · exact ⟨_, _, _, rfl, sp_228_ettf (q_r a0) (q_i a1) σ τ1 r1 τ3 r3 τ5 r5 g1 (cm0t h2) g3 (cm0t h4) g5 (cm0f h6)⟩
      · exact ⟨_, _, _, rfl, sp_228_etf (q_r a0) (q_i a1) σ τ1 r1 τ3 r3 g1 (cm0t h2) g3 (cm0f h4)⟩
    · exact ⟨_, _, _, rfl, sp_228_ef (q_r a0) (q_i a1) σ τ1 r1 g1 (cm0f h2)⟩
end
section
/-! A HOUSE AS A ROW OF INTS (in the reference's own order), and THE GRAMMAR of a deed's text: what each line tells, or the wrong place -/
noncomputable def aU (A : Nat → Int32) (k : Nat) (v : Int32) : Nat → Int32 := fun i => if i = k then v else A i
noncomputable def btb (x k : Int32) : Bool := decide (((x >>> (k &&& 31)) &&& Int32.ofInt 1).toInt = 1)
/-- the hours from one to another as bits -/
noncomputable def hBn (f n : Nat) : Int32 := (List.range n).foldl (fun b i => b ||| (Int32.ofInt 1 <<< (Int32.ofNat ((f + i) % 24) &&& 31))) (Int32.ofInt 0)
noncomputable def hB (f t : Nat) : Int32 := hBn f ((t + 24 - f) % 24 + 1)
theorem hBn_s (f n : Nat) : hBn f (n + 1) = hBn f n ||| (Int32.ofInt 1 <<< (Int32.ofNat ((f + n) % 24) &&& 31)) := by
  unfold hBn
  rw [List.range_succ, List.foldl_append]
  rfl
theorem hB_ge_all : (List.range 24).all (fun f => (List.range 24).all (fun t => decide (0 ≤ (hB f t).toInt))) = true := by decide +kernel
theorem hB_ge {f t : Nat} (hf : f < 24) (ht : t < 24) : 0 ≤ (hB f t).toInt := of_decide_eq_true (List.all_eq_true.mp (List.all_eq_true.mp hB_ge_all f (List.mem_range.mpr hf)) t (List.mem_range.mpr ht))
noncomputable def wPurse : List Int := [112, 117, 114, 115, 101]
noncomputable def wStove : List Int := [115, 116, 111, 118, 101]
noncomputable def wHours : List Int := [104, 111, 117, 114, 115]
noncomputable def wWishes : List Int := [119, 105, 115, 104, 101, 115]
noncomputable def wTo : List Int := [116, 111]
noncomputable def wFree : List Int := [102, 114, 101, 101]
noncomputable def wThing : List Int := [116, 104, 105, 110, 103]
noncomputable def wBulk : List Int := [98, 117, 108, 107]
noncomputable def wCold : List Int := [99, 111, 108, 100]
noncomputable def wPrice : List Int := [112, 114, 105, 99, 101]
noncomputable def wGuests : List Int := [103, 117, 101, 115, 116, 115]
abbrev dOp : Type := Nat × (Nat × Nat × Nat) × Int32 × Int32
section DGR
variable (b : Nat → Int) (E : Nat)
noncomputable def dH (A : Nat) : (Nat × Int32) ⊕ Nat := match tn b E 0 23 A with
  | none => .inr A
  | some (A1, f) => (match tw b E wTo A1 with
    | none => .inr A1
    | some A2 => (match tn b E 0 23 A2 with
      | none => .inr A2
      | some (A3, t) => .inl (A3, hB f t)))
noncomputable def dAf (s : List Int) (lo hi : Int) (A : Nat) : (Nat × Nat) ⊕ Nat := match tw b E s A with
  | none => .inr A
  | some A1 => (match tn b E lo hi A1 with
    | none => .inr A1
    | some (A2, v) => .inl (A2, v))
noncomputable def dOh (s : List Int) (A : Nat) : (Nat × Int32) ⊕ Nat := match tw b E s A with
  | none => .inl (A, 0)
  | some A1 => dH b E A1
noncomputable def dFam (A : Nat) : (Nat × dOp) ⊕ Nat := match dAf b E wPurse 0 999 A with
  | .inr F => .inr F
  | .inl (A1, p) => (match dAf b E wDust 0 9 A1 with
    | .inr F => .inr F
    | .inl (A2, d) => (match dAf b E wStove 0 9 A2 with
      | .inr F => .inr F
      | .inl (A3, s) => (match dOh b E wHours A3 with
        | .inr F => .inr F
        | .inl (A4, q) => (match dOh b E wWishes A4 with
          | .inr F => .inr F
          | .inl (A5, w) => .inl (A5, (0, (p, d, s), q, w))))))
noncomputable def dHf (nf A : Nat) : (Nat × Nat × Int32) ⊕ Nat := match tn b E 0 ((nf : Int) - 1) A with
  | none => .inr A
  | some (A1, f) => (match dH b E A1 with
    | .inr F => .inr F
    | .inl (A2, q) => .inl (A2, f, q))
noncomputable def dTh (nf A : Nat) : (Nat × dOp) ⊕ Nat := match tn b E 0 ((nf : Int) - 1) A with
  | none => .inr A
  | some (A1, f) => (match dAf b E wBulk 1 9 A1 with
    | .inr F => .inr F
    | .inl (A2, v) => (match tw b E wLeft A2 with
      | some A3 => .inl (A3, (3, (f, v, 1), 0, 0))
      | none => .inl (A2, (3, (f, v, 0), 0, 0))))
noncomputable def dSt (k : Nat) (hi : Int) (A : Nat) : (Nat × dOp) ⊕ Nat := match tn b E 0 hi A with
  | none => .inr A
  | some (A1, v) => .inl (A1, (5, (k, v, 0), 0, 0))
noncomputable def dLk (nf nt A A1 : Nat) : Nat → (Nat × dOp) ⊕ Nat
  | 0 => if nf = 6 then .inr A else dFam b E A1
  | 1 => (match dHf b E nf A1 with
    | .inr F => .inr F
    | .inl (A2, f, q) => .inl (A2, (1, (f, 0, 0), q, 0)))
  | 2 => (match dH b E A1 with
    | .inr F => .inr F
    | .inl (A2, q) => .inl (A2, (2, (0, 0, 0), q, 0)))
  | 3 => if nt = 8 then .inr A else dTh b E nf A1
  | 4 => (match dHf b E nf A1 with
    | .inr F => .inr F
    | .inl (A2, f, q) => .inl (A2, (4, (f, 0, 0), 0, q)))
  | 5 => dSt b E 10 9 A1
  | 6 => dSt b E 11 20 A1
  | 7 => dSt b E 12 99 A1
  | 8 => dSt b E 13 100 A1
  | _ => dSt b E 4 23 A1
noncomputable def dWs : List (List Int) := [wFamily, wHours, wFree, wThing, wWishes, wCold, wFine, wPrice, wGuests, wHour]
noncomputable def dLine (nf nt A : Nat) : (Nat × dOp) ⊕ Nat := match tws b E A dWs 0 with
  | none => .inr A
  | some (A1, c) => dLk b E nf nt A A1 c
/-- how many families, things a line brings -/
noncomputable def dF1 (o : dOp) : Nat := if o.1 = 0 then 1 else 0
noncomputable def dT1 (o : dOp) : Nat := if o.1 = 3 then 1 else 0
noncomputable def dText : Nat → Nat → Nat → Nat → List dOp → List dOp ⊕ Nat
  | 0, _, _, A, _ => .inr A
  | n + 1, nf, nt, A, os => match dLine b E nf nt A with
    | .inr F => .inr F
    | .inl (A1, o) => if A1 = E then .inl (os ++ [o]) else (match ts b E 59 A1 with
      | none => .inr A1
      | some A2 => dText n (nf + dF1 o) (nt + dT1 o) A2 (os ++ [o]))
noncomputable def dDeed (nf nt : Nat) : List dOp ⊕ Nat := if zBl b E 0 = E then .inl [] else dText b E 14 nf nt (zBl b E 0) []
end DGR
/-! what a line does to a house -/
noncomputable def dG (A : Nat → Int32) (q f : Int32) : Nat → Int32 := fun k => if 16 ≤ k ∧ k < 40 ∧ btb q (Int32.ofNat (k - 16)) = true then f else A k
theorem aU_at {A : Nat → Int32} {k : Nat} {v : Int32} : aU A k v k = v := if_pos rfl
theorem aU_ne {A : Nat → Int32} {k i : Nat} {v : Int32} (h : i ≠ k) : aU A k v i = A i := if_neg h
theorem dG_ne {A : Nat → Int32} {q f : Int32} {k : Nat} (h : ¬ (16 ≤ k ∧ k < 40)) : dG A q f k = A k := if_neg (fun e => h ⟨e.1, e.2.1⟩)
noncomputable def dApp (nf nt : Nat) (A : Nat → Int32) (o : dOp) : Nat → Int32 := match o with
  | (0, (p, d, s), q, w) => aU (dG (aU (aU (aU (aU A (40 + 4 * nf) (Int32.ofNat p)) (41 + 4 * nf) (Int32.ofNat d)) (42 + 4 * nf) (Int32.ofNat s)) (43 + 4 * nf) w) q (Int32.ofNat nf)) 0 (Int32.ofNat (nf + 1))
  | (1, (f, _, _), q, _) => dG A q (Int32.ofNat f)
  | (2, _, q, _) => dG A q (Int32.ofInt (-1))
  | (3, (f, v, l), _, _) => aU (aU (aU (aU A (64 + 3 * nt) (Int32.ofNat f)) (65 + 3 * nt) (Int32.ofNat v)) (66 + 3 * nt) (Int32.ofNat l)) 1 (Int32.ofNat (nt + 1))
  | (4, (f, _, _), _, w) => aU A (43 + 4 * f) (A (43 + 4 * f) ||| w)
  | (5, (k, v, _), _, _) => aU A k (Int32.ofNat v)
  | _ => A
noncomputable def dApps : List dOp → Nat → Nat → (Nat → Int32) → (Nat → Int32)
  | [], _, _, A => A
  | o :: r, nf, nt, A => dApps r (nf + dF1 o) (nt + dT1 o) (dApp nf nt A o)
noncomputable def dFs : List dOp → Nat
  | [] => 0
  | o :: r => dF1 o + dFs r
noncomputable def dTs : List dOp → Nat
  | [] => 0
  | o :: r => dT1 o + dTs r
theorem dFs_app : ∀ (l m : List dOp), dFs (l ++ m) = dFs l + dFs m
  | [], m => by rw [List.nil_append]; show _ = 0 + _; omega
  | o :: r, m => by
    show dF1 o + dFs (r ++ m) = dF1 o + dFs r + dFs m
    rw [dFs_app r m]
    omega
theorem dTs_app : ∀ (l m : List dOp), dTs (l ++ m) = dTs l + dTs m
  | [], m => by rw [List.nil_append]; show _ = 0 + _; omega
  | o :: r, m => by
    show dT1 o + dTs (r ++ m) = dT1 o + dTs r + dTs m
    rw [dTs_app r m]
    omega
theorem dApps_app : ∀ (l m : List dOp) (nf nt : Nat) (A : Nat → Int32), dApps (l ++ m) nf nt A = dApps m (nf + dFs l) (nt + dTs l) (dApps l nf nt A)
  | [], m, nf, nt, A => rfl
  | o :: r, m, nf, nt, A => by
    show dApps (r ++ m) (nf + dF1 o) (nt + dT1 o) (dApp nf nt A o) = dApps m (nf + (dF1 o + dFs r)) (nt + (dT1 o + dTs r)) (dApps r (nf + dF1 o) (nt + dT1 o) (dApp nf nt A o))
    rw [dApps_app r m, Nat.add_assoc, Nat.add_assoc]
/-! words exclude each other -/
theorem zWa.uniq {b : Nat → Int} {E A : Nat} {s s' : List Int} (h : zWa b E s A) (h' : zWa b E s' A) : s = s' := by
  obtain ⟨h1, h2⟩ := h
  obtain ⟨g1, g2⟩ := h'
  have hl : s.length = s'.length := by omega
  refine List.ext_getElem hl (fun k p q => ?_)
  have e1 := h2 k p
  have e2 := g2 k q
  rw [List.getD_eq_getElem?_getD, List.getElem?_eq_getElem p] at e1
  rw [List.getD_eq_getElem?_getD, List.getElem?_eq_getElem q] at e2
  exact (e1.symm.trans e2)
theorem tw_ex {b : Nat → Int} {E A A1 : Nat} {s s' : List Int} (h : tw b E s A = some A1) (hn : s ≠ s') : tw b E s' A = none := tw_neg (fun h' => hn ((tw_some h).uniq h'))
theorem tws_at {b : Nat → Int} {E A A1 : Nat} {s : List Int} (h : tw b E s A = some A1) : ∀ (l : List (List Int)) (i c : Nat), l[i]? = some s → (∀ k, k < i → l[k]? ≠ some s) → tws b E A l c = some (A1, c + i)
  | [], i, c, hi, _ => by cases hi
  | w :: r, 0, c, hi, _ => by
    have hi : w = s := Option.some.inj hi
    unfold tws
    rw [hi, h]
    rfl
  | w :: r, i + 1, c, hi, hk => by
    have h0 : tw b E w A = none := tw_ex h (fun e => hk 0 (by omega) (by rw [e]; rfl))
    unfold tws
    rw [h0]
    dsimp only
    rw [tws_at h r i (c + 1) hi (fun k hki e => hk (k + 1) (by omega) e)]
    exact congrArg some (Prod.ext rfl (by omega))
theorem tws_none {b : Nat → Int} {E A : Nat} : ∀ (l : List (List Int)) (c : Nat), (∀ s ∈ l, tw b E s A = none) → tws b E A l c = none
  | [], _, _ => rfl
  | w :: r, c, h => by
    unfold tws
    rw [h w List.mem_cons_self]
    exact tws_none r (c + 1) (fun s hs => h s (List.mem_cons_of_mem _ hs))
theorem dLine_at {b : Nat → Int} {E A A1 nf nt : Nat} {s : List Int} (i : Nat) (h : tw b E s A = some A1) (hi : dWs[i]? = some s) (hk : ∀ k, k < i → dWs[k]? ≠ some s) : dLine b E nf nt A = dLk b E nf nt A A1 i := by
  unfold dLine
  rw [tws_at h dWs i 0 hi hk, Nat.zero_add]
theorem dLine_no {b : Nat → Int} {E A nf nt : Nat} (h : ∀ s ∈ dWs, tw b E s A = none) : dLine b E nf nt A = .inr A := by
  unfold dLine
  rw [tws_none dWs 0 h]
theorem dLk_0 {b : Nat → Int} {E nf nt A A1 : Nat} : dLk b E nf nt A A1 0 = if nf = 6 then .inr A else dFam b E A1 := rfl
theorem dLk_3 {b : Nat → Int} {E nf nt A A1 : Nat} : dLk b E nf nt A A1 3 = if nt = 8 then .inr A else dTh b E nf A1 := rfl
theorem dLk_5 {b : Nat → Int} {E nf nt A A1 : Nat} : dLk b E nf nt A A1 5 = dSt b E 10 9 A1 := rfl
theorem dLk_6 {b : Nat → Int} {E nf nt A A1 : Nat} : dLk b E nf nt A A1 6 = dSt b E 11 20 A1 := rfl
theorem dLk_7 {b : Nat → Int} {E nf nt A A1 : Nat} : dLk b E nf nt A A1 7 = dSt b E 12 99 A1 := rfl
theorem dLk_8 {b : Nat → Int} {E nf nt A A1 : Nat} : dLk b E nf nt A A1 8 = dSt b E 13 100 A1 := rfl
theorem dLk_9 {b : Nat → Int} {E nf nt A A1 : Nat} : dLk b E nf nt A A1 9 = dSt b E 4 23 A1 := rfl
end
section
/-! what a line tells is within its bounds; counts of families and things -/
theorem tn_rg {b : Nat → Int} {E A A1 v : Nat} {lo hi : Int} (h : tn b E lo hi A = some (A1, v)) : lo ≤ (v : Int) ∧ (v : Int) ≤ hi ∧ v ≤ 1110 := by
  unfold tn at h
  split at h
  · next h0 =>
    have h1 := (Prod.mk.inj (Option.some.inj h)).2
    have hv := zNm_ge (b := b) (E := E) (lo := lo) (hi := hi) (A := A) (by omega)
    have hz : lo ≤ zNm b E lo hi A ∧ zNm b E lo hi A ≤ hi := by
      unfold zNm at h0 ⊢
      split
      · next q => exact ⟨q.2.2.1, q.2.2.2⟩
      · next q => rw [if_neg q] at h0; omega
    omega
  · cases h
noncomputable def dOK (nf nt : Nat) (o : dOp) : Prop := match o with
  | (0, (p, d, s), _, _) => nf < 6 ∧ p ≤ 999 ∧ d ≤ 9 ∧ s ≤ 9
  | (1, (f, _, _), _, _) => f < nf
  | (2, _, _, _) => True
  | (3, (f, v, l), _, _) => nt < 8 ∧ f < nf ∧ 1 ≤ v ∧ v ≤ 9 ∧ l ≤ 1
  | (4, (f, _, _), _, _) => f < nf
  | (5, (k, v, _), _, _) => (k = 4 ∧ v ≤ 23) ∨ (k = 10 ∧ v ≤ 9) ∨ (k = 11 ∧ v ≤ 20) ∨ (k = 12 ∧ v ≤ 99) ∨ (k = 13 ∧ v ≤ 100)
  | _ => False
theorem dAf_rg {b : Nat → Int} {E A A1 v : Nat} {lo hi : Int} {s : List Int} (h : dAf b E s lo hi A = .inl (A1, v)) : lo ≤ (v : Int) ∧ (v : Int) ≤ hi := by
  unfold dAf at h
  split at h
  · cases h
  · next A2 h1 =>
    split at h
    · cases h
    · next A3 v3 h2 =>
      have h3 := (Prod.mk.inj (Sum.inl.inj h)).2
      have := tn_rg h2
      omega
theorem dHf_rg {b : Nat → Int} {E nf A A1 f : Nat} {q : Int32} (h : dHf b E nf A = .inl (A1, f, q)) : f < nf := by
  unfold dHf at h
  split at h
  · cases h
  · next A2 v h1 =>
    have := tn_rg h1
    split at h
    · cases h
    · next A3 q3 h2 =>
      have h3 := (Prod.mk.inj (Prod.mk.inj (Sum.inl.inj h)).2).1
      omega
theorem dSt_ok {b : Nat → Int} {E nf nt k A A1 : Nat} {hi : Int} {o : dOp} (h : dSt b E k hi A = .inl (A1, o)) (hk : (k = 4 ∧ hi ≤ 23) ∨ (k = 10 ∧ hi ≤ 9) ∨ (k = 11 ∧ hi ≤ 20) ∨ (k = 12 ∧ hi ≤ 99) ∨ (k = 13 ∧ hi ≤ 100)) : dOK nf nt o := by
  unfold dSt at h
  split at h
  · cases h
  · next A2 v h1 =>
    have := tn_rg h1
    cases h
    show (k = 4 ∧ v ≤ 23) ∨ (k = 10 ∧ v ≤ 9) ∨ (k = 11 ∧ v ≤ 20) ∨ (k = 12 ∧ v ≤ 99) ∨ (k = 13 ∧ v ≤ 100)
    omega
theorem dLk_ok {b : Nat → Int} {E nf nt A A1 A2 c : Nat} {o : dOp} (hf : nf ≤ 6) (ht : nt ≤ 8) (h : dLk b E nf nt A A1 c = .inl (A2, o)) : dOK nf nt o := by
  unfold dLk at h
  split at h
  · split at h
    · cases h
    · next hn =>
      unfold dFam at h
      split at h
      · cases h
      · next B1 p e1 =>
        split at h
        · cases h
        · next B2 d e2 =>
          split at h
          · cases h
          · next B3 s e3 =>
            split at h
            · cases h
            · split at h
              · cases h
              · cases h
                have g1 := dAf_rg e1
                have g2 := dAf_rg e2
                have g3 := dAf_rg e3
                show nf < 6 ∧ p ≤ 999 ∧ d ≤ 9 ∧ s ≤ 9
                omega
  · split at h
    · cases h
    · next B1 f q e1 =>
      cases h
      exact dHf_rg e1
  · split at h
    · cases h
    · cases h
      trivial
  · split at h
    · cases h
    · next hn =>
      unfold dTh at h
      split at h
      · cases h
      · next B1 f e1 =>
        have g1 := tn_rg e1
        split at h
        · cases h
        · next B2 v e2 =>
          have g2 := dAf_rg e2
          split at h
          · cases h
            show nt < 8 ∧ f < nf ∧ 1 ≤ v ∧ v ≤ 9 ∧ 1 ≤ 1
            omega
          · cases h
            show nt < 8 ∧ f < nf ∧ 1 ≤ v ∧ v ≤ 9 ∧ 0 ≤ 1
            omega
  · split at h
    · cases h
    · next B1 f q e1 =>
      cases h
      exact dHf_rg e1
  · exact dSt_ok h (by omega)
  · exact dSt_ok h (by omega)
  · exact dSt_ok h (by omega)
  · exact dSt_ok h (by omega)
  · exact dSt_ok h (by omega)
theorem dLine_ok {b : Nat → Int} {E nf nt A A2 : Nat} {o : dOp} (hf : nf ≤ 6) (ht : nt ≤ 8) (h : dLine b E nf nt A = .inl (A2, o)) : dOK nf nt o := by
  unfold dLine at h
  split at h
  · cases h
  · exact dLk_ok hf ht h
/-- the kinds of lines, one by one -/
theorem dOK.cs {nf nt : Nat} {o : dOp} (h : dOK nf nt o) : (∃ p d s q w, o = (0, (p, d, s), q, w) ∧ nf < 6 ∧ p ≤ 999 ∧ d ≤ 9 ∧ s ≤ 9) ∨ (∃ f x y q w, o = (1, (f, x, y), q, w) ∧ f < nf) ∨ (∃ x q w, o = (2, x, q, w)) ∨ (∃ f v l q w, o = (3, (f, v, l), q, w) ∧ nt < 8 ∧ f < nf ∧ 1 ≤ v ∧ v ≤ 9 ∧ l ≤ 1) ∨ (∃ f x y q w, o = (4, (f, x, y), q, w) ∧ f < nf) ∨ (∃ k v x q w, o = (5, (k, v, x), q, w) ∧ ((k = 4 ∧ v ≤ 23) ∨ (k = 10 ∧ v ≤ 9) ∨ (k = 11 ∧ v ≤ 20) ∨ (k = 12 ∧ v ≤ 99) ∨ (k = 13 ∧ v ≤ 100))) := by
  obtain ⟨c, ⟨x, y, z⟩, q, w⟩ := o
  match c, h with
  | 0, h => exact Or.inl ⟨x, y, z, q, w, rfl, h⟩
  | 1, h => exact Or.inr (Or.inl ⟨x, y, z, q, w, rfl, h⟩)
  | 2, h => exact Or.inr (Or.inr (Or.inl ⟨(x, y, z), q, w, rfl⟩))
  | 3, h => exact Or.inr (Or.inr (Or.inr (Or.inl ⟨x, y, z, q, w, rfl, h⟩)))
  | 4, h => exact Or.inr (Or.inr (Or.inr (Or.inr (Or.inl ⟨x, y, z, q, w, rfl, h⟩))))
  | 5, h => exact Or.inr (Or.inr (Or.inr (Or.inr (Or.inr ⟨x, y, z, q, w, rfl, h⟩))))
  | n + 6, h => exact h.elim
theorem dApp_01 {nf nt : Nat} {o : dOp} {A : Nat → Int32} (h : dOK nf nt o) (h0 : A 0 = Int32.ofNat nf) (h1 : A 1 = Int32.ofNat nt) : dApp nf nt A o 0 = Int32.ofNat (nf + dF1 o) ∧ dApp nf nt A o 1 = Int32.ofNat (nt + dT1 o) ∧ nf + dF1 o ≤ max 6 nf ∧ nt + dT1 o ≤ max 8 nt := by
  rcases h.cs with ⟨p, d, s, q, w, rfl, h9, -⟩ | ⟨f, x, y, q, w, rfl, h9⟩ | ⟨x, q, w, rfl⟩ | ⟨f, v, l, q, w, rfl, h9, h8, -⟩ | ⟨f, x, y, q, w, rfl, h9⟩ | ⟨k, v, x, q, w, rfl, h9⟩
  · refine ⟨rfl, ?_, ?_, ?_⟩
    · show aU (dG _ q _) 0 _ 1 = Int32.ofNat (nt + 0)
      rw [aU_ne (by omega), dG_ne (by omega), aU_ne (by omega), aU_ne (by omega), aU_ne (by omega), aU_ne (by omega)]
      exact h1
    · show nf + 1 ≤ _; omega
    · show nt + 0 ≤ _; omega
  · refine ⟨?_, ?_, ?_, ?_⟩
    · show dG A q _ 0 = Int32.ofNat (nf + 0); unfold dG; rw [if_neg (by omega)]; exact h0
    · show dG A q _ 1 = Int32.ofNat (nt + 0); unfold dG; rw [if_neg (by omega)]; exact h1
    · show nf + 0 ≤ _; omega
    · show nt + 0 ≤ _; omega
  · refine ⟨?_, ?_, ?_, ?_⟩
    · show dG A q _ 0 = Int32.ofNat (nf + 0); unfold dG; rw [if_neg (by omega)]; exact h0
    · show dG A q _ 1 = Int32.ofNat (nt + 0); unfold dG; rw [if_neg (by omega)]; exact h1
    · show nf + 0 ≤ _; omega
    · show nt + 0 ≤ _; omega
  · refine ⟨?_, rfl, ?_, ?_⟩
    · show aU (aU (aU (aU A _ _) _ _) _ _) 1 _ 0 = Int32.ofNat (nf + 0)
      rw [aU_ne (by omega), aU_ne (by omega), aU_ne (by omega), aU_ne (by omega)]
      exact h0
    · show nf + 0 ≤ _; omega
    · show nt + 1 ≤ _; omega
  · refine ⟨?_, ?_, ?_, ?_⟩
    · show aU A _ _ 0 = Int32.ofNat (nf + 0); unfold aU; rw [if_neg (by omega)]; exact h0
    · show aU A _ _ 1 = Int32.ofNat (nt + 0); unfold aU; rw [if_neg (by omega)]; exact h1
    · show nf + 0 ≤ _; omega
    · show nt + 0 ≤ _; omega
  · refine ⟨?_, ?_, ?_, ?_⟩
    · show aU A k _ 0 = Int32.ofNat (nf + 0); unfold aU; rw [if_neg (by omega)]; exact h0
    · show aU A k _ 1 = Int32.ofNat (nt + 0); unfold aU; rw [if_neg (by omega)]; exact h1
    · show nf + 0 ≤ _; omega
    · show nt + 0 ≤ _; omega
/-- a line changes nothing behind the things, nor texts, nor whether there is a law -/
theorem dApp_ne {nf nt k : Nat} {o : dOp} {A : Nat → Int32} (h : dOK nf nt o) (hf : nf ≤ 6) (hk : 88 ≤ k ∨ k = 2 ∨ k = 3 ∨ (5 ≤ k ∧ k ≤ 9) ∨ k = 14 ∨ k = 15) : dApp nf nt A o k = A k := by
  rcases h.cs with ⟨p, d, s, q, w, rfl, h9, -⟩ | ⟨f, x, y, q, w, rfl, h9⟩ | ⟨x, q, w, rfl⟩ | ⟨f, v, l, q, w, rfl, h9, h8, -⟩ | ⟨f, x, y, q, w, rfl, h9⟩ | ⟨i, v, x, q, w, rfl, h9⟩
  · show aU (dG (aU (aU (aU (aU A _ _) _ _) _ _) _ _) q _) 0 _ k = _
    rw [aU_ne (by omega), dG_ne (by omega), aU_ne (by omega), aU_ne (by omega), aU_ne (by omega), aU_ne (by omega)]
  · show dG A q _ k = _; unfold dG; rw [if_neg (by omega)]
  · show dG A q _ k = _; unfold dG; rw [if_neg (by omega)]
  · show aU (aU (aU (aU A _ _) _ _) _ _) 1 _ k = _
    rw [aU_ne (by omega), aU_ne (by omega), aU_ne (by omega), aU_ne (by omega)]
  · show aU A _ _ k = _; unfold aU; rw [if_neg (by omega)]
  · show aU A i _ k = _; unfold aU; rw [if_neg (by omega)]
/-- all lines of a right text are within their bounds -/
noncomputable def dOKs : List dOp → Nat → Nat → Prop
  | [], _, _ => True
  | o :: r, nf, nt => dOK nf nt o ∧ dOKs r (nf + dF1 o) (nt + dT1 o)
theorem dOK.le {nf nt : Nat} {o : dOp} (h : dOK nf nt o) (hf : nf ≤ 6) (ht : nt ≤ 8) : nf + dF1 o ≤ 6 ∧ nt + dT1 o ≤ 8 := by
  rcases h.cs with ⟨p, d, s, q, w, rfl, h9, -⟩ | ⟨f, x, y, q, w, rfl, h9⟩ | ⟨x, q, w, rfl⟩ | ⟨f, v, l, q, w, rfl, h9, h8, -⟩ | ⟨f, x, y, q, w, rfl, h9⟩ | ⟨k, v, x, q, w, rfl, h9⟩
  · exact ⟨by show nf + 1 ≤ 6; omega, ht⟩
  · exact ⟨hf, ht⟩
  · exact ⟨hf, ht⟩
  · exact ⟨hf, by show nt + 1 ≤ 8; omega⟩
  · exact ⟨hf, ht⟩
  · exact ⟨hf, ht⟩
theorem dText_ok {b : Nat → Int} {E : Nat} : ∀ (n nf nt A : Nat) (os rs : List dOp), nf ≤ 6 → nt ≤ 8 → dText b E n nf nt A os = .inl rs → ∃ r, rs = os ++ r ∧ dOKs r nf nt
  | 0, _, _, _, _, _, _, _, h => by cases h
  | n + 1, nf, nt, A, os, rs, hf, ht, h => by
    unfold dText at h
    cases h1 : dLine b E nf nt A with
    | inr F => rw [h1] at h; cases h
    | inl q =>
      obtain ⟨A1, o⟩ := q
      rw [h1] at h
      dsimp only at h
      have ho := dLine_ok hf ht h1
      by_cases h2 : A1 = E
      · rw [if_pos h2] at h
        cases h
        exact ⟨[o], rfl, ho, trivial⟩
      · rw [if_neg h2] at h
        cases h3 : ts b E 59 A1 with
        | none => rw [h3] at h; cases h
        | some A2 =>
          rw [h3] at h
          dsimp only at h
          obtain ⟨r, e, hr⟩ := dText_ok n _ _ A2 (os ++ [o]) rs (ho.le hf ht).1 (ho.le hf ht).2 h
          exact ⟨o :: r, by rw [e, List.append_assoc]; rfl, ho, hr⟩
theorem dDeed_ok {b : Nat → Int} {E nf nt : Nat} {os : List dOp} (h : dDeed b E nf nt = .inl os) (hf : nf ≤ 6) (ht : nt ≤ 8) : dOKs os nf nt := by
  unfold dDeed at h
  by_cases h1 : zBl b E 0 = E
  · rw [if_pos h1] at h
    cases h
    trivial
  · rw [if_neg h1] at h
    obtain ⟨r, e, hr⟩ := dText_ok 14 nf nt _ [] os hf ht h
    rw [e]
    exact hr
theorem dOKs.ne {k : Nat} : ∀ (os : List dOp) (nf nt : Nat) (A : Nat → Int32), dOKs os nf nt → nf ≤ 6 → nt ≤ 8 → (88 ≤ k ∨ k = 2 ∨ k = 3 ∨ (5 ≤ k ∧ k ≤ 9) ∨ k = 14 ∨ k = 15) → dApps os nf nt A k = A k
  | [], _, _, _, _, _, _, _ => rfl
  | o :: r, nf, nt, A, h, hf, ht, hk => by
    show dApps r (nf + dF1 o) (nt + dT1 o) (dApp nf nt A o) k = A k
    rw [dOKs.ne r _ _ _ h.2 (h.1.le hf ht).1 (h.1.le hf ht).2 hk, dApp_ne h.1 hf hk]
theorem dApps_ne {b : Nat → Int} {E nf nt k : Nat} {os : List dOp} {A : Nat → Int32} (h : dDeed b E nf nt = .inl os) (hf : nf ≤ 6) (ht : nt ≤ 8) (hk : 88 ≤ k ∨ k = 2 ∨ k = 3 ∨ (5 ≤ k ∧ k ≤ 9) ∨ k = 14 ∨ k = 15) : dApps os nf nt A k = A k := dOKs.ne os nf nt A (dDeed_ok h hf ht) hf ht hk
end
