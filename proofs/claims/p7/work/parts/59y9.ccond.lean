/-! the LawReader of the class, exact; printed with wip/gen/gen_t4.py -/
noncomputable def encT : List Int := [-1, -2, -3, -4, -5, -6, -7, -8, 0, -10, -11, -12, -9, -13, -14]
noncomputable def enc (x : Nat × Nat) : Int32 := if x.1 = 8 then Int32.ofNat x.2 else Int32.ofInt (encT.getD x.1 0)
noncomputable def cD (σ : zSg) (t r C : Nat) : Prop := r ≠ t ∧ q_r (σ.1 r 3) = C ∧ C ≠ t ∧ C ≠ r ∧ C ≠ q_r (σ.1 t 0) ∧ q_r (σ.1 t 0) ≠ r ∧ σ.2.1 C = 400
noncomputable def cG (σ : zSg) (t r C : Nat) (b : Nat → Int) (A E : Nat) (l : zSs) (s : Nat) : Prop := cS σ t A E ∧ cb σ t = b ∧ (q_i (σ.1 t 3)).toInt = -1 ∧ cD σ t r C ∧ σ.1 r 5 = .int (Int32.ofNat l.length) ∧ l.length + s ≤ A ∧ ∀ i x, l[i]? = some x → σ.1 C i = .int (enc x)
noncomputable def cX (σ : zSg) (t r C : Nat) (b : Nat → Int) (E F : Nat) : Prop := (∃ A, cS σ t A E) ∧ cb σ t = b ∧ σ.1 t 3 = .int (Int32.ofNat F) ∧ F ≤ 400 ∧ cD σ t r C
noncomputable def cF (σ σ' : zSg) (t r C : Nat) : Prop := σ'.2 = σ.2 ∧ ∀ c k, ¬ (c = t ∧ (k = 2 ∨ k = 3)) → ¬ (c = r ∧ k = 5) → c ≠ C → σ'.1 c k = σ.1 c k
noncomputable def cO (σ' : zSg) (t r C : Nat) (b : Nat → Int) (E : Nat) (l : zSs) (s : Nat) (R : zRs) : Prop := match R with
  | .inl (A1, m) => cG σ' t r C b A1 E (l ++ m) s
  | .inr F => cX σ' t r C b E F
theorem zofNat2 {n : Nat} (h : n ≤ 100000) : (Int32.ofNat n).toInt = (n : Int) := Int32.toInt_ofNat_of_lt (by omega)
section CGL
variable {σ τ υ : zSg} {t r C A E F s : Nat} {b : Nat → Int} {l : zSs}
theorem cF.rf : cF σ σ t r C := ⟨rfl, fun _ _ _ _ _ => rfl⟩
theorem cF.tr (h1 : cF σ τ t r C) (h2 : cF τ υ t r C) : cF σ υ t r C := ⟨h2.1.trans h1.1, fun c k q1 q2 q3 => (h2.2 c k q1 q2 q3).trans (h1.2 c k q1 q2 q3)⟩
theorem cF.tp {k : Nat} {v : Value} (h : k = 2 ∨ k = 3) : cF σ (q_w σ t k v) t r C := ⟨rfl, fun c i q1 _ _ => q_w_ne (fun e1 e2 => q1 ⟨e1, by omega⟩)⟩
theorem cD.tp {k : Nat} {v : Value} (H : cD σ t r C) (h : k = 2 ∨ k = 3) : cD (q_w σ t k v) t r C := by
  obtain ⟨h1, h2, h3, h4, h5, h6, h7⟩ := H
  have e : q_r ((q_w σ t k v).1 t 0) = q_r (σ.1 t 0) := by rw [q_w_ne (fun _ q => by omega)]
  refine ⟨h1, ?_, h3, h4, by rw [e]; exact h5, by rw [e]; exact h6, h7⟩
  rw [q_w_ne (fun q _ => h1 q)]
  exact h2
theorem cG.le (H : cG σ t r C b A E l s) : A ≤ E ∧ E ≤ 400 := ⟨H.1.2.2.2.1, H.1.2.2.2.2.1⟩
theorem cG.at {A1 s1 : Nat} (H : cG σ t r C b A E l s) (h : A1 ≤ E) (hs : l.length + s1 ≤ A1) : cG (q_w σ t 2 (.int (Int32.ofNat A1))) t r C b A1 E l s1 := by
  obtain ⟨h1, h2, h3, h4, h5, h6, h7⟩ := H
  refine ⟨h1.at h, (cb_w h1.1 (by omega)).trans h2, ?_, h4.tp (Or.inl rfl), ?_, hs, fun i x hx => ?_⟩
  · rw [q_w_ne (fun _ q => by omega)]; exact h3
  · rw [q_w_ne (fun q _ => h4.1 q)]; exact h5
  · rw [q_w_ne (fun q _ => h4.2.2.1 q)]; exact h7 i x hx
theorem cG.wr (H : cG σ t r C b A E l s) : cX (q_w σ t 3 (.int (Int32.ofNat A))) t r C b E A := by
  have hl := H.le
  obtain ⟨h1, h2, h3, h4, h5, h6, h7⟩ := H
  exact ⟨⟨A, h1.wr⟩, (cb_w h1.1 (by omega)).trans h2, q_w_at _ _ _ _, by omega, h4.tp (Or.inr rfl)⟩
theorem cG.wk {s1 : Nat} (H : cG σ t r C b A E l s) (h : s1 ≤ s) : cG σ t r C b A E l s1 := by
  obtain ⟨h1, h2, h3, h4, h5, h6, h7⟩ := H
  exact ⟨h1, h2, h3, h4, h5, by omega, h7⟩
theorem cX.no (H : cX σ t r C b E F) : (q_i (σ.1 t 3)).toInt ≠ -1 := by
  obtain ⟨h1, h2, h3, h4, h5⟩ := H
  rw [h3]
  show (Int32.ofNat F).toInt ≠ -1
  rw [o32 (by omega)]
  omega
theorem cX.at {A1 : Nat} (H : cX σ t r C b E F) (h : A1 ≤ E) : cX (q_w σ t 2 (.int (Int32.ofNat A1))) t r C b E F := by
  obtain ⟨⟨A, h1⟩, h2, h3, h4, h5⟩ := H
  exact ⟨⟨A1, h1.at h⟩, (cb_w h1.1 (by omega)).trans h2, by rw [q_w_ne (fun _ q => by omega)]; exact h3, h4, h5.tp (Or.inl rfl)⟩
theorem cG.sg {c x : Int32} (H : cG σ t r C b A E l s) (G : p_93 t c σ x τ) (h0 : 0 ≤ c.toInt) (h1 : c.toInt ≤ 127) : cF σ τ t r C ∧ (x.toInt ≠ 0 → ts b E c.toInt A = some (zBl b E (A + 1)) ∧ cG τ t r C b (zBl b E (A + 1)) E l (s + 1)) ∧ (x.toInt = 0 → ts b E c.toInt A = none ∧ τ = σ) := by
  have hb := H.2.1
  have := G A E H.1 h0 h1
  rw [hb] at this
  rcases this with ⟨g1, g2, g3, rfl⟩ | ⟨g1, g2, rfl⟩
  · have h9 := H.2.2.2.2.2.1
    have hg := zBl_ge (b := b) (E := E) (P := A + 1)
    refine ⟨cF.tp (Or.inl rfl), fun _ => ⟨?_, H.at (zBl_le (by omega)) (by omega)⟩, fun q => absurd q g1⟩
    unfold ts
    rw [if_pos g3]
  · refine ⟨cF.rf, fun q => absurd g1 q, fun _ => ⟨?_, rfl⟩⟩
    unfold ts
    rw [if_neg (g2 H.2.2.1)]
theorem cX.sg {c x : Int32} (H : cX σ t r C b E F) (G : p_93 t c σ x τ) (h0 : 0 ≤ c.toInt) (h1 : c.toInt ≤ 127) : x.toInt = 0 ∧ τ = σ := by
  have hn := H.no
  obtain ⟨⟨A, g1⟩, -⟩ := H
  rcases G A E g1 h0 h1 with ⟨-, g2, -⟩ | ⟨g1, -, g3⟩
  · exact absurd g2 hn
  · exact ⟨g1, g3⟩
theorem cG.ns {c : Int32} (H : cG σ t r C b A E l s) (G : p_94 t c σ τ) (h0 : 0 ≤ c.toInt) (h1 : c.toInt ≤ 127) : cF σ τ t r C ∧ (∀ A1, ts b E c.toInt A = some A1 → cG τ t r C b A1 E l (s + 1)) ∧ (ts b E c.toInt A = none → cX τ t r C b E A) := by
  have hb := H.2.1
  have h9 := H.2.2.2.2.2.1
  have hg := zBl_ge (b := b) (E := E) (P := A + 1)
  have := (G A E H.1 h0 h1).1 H.2.2.1
  rw [hb] at this
  by_cases hc : A < E ∧ b A = c.toInt
  · obtain rfl := this.1 hc
    refine ⟨cF.tp (Or.inl rfl), fun A1 q => ?_, fun q => ?_⟩
    · unfold ts at q
      rw [if_pos hc] at q
      cases q
      exact H.at (zBl_le (by omega)) (by omega)
    · unfold ts at q
      rw [if_pos hc] at q
      cases q
  · obtain rfl := this.2 hc
    refine ⟨cF.tp (Or.inr rfl), fun A1 q => ?_, fun _ => H.wr⟩
    unfold ts at q
    rw [if_neg hc] at q
    cases q
theorem cX.ns {c : Int32} (H : cX σ t r C b E F) (G : p_94 t c σ τ) (h0 : 0 ≤ c.toInt) (h1 : c.toInt ≤ 127) : τ = σ := by
  have hn := H.no
  obtain ⟨⟨A, g1⟩, -⟩ := H
  exact (G A E g1 h0 h1).2 hn
theorem cG.tk {w : Nat} {x : Int32} {z : List Int} (H : cG σ t r C b A E l s) (G : p_91 t w σ x τ) (hw : zwk w) (hz : q_si w = z) (q : Nat) (h1 : q ≤ z.length) : cF σ τ t r C ∧ (x.toInt ≠ 0 → tw b E z A = some (zBl b E (A + z.length)) ∧ cG τ t r C b (zBl b E (A + z.length)) E l (s + q)) ∧ (x.toInt = 0 → tw b E z A = none ∧ τ = σ) := by
  have hb := H.2.1
  have hl : (q_s w).length = z.length := by rw [← hz, q_si_len]
  have hA := H.le
  have := G A E H.1 hw
  rw [hb, hz, hl] at this
  rcases this with ⟨g1, g2, g3, rfl⟩ | ⟨g1, g2, rfl⟩
  · have h9 := H.2.2.2.2.2.1
    have hg := zBl_ge (b := b) (E := E) (P := A + z.length)
    have g4 : A + z.length ≤ E := by
      have h8 : zRn b E 97 122 A = A + z.length := g3.1
      rw [← h8]
      exact zRn_le hA.1
    refine ⟨cF.tp (Or.inl rfl), fun _ => ⟨?_, H.at (zBl_le g4) (by omega)⟩, fun q => absurd q g1⟩
    exact tw_pos g3
  · refine ⟨cF.rf, fun q => absurd g1 q, fun _ => ⟨?_, rfl⟩⟩
    exact tw_neg (g2 H.2.2.1)
theorem cX.tk {w : Nat} {x : Int32} (H : cX σ t r C b E F) (G : p_91 t w σ x τ) (hw : zwk w) : x.toInt = 0 ∧ τ = σ := by
  have hn := H.no
  obtain ⟨⟨A, g1⟩, -⟩ := H
  rcases G A E g1 hw with ⟨-, g2, -⟩ | ⟨g1, -, g3⟩
  · exact absurd g2 hn
  · exact ⟨g1, g3⟩
theorem cG.rf (H : cG σ t r C b A E l s) (G : p_90 t σ τ) : cF σ τ t r C ∧ cX τ t r C b E A := by
  have := G.2 H.2.2.1
  rw [H.1.2.2.1] at this
  have e : τ = q_w σ t 3 (.int (Int32.ofNat A)) := this
  subst e
  exact ⟨cF.tp (Or.inr rfl), H.wr⟩
theorem cX.rf (H : cX σ t r C b E F) (G : p_90 t σ τ) : τ = σ := G.1 H.no
theorem cG.nb {lo hi x : Int32} (H : cG σ t r C b A E l s) (G : p_96 t lo hi σ x τ) (h0 : 0 ≤ lo.toInt) : cF σ τ t r C ∧ (∀ A1 v, tn b E lo.toInt hi.toInt A = some (A1, v) → x = Int32.ofNat v ∧ cG τ t r C b A1 E l (s + 1)) ∧ (tn b E lo.toInt hi.toInt A = none → cX τ t r C b E A) := by
  have hb := H.2.1
  have hA := H.le
  have h9 := H.2.2.2.2.2.1
  have := (G A E H.1 h0).1 H.2.2.1
  rw [hb] at this
  rcases this with ⟨g1, g2, rfl⟩ | ⟨g1, g2, rfl⟩
  · have hv := zNm_ge (b := b) (E := E) (lo := lo.toInt) (hi := hi.toInt) (A := A) (by omega)
    have hd : A < zDe b E A := by
      have h8 := zRn_ge (b := b) (E := E) (lo := 48) (hi := 57) (P := A)
      have e8 : zDe b E A = zRn b E 48 57 A := rfl
      by_cases hq : zDe b E A - A = 0
      · exfalso
        unfold zNm at g1
        rw [if_neg (by omega)] at g1
        omega
      · omega
    have hg := zBl_ge (b := b) (E := E) (P := zDe b E A)
    refine ⟨cF.tp (Or.inl rfl), fun A1 v q => ?_, fun q => ?_⟩
    · unfold tn at q
      rw [if_pos g1] at q
      cases q
      refine ⟨Int32.toInt_inj.mp ?_, H.at (zBl_le (zRn_le hA.1)) (by omega)⟩
      rw [g2, zofNat2 (by omega)]
      omega
    · unfold tn at q
      rw [if_pos g1] at q
      cases q
  · refine ⟨cF.tp (Or.inr rfl), fun A1 v q => ?_, fun _ => H.wr⟩
    unfold tn at q
    rw [if_neg (by omega)] at q
    cases q
theorem cX.nb {lo hi x : Int32} (H : cX σ t r C b E F) (G : p_96 t lo hi σ x τ) (h0 : 0 ≤ lo.toInt) : cF σ τ t r C ∧ cX τ t r C b E F := by
  have hn := H.no
  obtain ⟨A, g1⟩ := H.1
  obtain ⟨-, A', h1, rfl⟩ := (G A E g1 h0).2 hn
  exact ⟨cF.tp (Or.inl rfl), H.at h1⟩
end CGL
noncomputable def p_54 (r : Nat) (x : Int32) (σ σ' : zSg) : Prop := ∀ t C b E, (∀ A l s m n, cG σ t r C b A E l (s + 1) → x = enc (m, n) → cF σ σ' t r C ∧ cG σ' t r C b A E (l ++ [(m, n)]) s) ∧ (∀ F, cX σ t r C b E F → cF σ σ' t r C ∧ cX σ' t r C b E F)
theorem cX.pw {σ : zSg} {t r C E F : Nat} {b : Nat → Int} {k : Nat} {v w : Value} (H : cX σ t r C b E F) : cF σ (q_w (q_w σ C k v) r 5 w) t r C ∧ cX (q_w (q_w σ C k v) r 5 w) t r C b E F := by
  obtain ⟨⟨A, h1⟩, h2, h3, h4, h5⟩ := H
  obtain ⟨d1, d2, d3, d4, d5, d6, d7⟩ := h5
  have go : ∀ c i, c ≠ C → ¬ (c = r ∧ i = 5) → (q_w (q_w σ C k v) r 5 w).1 c i = σ.1 c i := by
    intro c i q1 q2
    rw [q_w_ne (fun e1 e2 => q2 ⟨e1, e2⟩), q_w_ne (fun e1 _ => q1 e1)]
  have gt : ∀ i, (q_w (q_w σ C k v) r 5 w).1 t i = σ.1 t i := fun i => go t i (fun q => d3 q.symm) (fun q => d1 q.1.symm)
  have gb : cu (q_w (q_w σ C k v) r 5 w) t = cu σ t := by
    funext i
    unfold cu
    rw [gt 0, go _ _ (fun q => d5 q.symm) (fun q => d6 q.1)]
  obtain ⟨a1, a2, a3, a4, a5, a6⟩ := h1
  refine ⟨⟨rfl, fun c i q1 q2 q3 => go c i q3 q2⟩, ⟨A, ?_, ?_, ?_, a4, a5, ?_⟩, ?_, ?_, h4, d1, ?_, d3, d4, ?_, ?_, d7⟩
  · rw [gt]; exact a1
  · rw [gt]; exact a2
  · rw [gt]; exact a3
  · rw [gb]; exact a6
  · rw [← h2]
    funext i
    unfold cb
    rw [gb]
  · rw [gt]; exact h3
  · rw [go r 3 (fun q => d4 q.symm) (fun q => by omega)]; exact d2
  · rw [gt]; exact d5
  · rw [gt]; exact d6
theorem zJ_54 : zJ3 54 z_m54 z_c54 z_h54 := ⟨rfl, rfl, rfl⟩
theorem sp_54_et (a0 : Nat) (a1 : Int32) (σ : zSg) (h1 : (q_i (σ.1 a0 5)).toInt ≥ (Int32.ofNat (σ.2.1 (q_r (σ.1 a0 3)))).toInt) :
    p_54 (a0) (a1) σ σ := by
  intro t C b E
  refine ⟨fun A l s m n H hx => ?_, fun F H => ⟨cF.rf, H⟩⟩
  exfalso
  have hA := H.le
  have h6 := H.2.2.2.2.2.1
  have hC := H.2.2.2.1.2.1
  have h4 := H.2.2.2.1.2.2.2.2.2.2
  rw [H.2.2.2.2.1, hC, h4] at h1
  have h9 : (Int32.ofNat l.length).toInt ≥ (Int32.ofNat 400).toInt := h1
  rw [o32 (by omega), o32 (by omega)] at h9
  omega
theorem sp_54_ef (a0 : Nat) (a1 : Int32) (σ : zSg) (h1 : (q_i (σ.1 a0 5)).toInt < (Int32.ofNat (σ.2.1 (q_r (σ.1 a0 3)))).toInt) (h2 : 0 ≤ (q_i (σ.1 a0 5)).toInt ∧ (q_i (σ.1 a0 5)).toInt < (σ.2.1 (q_r (σ.1 a0 3)) : Int)) :
    p_54 (a0) (a1) σ (q_w (q_w σ (q_r (σ.1 a0 3)) (q_i (σ.1 a0 5)).toNatClampNeg (.int a1)) a0 5 (.int ((q_i ((q_w σ (q_r (σ.1 a0 3)) (q_i (σ.1 a0 5)).toNatClampNeg (.int a1)).1 a0 5)) + (Int32.ofInt (1))))) := by
  intro t C b E
  have r5 : ∀ v, q_r (σ.1 a0 3) = C → C ≠ a0 → (q_w σ (q_r (σ.1 a0 3)) (q_i (σ.1 a0 5)).toNatClampNeg v).1 a0 5 = σ.1 a0 5 := fun v e q => q_w_ne (fun e1 _ => q (e ▸ e1.symm))
  refine ⟨fun A l s m n H hx => ?_, fun F H => ?_⟩
  · have hA := H.le
    obtain ⟨h1, h2, h3, h4, h5, h6, h7⟩ := H
    obtain ⟨d1, d2, d3, d4, d5, d6, d7⟩ := h4
    have hl5 : q_i (σ.1 a0 5) = Int32.ofNat l.length := by rw [h5]; rfl
    rw [r5 _ d2 d4, d2, hl5, o32n (by omega), o32i (by omega), hx]
    have go : ∀ c i, c ≠ C → ¬ (c = a0 ∧ i = 5) → (q_w (q_w σ C l.length (.int (enc (m, n)))) a0 5 (.int (Int32.ofNat (l.length + 1)))).1 c i = σ.1 c i := by
      intro c i q1 q2
      rw [q_w_ne (fun e1 e2 => q2 ⟨e1, e2⟩), q_w_ne (fun e1 _ => q1 e1)]
    have gt : ∀ i, (q_w (q_w σ C l.length (.int (enc (m, n)))) a0 5 (.int (Int32.ofNat (l.length + 1)))).1 t i = σ.1 t i := fun i => go t i (fun q => d3 q.symm) (fun q => d1 q.1.symm)
    have gb : cu (q_w (q_w σ C l.length (.int (enc (m, n)))) a0 5 (.int (Int32.ofNat (l.length + 1)))) t = cu σ t := by
      funext i
      unfold cu
      rw [gt 0, go _ _ (fun q => d5 q.symm) (fun q => d6 q.1)]
    obtain ⟨a1', a2', a3', a4', a5', a6'⟩ := h1
    refine ⟨⟨rfl, fun c i q1 q2 q3 => go c i q3 q2⟩, ⟨?_, ?_, ?_, a4', a5', ?_⟩, ?_, ?_, ⟨d1, ?_, d3, d4, ?_, ?_, d7⟩, ?_, ?_, fun i x hx' => ?_⟩
    · rw [gt]; exact a1'
    · rw [gt]; exact a2'
    · rw [gt]; exact a3'
    · rw [gb]; exact a6'
    · rw [← h2]
      funext i
      unfold cb
      rw [gb]
    · rw [gt]; exact h3
    · rw [go a0 3 (fun q => d4 q.symm) (fun q => by omega)]; exact d2
    · rw [gt]; exact d5
    · rw [gt]; exact d6
    · rw [q_w_at, List.length_append]; rfl
    · rw [List.length_append]; show l.length + 1 + s ≤ A; omega
    · rw [q_w_ne (fun e1 _ => d4 e1)]
      by_cases hi : i < l.length
      · rw [List.getElem?_append_left hi] at hx'
        rw [q_w_ne (fun _ e2 => by omega)]
        exact h7 i x hx'
      · rw [List.getElem?_append_right (by omega)] at hx'
        have hi2 : i = l.length := by
          cases hd : i - l.length with
          | zero => omega
          | succ n => rw [hd] at hx'; simp at hx'
        subst hi2
        rw [Nat.sub_self] at hx'
        cases hx'
        exact q_w_at _ _ _ _
  · have d2 := H.2.2.2.2.2.1
    have d4 := H.2.2.2.2.2.2.2.1
    rw [r5 _ d2 d4, d2]
    exact H.pw
noncomputable def qP_54 : zPp := fun as σ o σ' => match as with
  | [a0, a1] => o = .inl none ∧ p_54 (q_r a0) (q_i a1) σ σ'
  | _ => True
set_option maxRecDepth 100000 in
theorem sp_54 {sx : zX}  : zEe sx 54 2 qP_54 := by
  refine zfle zJ_54 (sps := []) (fun q hq => absurd hq List.not_mem_nil) (fun as σ hl => ?_)
  match as, hl with
  | [a0, a1], _ =>
  refine ⟨[], 400, ?_, ?_⟩
  · exact fun q hq => absurd hq List.not_mem_nil
  · refine And.intro (fun h1 => ?_) (fun h1 => ?_)
    · exact ⟨rfl, sp_54_et (q_r a0) (q_i a1) σ (cm3t h1)⟩
    · refine fun h2 => ?_
      exact ⟨rfl, sp_54_ef (q_r a0) (q_i a1) σ (cm3f h1) (q_inp h2)⟩
theorem qsi_36 : q_si (zB + 36) = wFamily := by decide +kernel
theorem zwk_36 : zwk (zB + 36) := by
  have h : (decide ((q_s (zB + 36)).length ≤ 100) && (List.range (q_s (zB + 36)).length).all (fun i => decide (97 ≤ (q_si (zB + 36)).getD i 0 ∧ (q_si (zB + 36)).getD i 0 ≤ 122))) = true := by decide +kernel
  rw [Bool.and_eq_true, decide_eq_true_eq] at h
  refine ⟨h.1, fun i hi => ?_⟩
  have := List.all_eq_true.mp h.2 i (List.mem_range.mpr hi)
  exact of_decide_eq_true this
theorem qsi_37 : q_si (zB + 37) = wHour := by decide +kernel
theorem zwk_37 : zwk (zB + 37) := by
  have h : (decide ((q_s (zB + 37)).length ≤ 100) && (List.range (q_s (zB + 37)).length).all (fun i => decide (97 ≤ (q_si (zB + 37)).getD i 0 ∧ (q_si (zB + 37)).getD i 0 ≤ 122))) = true := by decide +kernel
  rw [Bool.and_eq_true, decide_eq_true_eq] at h
  refine ⟨h.1, fun i hi => ?_⟩
  have := List.all_eq_true.mp h.2 i (List.mem_range.mpr hi)
  exact of_decide_eq_true this
theorem qsi_38 : q_si (zB + 38) = wHeat := by decide +kernel
theorem zwk_38 : zwk (zB + 38) := by
  have h : (decide ((q_s (zB + 38)).length ≤ 100) && (List.range (q_s (zB + 38)).length).all (fun i => decide (97 ≤ (q_si (zB + 38)).getD i 0 ∧ (q_si (zB + 38)).getD i 0 ≤ 122))) = true := by decide +kernel
  rw [Bool.and_eq_true, decide_eq_true_eq] at h
  refine ⟨h.1, fun i hi => ?_⟩
  have := List.all_eq_true.mp h.2 i (List.mem_range.mpr hi)
  exact of_decide_eq_true this
theorem qsi_39 : q_si (zB + 39) = wDirt := by decide +kernel
theorem zwk_39 : zwk (zB + 39) := by
  have h : (decide ((q_s (zB + 39)).length ≤ 100) && (List.range (q_s (zB + 39)).length).all (fun i => decide (97 ≤ (q_si (zB + 39)).getD i 0 ∧ (q_si (zB + 39)).getD i 0 ≤ 122))) = true := by decide +kernel
  rw [Bool.and_eq_true, decide_eq_true_eq] at h
  refine ⟨h.1, fun i hi => ?_⟩
  have := List.all_eq_true.mp h.2 i (List.mem_range.mpr hi)
  exact of_decide_eq_true this
theorem qsi_40 : q_si (zB + 40) = wQuarrel := by decide +kernel
theorem zwk_40 : zwk (zB + 40) := by
  have h : (decide ((q_s (zB + 40)).length ≤ 100) && (List.range (q_s (zB + 40)).length).all (fun i => decide (97 ≤ (q_si (zB + 40)).getD i 0 ∧ (q_si (zB + 40)).getD i 0 ≤ 122))) = true := by decide +kernel
  rw [Bool.and_eq_true, decide_eq_true_eq] at h
  refine ⟨h.1, fun i hi => ?_⟩
  have := List.all_eq_true.mp h.2 i (List.mem_range.mpr hi)
  exact of_decide_eq_true this
theorem qsi_41 : q_si (zB + 41) = wLeft := by decide +kernel
theorem zwk_41 : zwk (zB + 41) := by
  have h : (decide ((q_s (zB + 41)).length ≤ 100) && (List.range (q_s (zB + 41)).length).all (fun i => decide (97 ≤ (q_si (zB + 41)).getD i 0 ∧ (q_si (zB + 41)).getD i 0 ≤ 122))) = true := by decide +kernel
  rw [Bool.and_eq_true, decide_eq_true_eq] at h
  refine ⟨h.1, fun i hi => ?_⟩
  have := List.all_eq_true.mp h.2 i (List.mem_range.mpr hi)
  exact of_decide_eq_true this
theorem qsi_34 : q_si (zB + 34) = wNight := by decide +kernel
theorem zwk_34 : zwk (zB + 34) := by
  have h : (decide ((q_s (zB + 34)).length ≤ 100) && (List.range (q_s (zB + 34)).length).all (fun i => decide (97 ≤ (q_si (zB + 34)).getD i 0 ∧ (q_si (zB + 34)).getD i 0 ≤ 122))) = true := by decide +kernel
  rw [Bool.and_eq_true, decide_eq_true_eq] at h
  refine ⟨h.1, fun i hi => ?_⟩
  have := List.all_eq_true.mp h.2 i (List.mem_range.mpr hi)
  exact of_decide_eq_true this
theorem qsi_35 : q_si (zB + 35) = wWished := by decide +kernel
theorem zwk_35 : zwk (zB + 35) := by
  have h : (decide ((q_s (zB + 35)).length ≤ 100) && (List.range (q_s (zB + 35)).length).all (fun i => decide (97 ≤ (q_si (zB + 35)).getD i 0 ∧ (q_si (zB + 35)).getD i 0 ≤ 122))) = true := by decide +kernel
  rw [Bool.and_eq_true, decide_eq_true_eq] at h
  refine ⟨h.1, fun i hi => ?_⟩
  have := List.all_eq_true.mp h.2 i (List.mem_range.mpr hi)
  exact of_decide_eq_true this
theorem qsi_33 : q_si (zB + 33) = wNot := by decide +kernel
theorem zwk_33 : zwk (zB + 33) := by
  have h : (decide ((q_s (zB + 33)).length ≤ 100) && (List.range (q_s (zB + 33)).length).all (fun i => decide (97 ≤ (q_si (zB + 33)).getD i 0 ∧ (q_si (zB + 33)).getD i 0 ≤ 122))) = true := by decide +kernel
  rw [Bool.and_eq_true, decide_eq_true_eq] at h
  refine ⟨h.1, fun i hi => ?_⟩
  have := List.all_eq_true.mp h.2 i (List.mem_range.mpr hi)
  exact of_decide_eq_true this
theorem qsi_31 : q_si (zB + 31) = wAnd := by decide +kernel
theorem zwk_31 : zwk (zB + 31) := by
  have h : (decide ((q_s (zB + 31)).length ≤ 100) && (List.range (q_s (zB + 31)).length).all (fun i => decide (97 ≤ (q_si (zB + 31)).getD i 0 ∧ (q_si (zB + 31)).getD i 0 ≤ 122))) = true := by decide +kernel
  rw [Bool.and_eq_true, decide_eq_true_eq] at h
  refine ⟨h.1, fun i hi => ?_⟩
  have := List.all_eq_true.mp h.2 i (List.mem_range.mpr hi)
  exact of_decide_eq_true this
theorem qsi_32 : q_si (zB + 32) = wOr := by decide +kernel
theorem zwk_32 : zwk (zB + 32) := by
  have h : (decide ((q_s (zB + 32)).length ≤ 100) && (List.range (q_s (zB + 32)).length).all (fun i => decide (97 ≤ (q_si (zB + 32)).getD i 0 ∧ (q_si (zB + 32)).getD i 0 ≤ 122))) = true := by decide +kernel
  rw [Bool.and_eq_true, decide_eq_true_eq] at h
  refine ⟨h.1, fun i hi => ?_⟩
  have := List.all_eq_true.mp h.2 i (List.mem_range.mpr hi)
  exact of_decide_eq_true this
theorem qsi_27 : q_si (zB + 27) = wIf := by decide +kernel
theorem zwk_27 : zwk (zB + 27) := by
  have h : (decide ((q_s (zB + 27)).length ≤ 100) && (List.range (q_s (zB + 27)).length).all (fun i => decide (97 ≤ (q_si (zB + 27)).getD i 0 ∧ (q_si (zB + 27)).getD i 0 ≤ 122))) = true := by decide +kernel
  rw [Bool.and_eq_true, decide_eq_true_eq] at h
  refine ⟨h.1, fun i hi => ?_⟩
  have := List.all_eq_true.mp h.2 i (List.mem_range.mpr hi)
  exact of_decide_eq_true this
theorem qsi_28 : q_si (zB + 28) = wWarm := by decide +kernel
theorem zwk_28 : zwk (zB + 28) := by
  have h : (decide ((q_s (zB + 28)).length ≤ 100) && (List.range (q_s (zB + 28)).length).all (fun i => decide (97 ≤ (q_si (zB + 28)).getD i 0 ∧ (q_si (zB + 28)).getD i 0 ≤ 122))) = true := by decide +kernel
  rw [Bool.and_eq_true, decide_eq_true_eq] at h
  refine ⟨h.1, fun i hi => ?_⟩
  have := List.all_eq_true.mp h.2 i (List.mem_range.mpr hi)
  exact of_decide_eq_true this
theorem qsi_29 : q_si (zB + 29) = wDust := by decide +kernel
theorem zwk_29 : zwk (zB + 29) := by
  have h : (decide ((q_s (zB + 29)).length ≤ 100) && (List.range (q_s (zB + 29)).length).all (fun i => decide (97 ≤ (q_si (zB + 29)).getD i 0 ∧ (q_si (zB + 29)).getD i 0 ≤ 122))) = true := by decide +kernel
  rw [Bool.and_eq_true, decide_eq_true_eq] at h
  refine ⟨h.1, fun i hi => ?_⟩
  have := List.all_eq_true.mp h.2 i (List.mem_range.mpr hi)
  exact of_decide_eq_true this
theorem qsi_30 : q_si (zB + 30) = wFine := by decide +kernel
theorem zwk_30 : zwk (zB + 30) := by
  have h : (decide ((q_s (zB + 30)).length ≤ 100) && (List.range (q_s (zB + 30)).length).all (fun i => decide (97 ≤ (q_si (zB + 30)).getD i 0 ∧ (q_si (zB + 30)).getD i 0 ≤ 122))) = true := by decide +kernel
  rw [Bool.and_eq_true, decide_eq_true_eq] at h
  refine ⟨h.1, fun i hi => ?_⟩
  have := List.all_eq_true.mp h.2 i (List.mem_range.mpr hi)
  exact of_decide_eq_true this
noncomputable def p_53 (r t : Nat) (σ σ' : zSg) : Prop := ∀ C b E, (∀ A l s, cG σ t r C b A E l s → cF σ σ' t r C ∧ cO σ' t r C b E l s (gPart b E A)) ∧ (∀ F, cX σ t r C b E F → cF σ σ' t r C ∧ cX σ' t r C b E F)
theorem zJ_53 : zJ3 53 z_m53 z_c53 z_h53 := ⟨rfl, rfl, rfl⟩
theorem sp_53_ettttttt (a0 : Nat) (a1 : Nat) (σ : zSg) (τ1 : zSg) (r1 : Int32) (τ3 : zSg) (r3 : Int32) (τ5 : zSg) (r5 : Int32) (τ7 : zSg) (r7 : Int32) (τ9 : zSg) (r9 : Int32) (τ11 : zSg) (r11 : Int32) (τ13 : zSg) (r13 : Int32) (τ15 : zSg) (g1 : p_95 a1 σ r1 τ1) (h2 : r1.toInt = (0 : Int)) (g3 : p_91 a1 (zB + 36) τ1 r3 τ3) (h4 : r3.toInt = (0 : Int)) (g5 : p_91 a1 (zB + 37) τ3 r5 τ5) (h6 : r5.toInt = (0 : Int)) (g7 : p_91 a1 (zB + 38) τ5 r7 τ7) (h8 : r7.toInt = (0 : Int)) (g9 : p_91 a1 (zB + 39) τ7 r9 τ9) (h10 : r9.toInt = (0 : Int)) (g11 : p_91 a1 (zB + 40) τ9 r11 τ11) (h12 : r11.toInt = (0 : Int)) (g13 : p_91 a1 (zB + 41) τ11 r13 τ13) (h14 : r13.toInt = (0 : Int)) (g15 : p_90 a1 τ13 τ15) :
    p_53 (a0) (a1) σ τ15 := by
  intro C b E
  obtain ⟨rfl, gs⟩ := g1
  refine ⟨fun A l s H => ?_, fun F H => ?_⟩
  · have hd : ¬ (A < E ∧ 48 ≤ b A ∧ b A ≤ 57) := by
      intro q
      rw [← H.2.1] at q
      exact ((gs A E H.1).mpr ⟨H.2.2.1, q⟩) h2
    obtain ⟨-, -, v0⟩ := H.tk g3 zwk_36 qsi_36 1 (by decide)
    obtain ⟨e0, rfl⟩ := v0 h4
    obtain ⟨-, -, v1⟩ := H.tk g5 zwk_37 qsi_37 1 (by decide)
    obtain ⟨e1, rfl⟩ := v1 h6
    obtain ⟨-, -, v2⟩ := H.tk g7 zwk_38 qsi_38 1 (by decide)
    obtain ⟨e2, rfl⟩ := v2 h8
    obtain ⟨-, -, v3⟩ := H.tk g9 zwk_39 qsi_39 1 (by decide)
    obtain ⟨e3, rfl⟩ := v3 h10
    obtain ⟨-, -, v4⟩ := H.tk g11 zwk_40 qsi_40 1 (by decide)
    obtain ⟨e4, rfl⟩ := v4 h12
    obtain ⟨-, -, v5⟩ := H.tk g13 zwk_41 qsi_41 1 (by decide)
    obtain ⟨e5, rfl⟩ := v5 h14
    obtain ⟨f1, H1⟩ := H.rf g15
    have hp := gPart_n hd (show tws b E A [wFamily, wHour, wHeat, wDirt, wQuarrel, wLeft] 0 = none by simp only [tws, e0, e1, e2, e3, e4, e5])
    rw [hp]
    exact ⟨f1, H1⟩
  · obtain ⟨x0, rfl⟩ := H.tk g3 zwk_36
    obtain ⟨x1, rfl⟩ := H.tk g5 zwk_37
    obtain ⟨x2, rfl⟩ := H.tk g7 zwk_38
    obtain ⟨x3, rfl⟩ := H.tk g9 zwk_39
    obtain ⟨x4, rfl⟩ := H.tk g11 zwk_40
    obtain ⟨x5, rfl⟩ := H.tk g13 zwk_41
    obtain rfl := H.rf g15
    exact ⟨cF.rf, H⟩
theorem sp_53_ettttttf (a0 : Nat) (a1 : Nat) (σ : zSg) (τ1 : zSg) (r1 : Int32) (τ3 : zSg) (r3 : Int32) (τ5 : zSg) (r5 : Int32) (τ7 : zSg) (r7 : Int32) (τ9 : zSg) (r9 : Int32) (τ11 : zSg) (r11 : Int32) (τ13 : zSg) (r13 : Int32) (τ16 : zSg) (g1 : p_95 a1 σ r1 τ1) (h2 : r1.toInt = (0 : Int)) (g3 : p_91 a1 (zB + 36) τ1 r3 τ3) (h4 : r3.toInt = (0 : Int)) (g5 : p_91 a1 (zB + 37) τ3 r5 τ5) (h6 : r5.toInt = (0 : Int)) (g7 : p_91 a1 (zB + 38) τ5 r7 τ7) (h8 : r7.toInt = (0 : Int)) (g9 : p_91 a1 (zB + 39) τ7 r9 τ9) (h10 : r9.toInt = (0 : Int)) (g11 : p_91 a1 (zB + 40) τ9 r11 τ11) (h12 : r11.toInt = (0 : Int)) (g13 : p_91 a1 (zB + 41) τ11 r13 τ13) (h14 : r13.toInt ≠ (0 : Int)) (g16 : p_54 a0 (Int32.ofInt (-6)) τ13 τ16) :
    p_53 (a0) (a1) σ τ16 := by
  intro C b E
  obtain ⟨rfl, gs⟩ := g1
  refine ⟨fun A l s H => ?_, fun F H => ?_⟩
  · have hd : ¬ (A < E ∧ 48 ≤ b A ∧ b A ≤ 57) := by
      intro q
      rw [← H.2.1] at q
      exact ((gs A E H.1).mpr ⟨H.2.2.1, q⟩) h2
    obtain ⟨-, -, v0⟩ := H.tk g3 zwk_36 qsi_36 1 (by decide)
    obtain ⟨e0, rfl⟩ := v0 h4
    obtain ⟨-, -, v1⟩ := H.tk g5 zwk_37 qsi_37 1 (by decide)
    obtain ⟨e1, rfl⟩ := v1 h6
    obtain ⟨-, -, v2⟩ := H.tk g7 zwk_38 qsi_38 1 (by decide)
    obtain ⟨e2, rfl⟩ := v2 h8
    obtain ⟨-, -, v3⟩ := H.tk g9 zwk_39 qsi_39 1 (by decide)
    obtain ⟨e3, rfl⟩ := v3 h10
    obtain ⟨-, -, v4⟩ := H.tk g11 zwk_40 qsi_40 1 (by decide)
    obtain ⟨e4, rfl⟩ := v4 h12
    obtain ⟨f1, u, -⟩ := H.tk g13 zwk_41 qsi_41 1 (by decide)
    obtain ⟨e5, H1⟩ := u h14
    obtain ⟨f2, h12⟩ := (g16 a1 C b E).1 _ l s 5 0 H1 rfl
    have hp := gPart_w hd (show tws b E A [wFamily, wHour, wHeat, wDirt, wQuarrel, wLeft] 0 = some (zBl b E (A + wLeft.length), 5) by simp only [tws, e0, e1, e2, e3, e4, e5])
    rw [hp]
    exact ⟨f1.tr f2, h12⟩
  · obtain ⟨x0, rfl⟩ := H.tk g3 zwk_36
    obtain ⟨x1, rfl⟩ := H.tk g5 zwk_37
    obtain ⟨x2, rfl⟩ := H.tk g7 zwk_38
    obtain ⟨x3, rfl⟩ := H.tk g9 zwk_39
    obtain ⟨x4, rfl⟩ := H.tk g11 zwk_40
    obtain ⟨x5, rfl⟩ := H.tk g13 zwk_41
    exact absurd x5 h14
theorem sp_53_etttttf (a0 : Nat) (a1 : Nat) (σ : zSg) (τ1 : zSg) (r1 : Int32) (τ3 : zSg) (r3 : Int32) (τ5 : zSg) (r5 : Int32) (τ7 : zSg) (r7 : Int32) (τ9 : zSg) (r9 : Int32) (τ11 : zSg) (r11 : Int32) (τ17 : zSg) (g1 : p_95 a1 σ r1 τ1) (h2 : r1.toInt = (0 : Int)) (g3 : p_91 a1 (zB + 36) τ1 r3 τ3) (h4 : r3.toInt = (0 : Int)) (g5 : p_91 a1 (zB + 37) τ3 r5 τ5) (h6 : r5.toInt = (0 : Int)) (g7 : p_91 a1 (zB + 38) τ5 r7 τ7) (h8 : r7.toInt = (0 : Int)) (g9 : p_91 a1 (zB + 39) τ7 r9 τ9) (h10 : r9.toInt = (0 : Int)) (g11 : p_91 a1 (zB + 40) τ9 r11 τ11) (h12 : r11.toInt ≠ (0 : Int)) (g17 : p_54 a0 (Int32.ofInt (-5)) τ11 τ17) :
    p_53 (a0) (a1) σ τ17 := by
  intro C b E
  obtain ⟨rfl, gs⟩ := g1
  refine ⟨fun A l s H => ?_, fun F H => ?_⟩
  · have hd : ¬ (A < E ∧ 48 ≤ b A ∧ b A ≤ 57) := by
      intro q
      rw [← H.2.1] at q
      exact ((gs A E H.1).mpr ⟨H.2.2.1, q⟩) h2
    obtain ⟨-, -, v0⟩ := H.tk g3 zwk_36 qsi_36 1 (by decide)
    obtain ⟨e0, rfl⟩ := v0 h4
    obtain ⟨-, -, v1⟩ := H.tk g5 zwk_37 qsi_37 1 (by decide)
    obtain ⟨e1, rfl⟩ := v1 h6
    obtain ⟨-, -, v2⟩ := H.tk g7 zwk_38 qsi_38 1 (by decide)
    obtain ⟨e2, rfl⟩ := v2 h8
    obtain ⟨-, -, v3⟩ := H.tk g9 zwk_39 qsi_39 1 (by decide)
    obtain ⟨e3, rfl⟩ := v3 h10
    obtain ⟨f1, u, -⟩ := H.tk g11 zwk_40 qsi_40 1 (by decide)
    obtain ⟨e4, H1⟩ := u h12
    obtain ⟨f2, h10⟩ := (g17 a1 C b E).1 _ l s 4 0 H1 rfl
    have hp := gPart_w hd (show tws b E A [wFamily, wHour, wHeat, wDirt, wQuarrel, wLeft] 0 = some (zBl b E (A + wQuarrel.length), 4) by simp only [tws, e0, e1, e2, e3, e4])
    rw [hp]
    exact ⟨f1.tr f2, h10⟩
  · obtain ⟨x0, rfl⟩ := H.tk g3 zwk_36
    obtain ⟨x1, rfl⟩ := H.tk g5 zwk_37
    obtain ⟨x2, rfl⟩ := H.tk g7 zwk_38
    obtain ⟨x3, rfl⟩ := H.tk g9 zwk_39
    obtain ⟨x4, rfl⟩ := H.tk g11 zwk_40
    exact absurd x4 h12
theorem sp_53_ettttf (a0 : Nat) (a1 : Nat) (σ : zSg) (τ1 : zSg) (r1 : Int32) (τ3 : zSg) (r3 : Int32) (τ5 : zSg) (r5 : Int32) (τ7 : zSg) (r7 : Int32) (τ9 : zSg) (r9 : Int32) (τ18 : zSg) (g1 : p_95 a1 σ r1 τ1) (h2 : r1.toInt = (0 : Int)) (g3 : p_91 a1 (zB + 36) τ1 r3 τ3) (h4 : r3.toInt = (0 : Int)) (g5 : p_91 a1 (zB + 37) τ3 r5 τ5) (h6 : r5.toInt = (0 : Int)) (g7 : p_91 a1 (zB + 38) τ5 r7 τ7) (h8 : r7.toInt = (0 : Int)) (g9 : p_91 a1 (zB + 39) τ7 r9 τ9) (h10 : r9.toInt ≠ (0 : Int)) (g18 : p_54 a0 (Int32.ofInt (-4)) τ9 τ18) :
    p_53 (a0) (a1) σ τ18 := by
  intro C b E
  obtain ⟨rfl, gs⟩ := g1
  refine ⟨fun A l s H => ?_, fun F H => ?_⟩
  · have hd : ¬ (A < E ∧ 48 ≤ b A ∧ b A ≤ 57) := by
      intro q
      rw [← H.2.1] at q
      exact ((gs A E H.1).mpr ⟨H.2.2.1, q⟩) h2
    obtain ⟨-, -, v0⟩ := H.tk g3 zwk_36 qsi_36 1 (by decide)
    obtain ⟨e0, rfl⟩ := v0 h4
    obtain ⟨-, -, v1⟩ := H.tk g5 zwk_37 qsi_37 1 (by decide)
    obtain ⟨e1, rfl⟩ := v1 h6
    obtain ⟨-, -, v2⟩ := H.tk g7 zwk_38 qsi_38 1 (by decide)
    obtain ⟨e2, rfl⟩ := v2 h8
    obtain ⟨f1, u, -⟩ := H.tk g9 zwk_39 qsi_39 1 (by decide)
    obtain ⟨e3, H1⟩ := u h10
    obtain ⟨f2, h8⟩ := (g18 a1 C b E).1 _ l s 3 0 H1 rfl
    have hp := gPart_w hd (show tws b E A [wFamily, wHour, wHeat, wDirt, wQuarrel, wLeft] 0 = some (zBl b E (A + wDirt.length), 3) by simp only [tws, e0, e1, e2, e3])
    rw [hp]
    exact ⟨f1.tr f2, h8⟩
  · obtain ⟨x0, rfl⟩ := H.tk g3 zwk_36
    obtain ⟨x1, rfl⟩ := H.tk g5 zwk_37
    obtain ⟨x2, rfl⟩ := H.tk g7 zwk_38
    obtain ⟨x3, rfl⟩ := H.tk g9 zwk_39
    exact absurd x3 h10
theorem sp_53_etttf (a0 : Nat) (a1 : Nat) (σ : zSg) (τ1 : zSg) (r1 : Int32) (τ3 : zSg) (r3 : Int32) (τ5 : zSg) (r5 : Int32) (τ7 : zSg) (r7 : Int32) (τ19 : zSg) (g1 : p_95 a1 σ r1 τ1) (h2 : r1.toInt = (0 : Int)) (g3 : p_91 a1 (zB + 36) τ1 r3 τ3) (h4 : r3.toInt = (0 : Int)) (g5 : p_91 a1 (zB + 37) τ3 r5 τ5) (h6 : r5.toInt = (0 : Int)) (g7 : p_91 a1 (zB + 38) τ5 r7 τ7) (h8 : r7.toInt ≠ (0 : Int)) (g19 : p_54 a0 (Int32.ofInt (-3)) τ7 τ19) :
    p_53 (a0) (a1) σ τ19 := by
  intro C b E
  obtain ⟨rfl, gs⟩ := g1
  refine ⟨fun A l s H => ?_, fun F H => ?_⟩
  · have hd : ¬ (A < E ∧ 48 ≤ b A ∧ b A ≤ 57) := by
      intro q
      rw [← H.2.1] at q
      exact ((gs A E H.1).mpr ⟨H.2.2.1, q⟩) h2
    obtain ⟨-, -, v0⟩ := H.tk g3 zwk_36 qsi_36 1 (by decide)
    obtain ⟨e0, rfl⟩ := v0 h4
    obtain ⟨-, -, v1⟩ := H.tk g5 zwk_37 qsi_37 1 (by decide)
    obtain ⟨e1, rfl⟩ := v1 h6
    obtain ⟨f1, u, -⟩ := H.tk g7 zwk_38 qsi_38 1 (by decide)
    obtain ⟨e2, H1⟩ := u h8
    obtain ⟨f2, h6⟩ := (g19 a1 C b E).1 _ l s 2 0 H1 rfl
    have hp := gPart_w hd (show tws b E A [wFamily, wHour, wHeat, wDirt, wQuarrel, wLeft] 0 = some (zBl b E (A + wHeat.length), 2) by simp only [tws, e0, e1, e2])
    rw [hp]
    exact ⟨f1.tr f2, h6⟩
  · obtain ⟨x0, rfl⟩ := H.tk g3 zwk_36
    obtain ⟨x1, rfl⟩ := H.tk g5 zwk_37
    obtain ⟨x2, rfl⟩ := H.tk g7 zwk_38
    exact absurd x2 h8
theorem sp_53_ettf (a0 : Nat) (a1 : Nat) (σ : zSg) (τ1 : zSg) (r1 : Int32) (τ3 : zSg) (r3 : Int32) (τ5 : zSg) (r5 : Int32) (τ20 : zSg) (g1 : p_95 a1 σ r1 τ1) (h2 : r1.toInt = (0 : Int)) (g3 : p_91 a1 (zB + 36) τ1 r3 τ3) (h4 : r3.toInt = (0 : Int)) (g5 : p_91 a1 (zB + 37) τ3 r5 τ5) (h6 : r5.toInt ≠ (0 : Int)) (g20 : p_54 a0 (Int32.ofInt (-2)) τ5 τ20) :
    p_53 (a0) (a1) σ τ20 := by
  intro C b E
  obtain ⟨rfl, gs⟩ := g1
  refine ⟨fun A l s H => ?_, fun F H => ?_⟩
  · have hd : ¬ (A < E ∧ 48 ≤ b A ∧ b A ≤ 57) := by
      intro q
      rw [← H.2.1] at q
      exact ((gs A E H.1).mpr ⟨H.2.2.1, q⟩) h2
    obtain ⟨-, -, v0⟩ := H.tk g3 zwk_36 qsi_36 1 (by decide)
    obtain ⟨e0, rfl⟩ := v0 h4
    obtain ⟨f1, u, -⟩ := H.tk g5 zwk_37 qsi_37 1 (by decide)
    obtain ⟨e1, H1⟩ := u h6
    obtain ⟨f2, h4⟩ := (g20 a1 C b E).1 _ l s 1 0 H1 rfl
    have hp := gPart_w hd (show tws b E A [wFamily, wHour, wHeat, wDirt, wQuarrel, wLeft] 0 = some (zBl b E (A + wHour.length), 1) by simp only [tws, e0, e1])
    rw [hp]
    exact ⟨f1.tr f2, h4⟩
  · obtain ⟨x0, rfl⟩ := H.tk g3 zwk_36
    obtain ⟨x1, rfl⟩ := H.tk g5 zwk_37
    exact absurd x1 h6
theorem sp_53_etf (a0 : Nat) (a1 : Nat) (σ : zSg) (τ1 : zSg) (r1 : Int32) (τ3 : zSg) (r3 : Int32) (τ21 : zSg) (g1 : p_95 a1 σ r1 τ1) (h2 : r1.toInt = (0 : Int)) (g3 : p_91 a1 (zB + 36) τ1 r3 τ3) (h4 : r3.toInt ≠ (0 : Int)) (g21 : p_54 a0 (Int32.ofInt (-1)) τ3 τ21) :
    p_53 (a0) (a1) σ τ21 := by
  intro C b E
  obtain ⟨rfl, gs⟩ := g1
  refine ⟨fun A l s H => ?_, fun F H => ?_⟩
  · have hd : ¬ (A < E ∧ 48 ≤ b A ∧ b A ≤ 57) := by
      intro q
      rw [← H.2.1] at q
      exact ((gs A E H.1).mpr ⟨H.2.2.1, q⟩) h2
    obtain ⟨f1, u, -⟩ := H.tk g3 zwk_36 qsi_36 1 (by decide)
    obtain ⟨e0, H1⟩ := u h4
    obtain ⟨f2, h2⟩ := (g21 a1 C b E).1 _ l s 0 0 H1 rfl
    have hp := gPart_w hd (show tws b E A [wFamily, wHour, wHeat, wDirt, wQuarrel, wLeft] 0 = some (zBl b E (A + wFamily.length), 0) by simp only [tws, e0])
    rw [hp]
    exact ⟨f1.tr f2, h2⟩
  · obtain ⟨x0, rfl⟩ := H.tk g3 zwk_36
    exact absurd x0 h4
theorem sp_53_ef (a0 : Nat) (a1 : Nat) (σ : zSg) (τ1 : zSg) (r1 : Int32) (τ22 : zSg) (r22 : Int32) (τ23 : zSg) (g1 : p_95 a1 σ r1 τ1) (h2 : r1.toInt ≠ (0 : Int)) (g22 : p_96 a1 (Int32.ofInt (0)) (Int32.ofInt (999)) τ1 r22 τ22) (g23 : p_54 a0 r22 τ22 τ23) :
    p_53 (a0) (a1) σ τ23 := by
  intro C b E
  obtain ⟨rfl, gs⟩ := g1
  refine ⟨fun A l s H => ?_, fun F H => ?_⟩
  · have hd := (gs A E H.1).mp h2
    rw [H.2.1] at hd
    have c9 : (Int32.ofInt 999).toInt = 999 := rfl
    have c0 : (Int32.ofInt 0).toInt = 0 := rfl
    obtain ⟨f1, u, v⟩ := H.nb g22 (by decide)
    rw [c0, c9] at u v
    unfold gPart
    rw [if_pos hd.2]
    cases hn : tn b E 0 999 A with
    | none =>
      have H1 := v hn
      obtain ⟨f2, H2x⟩ := (g23 a1 C b E).2 _ H1
      exact ⟨f1.tr f2, H2x⟩
    | some q =>
      obtain ⟨A1, w⟩ := q
      obtain ⟨e, H1⟩ := u A1 w hn
      obtain ⟨f2, H2x⟩ := (g23 a1 C b E).1 _ l s 8 w H1 e
      exact ⟨f1.tr f2, H2x⟩
  · obtain ⟨f1, H1⟩ := H.nb g22 (by decide)
    obtain ⟨f2, H2x⟩ := (g23 a1 C b E).2 _ H1
    exact ⟨f1.tr f2, H2x⟩
noncomputable def qP_53 : zPp := fun as σ o σ' => match as with
  | [a0, a1] => o = .inl none ∧ p_53 (q_r a0) (q_r a1) σ σ'
  | _ => True
set_option maxRecDepth 100000 in
theorem sp_53 {sx : zX} (S95 : zEe sx 95 1 qP_95) (S91 : zEe sx 91 2 qP_91) (S90 : zEe sx 90 1 qP_90) (S54 : zEe sx 54 2 qP_54) (S96 : zEe sx 96 3 qP_96) : zEe sx 53 2 qP_53 := by
  refine zfle zJ_53 (sps := [(95, 1, qP_95), (91, 2, qP_91), (90, 1, qP_90), (54, 2, qP_54), (96, 3, qP_96)]) (fun q hq => by
    simp only [List.mem_cons, List.not_mem_nil, or_false] at hq
    rcases hq with rfl | rfl | rfl | rfl | rfl
    · exact S95
    · exact S91
    · exact S90
    · exact S54
    · exact S96) (fun as σ hl => ?_)
  match as, hl with
  | [a0, a1], _ =>
  refine ⟨[], 400, ?_, ?_⟩
  · exact fun q hq => absurd hq List.not_mem_nil
  · refine fun o1 τ1 g1 => ?_
    obtain ⟨r1, rfl, g1⟩ := g1
    refine And.intro (fun h2 => ?_) (fun h2 => ?_)
    · refine fun o3 τ3 g3 => ?_
      obtain ⟨r3, rfl, g3⟩ := g3
      refine And.intro (fun h4 => ?_) (fun h4 => ?_)
      · refine fun o5 τ5 g5 => ?_
        obtain ⟨r5, rfl, g5⟩ := g5
        refine And.intro (fun h6 => ?_) (fun h6 => ?_)
        · refine fun o7 τ7 g7 => ?_
          obtain ⟨r7, rfl, g7⟩ := g7
          refine And.intro (fun h8 => ?_) (fun h8 => ?_)
          · refine fun o9 τ9 g9 => ?_
            obtain ⟨r9, rfl, g9⟩ := g9
            refine And.intro (fun h10 => ?_) (fun h10 => ?_)
            · refine fun o11 τ11 g11 => ?_
              obtain ⟨r11, rfl, g11⟩ := g11
              refine And.intro (fun h12 => ?_) (fun h12 => ?_)
              · refine fun o13 τ13 g13 => ?_
                obtain ⟨r13, rfl, g13⟩ := g13
                refine And.intro (fun h14 => ?_) (fun h14 => ?_)
                · refine fun o15 τ15 g15 => ?_
                  obtain ⟨rfl, g15⟩ := g15
                  exact ⟨rfl, sp_53_ettttttt (q_r a0) (q_r a1) σ τ1 r1 τ3 r3 τ5 r5 τ7 r7 τ9 r9 τ11 r11 τ13 r13 τ15 g1 (cm0t h2) g3 (cm0t h4) g5 (cm0t h6) g7 (cm0t h8) g9 (cm0t h10) g11 (cm0t h12) g13 (cm0t h14) g15⟩
                · refine fun o16 τ16 g16 => ?_
                  obtain ⟨rfl, g16⟩ := g16
                  exact ⟨rfl, sp_53_ettttttf (q_r a0) (q_r a1) σ τ1 r1 τ3 r3 τ5 r5 τ7 r7 τ9 r9 τ11 r11 τ13 r13 τ16 g1 (cm0t h2) g3 (cm0t h4) g5 (cm0t h6) g7 (cm0t h8) g9 (cm0t h10) g11 (cm0t h12) g13 (cm0f h14) g16⟩
              · refine fun o17 τ17 g17 => ?_
                obtain ⟨rfl, g17⟩ := g17
                exact ⟨rfl, sp_53_etttttf (q_r a0) (q_r a1) σ τ1 r1 τ3 r3 τ5 r5 τ7 r7 τ9 r9 τ11 r11 τ17 g1 (cm0t h2) g3 (cm0t h4) g5 (cm0t h6) g7 (cm0t h8) g9 (cm0t h10) g11 (cm0f h12) g17⟩
            · refine fun o18 τ18 g18 => ?_
              obtain ⟨rfl, g18⟩ := g18
              exact ⟨rfl, sp_53_ettttf (q_r a0) (q_r a1) σ τ1 r1 τ3 r3 τ5 r5 τ7 r7 τ9 r9 τ18 g1 (cm0t h2) g3 (cm0t h4) g5 (cm0t h6) g7 (cm0t h8) g9 (cm0f h10) g18⟩
          · refine fun o19 τ19 g19 => ?_
            obtain ⟨rfl, g19⟩ := g19
            exact ⟨rfl, sp_53_etttf (q_r a0) (q_r a1) σ τ1 r1 τ3 r3 τ5 r5 τ7 r7 τ19 g1 (cm0t h2) g3 (cm0t h4) g5 (cm0t h6) g7 (cm0f h8) g19⟩
        · refine fun o20 τ20 g20 => ?_
          obtain ⟨rfl, g20⟩ := g20
          exact ⟨rfl, sp_53_ettf (q_r a0) (q_r a1) σ τ1 r1 τ3 r3 τ5 r5 τ20 g1 (cm0t h2) g3 (cm0t h4) g5 (cm0f h6) g20⟩
      · refine fun o21 τ21 g21 => ?_
        obtain ⟨rfl, g21⟩ := g21
        exact ⟨rfl, sp_53_etf (q_r a0) (q_r a1) σ τ1 r1 τ3 r3 τ21 g1 (cm0t h2) g3 (cm0f h4) g21⟩
    · refine fun o22 τ22 g22 => ?_
      obtain ⟨r22, rfl, g22⟩ := g22
      refine fun o23 τ23 g23 => ?_
      obtain ⟨rfl, g23⟩ := g23
      exact ⟨rfl, sp_53_ef (q_r a0) (q_r a1) σ τ1 r1 τ22 r22 τ23 g1 (cm0f h2) g22 g23⟩
noncomputable def p_52 (r t : Nat) (σ σ' : zSg) : Prop := ∀ C b E, (∀ A l s, cG σ t r C b A E l s → cF σ σ' t r C ∧ ∃ R, GS b E A R ∧ cO σ' t r C b E l s R) ∧ (∀ F, cX σ t r C b E F → cF σ σ' t r C ∧ cX σ' t r C b E F)
noncomputable def i_52 (r t : Nat) (σ : zSg) (l0 l1 : Nat) (i : Int32) (τ : zSg) : Prop := l0 = r ∧ l1 = t ∧ ∀ C b E, (∀ A l s, cG σ t r C b A E l s → cF σ τ t r C ∧ ((∃ A1 m K, i = Int32.ofNat K ∧ K ≤ m.length ∧ cG τ t r C b A1 E (l ++ m) s ∧ ∀ R, GSL b E A1 m R → GS b E A R) ∨ (∃ F, GS b E A (.inr F) ∧ cX τ t r C b E F))) ∧ (∀ F, cX σ t r C b E F → cF σ τ t r C ∧ cX τ t r C b E F)
theorem zJ_52 : zJ3 52 z_m52 z_c52 z_h52 := ⟨rfl, rfl, rfl⟩
theorem sp_52_e (a0 : Nat) (a1 : Nat) (σ : zSg) (τ1 : zSg) (g1 : p_53 a0 a1 σ τ1) :
    i_52 a0 a1 σ a0 a1 (Int32.ofInt (0)) τ1 := by
  refine ⟨rfl, rfl, fun C b E => ⟨fun A l s H => ?_, fun F H => (g1 C b E).2 F H⟩⟩
  obtain ⟨f1, g1⟩ := (g1 C b E).1 A l s H
  refine ⟨f1, ?_⟩
  cases hp : gPart b E A with
  | inr F => rw [hp] at g1; exact Or.inr ⟨F, GS.wrong hp, g1⟩
  | inl q =>
    obtain ⟨A1, m⟩ := q
    rw [hp] at g1
    exact Or.inl ⟨A1, m, 0, rfl, Nat.zero_le _, g1, fun R hR => GS.go hp hR⟩
theorem sp_52_c5_t (a0 : Nat) (a1 : Nat) (σ : zSg) (l0 : Nat) (l1 : Nat) (l2 : Int32) (τ : zSg) (hI : i_52 a0 a1 σ l0 l1 l2 τ) (h2 : l2.toInt ≥ (400 : Int)) :
    p_52 (a0) (a1) σ τ := by
  obtain ⟨rfl, rfl, G⟩ := hI
  refine fun C b E => ⟨fun A l s H => ?_, fun F H => (G C b E).2 F H⟩
  obtain ⟨f1, ⟨A1, m, K, rfl, k1, H1, hR⟩ | ⟨F, hF, H1⟩⟩ := (G C b E).1 A l s H
  · have hl := H1.le
    have hm := H1.2.2.2.2.2.1
    rw [List.length_append] at hm
    rw [o32 (by omega)] at h2
    have e1 : ts b E 43 A1 = none := by
      unfold ts
      rw [if_neg (by omega)]
    exact ⟨f1, _, hR _ (GSL.stop e1), H1⟩
  · exact ⟨f1, _, hF, H1⟩
theorem sp_52_c5_ft (a0 : Nat) (a1 : Nat) (σ : zSg) (l0 : Nat) (l1 : Nat) (l2 : Int32) (τ : zSg) (τ3 : zSg) (r3 : Int32) (hI : i_52 a0 a1 σ l0 l1 l2 τ) (h2 : l2.toInt < (400 : Int)) (g3 : p_93 l1 (Int32.ofInt (43)) τ r3 τ3) (h4 : r3.toInt = (0 : Int)) :
    p_52 (a0) (a1) σ τ3 := by
  obtain ⟨rfl, rfl, G⟩ := hI
  refine fun C b E => ⟨fun A l s H => ?_, fun F H => ?_⟩
  · obtain ⟨f1, ⟨A1, m, K, rfl, k1, H1, hR⟩ | ⟨F, hF, H1⟩⟩ := (G C b E).1 A l s H
    · obtain ⟨-, -, v⟩ := H1.sg g3 (by decide) (by decide)
      obtain ⟨e1, rfl⟩ := v h4
      exact ⟨f1, _, hR _ (GSL.stop e1), H1⟩
    · obtain ⟨-, rfl⟩ := H1.sg g3 (by decide) (by decide)
      exact ⟨f1, _, hF, H1⟩
  · obtain ⟨f1, H1⟩ := (G C b E).2 F H
    obtain ⟨-, rfl⟩ := H1.sg g3 (by decide) (by decide)
    exact ⟨f1, H1⟩
theorem sp_52_c5_ff (a0 : Nat) (a1 : Nat) (σ : zSg) (l0 : Nat) (l1 : Nat) (l2 : Int32) (τ : zSg) (τ3 : zSg) (r3 : Int32) (τ5 : zSg) (τ6 : zSg) (hI : i_52 a0 a1 σ l0 l1 l2 τ) (h2 : l2.toInt < (400 : Int)) (g3 : p_93 l1 (Int32.ofInt (43)) τ r3 τ3) (h4 : r3.toInt ≠ (0 : Int)) (g5 : p_53 l0 l1 τ3 τ5) (g6 : p_54 l0 (Int32.ofInt (-10)) τ5 τ6) :
    i_52 a0 a1 σ l0 l1 (l2 + Int32.ofInt (1)) τ6 := by
  obtain ⟨rfl, rfl, G⟩ := hI
  refine ⟨rfl, rfl, fun C b E => ⟨fun A l s H => ?_, fun F H => ?_⟩⟩
  · obtain ⟨f1, ⟨A1, m, K, rfl, k1, H1, hR⟩ | ⟨F, hF, H1⟩⟩ := (G C b E).1 A l s H
    · obtain ⟨f2, u, -⟩ := H1.sg g3 (by decide) (by decide)
      obtain ⟨e1, H2x⟩ := u h4
      have hl := H1.le
      have hg := zBl_ge (b := b) (E := E) (P := A1 + 1)
      obtain ⟨f3, g3⟩ := (g5 C b E).1 _ _ _ H2x
      cases hp : gPart b E (zBl b E (A1 + 1)) with
      | inr F =>
        rw [hp] at g3
        obtain ⟨f4, H4x⟩ := (g6 l1 C b E).2 _ g3
        exact ⟨((f1.tr f2).tr f3).tr f4, Or.inr ⟨F, hR _ (GSL.wrong e1 hp), H4x⟩⟩
      | inl q =>
        obtain ⟨A2, m2⟩ := q
        rw [hp] at g3
        obtain ⟨f4, H4x⟩ := (g6 l1 C b E).1 _ _ s 9 0 g3 rfl
        have hm := g3.2.2.2.2.2.1
        have hl2 := g3.le
        rw [List.length_append, List.length_append] at hm
        refine ⟨((f1.tr f2).tr f3).tr f4, Or.inl ⟨A2, m ++ m2 ++ [(9, 0)], K + 1, by rw [← o32i (by omega)], by rw [List.length_append, List.length_append]; show K + 1 ≤ m.length + m2.length + 1; omega, ?_, fun R hq => hR R (GSL.step e1 hp hq)⟩⟩
        rw [show l ++ (m ++ m2 ++ [(9, 0)]) = l ++ m ++ m2 ++ [(9, 0)] by simp only [List.append_assoc]]
        exact H4x
    · exact absurd (H1.sg g3 (by decide) (by decide)).1 h4
  · obtain ⟨f1, H1⟩ := (G C b E).2 F H
    exact absurd (H1.sg g3 (by decide) (by decide)).1 h4
noncomputable def qP_52 : zPp := fun as σ o σ' => match as with
  | [a0, a1] => o = .inl none ∧ p_52 (q_r a0) (q_r a1) σ σ'
  | _ => True
set_option maxRecDepth 100000 in
theorem sp_52 {sx : zX} (S53 : zEe sx 53 2 qP_53) (S93 : zEe sx 93 2 qP_93) (S54 : zEe sx 54 2 qP_54) : zEe sx 52 2 qP_52 := by
  refine zfle zJ_52 (sps := [(53, 2, qP_53), (93, 2, qP_93), (54, 2, qP_54)]) (fun q hq => by
    simp only [List.mem_cons, List.not_mem_nil, or_false] at hq
    rcases hq with rfl | rfl | rfl
    · exact S53
    · exact S93
    · exact S54) (fun as σ hl => ?_)
  match as, hl with
  | [a0, a1], _ =>
  refine ⟨[(5, fun lo st τ => st = [] ∧ i_52 (q_r a0) (q_r a1) σ (q_r (lo 0)) (q_r (lo 1)) (q_i (lo 2)) τ)], 400, ?_, ?_⟩
  · intro q hq
    simp only [List.mem_cons, List.not_mem_nil, or_false] at hq
    rcases hq with rfl
    · rintro lo st τ ⟨rfl, hI⟩
      refine ⟨400, ?_⟩
      refine And.intro (fun h2 => ?_) (fun h2 => ?_)
      · exact ⟨rfl, sp_52_c5_t (q_r a0) (q_r a1) σ (q_r (lo 0)) (q_r (lo 1)) (q_i (lo 2)) τ hI (cm3t h2)⟩
      · refine fun o3 τ3 g3 => ?_
        obtain ⟨r3, rfl, g3⟩ := g3
        refine And.intro (fun h4 => ?_) (fun h4 => ?_)
        · exact ⟨rfl, sp_52_c5_ft (q_r a0) (q_r a1) σ (q_r (lo 0)) (q_r (lo 1)) (q_i (lo 2)) τ τ3 r3 hI (cm3f h2) g3 (cm0t h4)⟩
        · refine fun o5 τ5 g5 => ?_
          obtain ⟨rfl, g5⟩ := g5
          refine fun o6 τ6 g6 => ?_
          obtain ⟨rfl, g6⟩ := g6
          exact ⟨rfl, sp_52_c5_ff (q_r a0) (q_r a1) σ (q_r (lo 0)) (q_r (lo 1)) (q_i (lo 2)) τ τ3 r3 τ5 τ6 hI (cm3f h2) g3 (cm0f h4) g5 g6⟩
  · refine fun o1 τ1 g1 => ?_
    obtain ⟨rfl, g1⟩ := g1
    exact ⟨rfl, sp_52_e (q_r a0) (q_r a1) σ τ1 g1⟩
theorem GS.det {b : Nat → Int} {E A : Nat} {R R' : zRs} (h : GS b E A R) (h' : GS b E A R') : R = R' := by
  obtain ⟨n, h⟩ := h
  obtain ⟨k, h'⟩ := h'
  have h1 := gSum_mono h (Nat.le_max_left n k)
  have h2 := gSum_mono h' (Nat.le_max_right n k)
  rw [h1] at h2
  exact Option.some.inj h2
theorem GB.det {b : Nat → Int} {E A : Nat} {R R' : zRs} (h : GB b E A R) (h' : GB b E A R') : R = R' := by
  obtain ⟨n, h⟩ := h
  obtain ⟨k, h'⟩ := h'
  have h1 := gBase_mono h (Nat.le_max_left n k)
  have h2 := gBase_mono h' (Nat.le_max_right n k)
  rw [h1] at h2
  exact Option.some.inj h2
theorem tw_len {b : Nat → Int} {E A : Nat} {s : List Int} (h : zLt b E A ≠ A + s.length) : tw b E s A = none := by
  exact tw_neg (fun q => h q.1)
theorem g_out {b : Nat → Int} {E A n : Nat} (hz : zLt b E A = A + n) (hd : ¬ (A < E ∧ 48 ≤ b A ∧ b A ≤ 57)) (hn : n ≠ 6 ∧ n ≠ 4 ∧ n ≠ 7 ∧ n ≠ 5) : GB b E A (.inr A) := by
  have h6 : ∀ s : List Int, s.length ≠ n → tw b E s A = none := fun s h => tw_len (by rw [hz]; omega)
  refine GB.wrong1 (h6 _ (by show 5 ≠ n; omega)) (h6 _ (by show 6 ≠ n; omega)) (GS.wrong (gPart_n hd ?_))
  simp only [tws, h6 wFamily (by show 6 ≠ n; omega), h6 wHour (by show 4 ≠ n; omega), h6 wHeat (by show 4 ≠ n; omega), h6 wDirt (by show 4 ≠ n; omega), h6 wQuarrel (by show 7 ≠ n; omega), h6 wLeft (by show 4 ≠ n; omega)]
theorem gA_base {b : Nat → Int} {E D A : Nat} {R : zRs} (h : GB b E A R) (hD : D ≤ 6) (h1 : D < 6 → ts b E 40 A = none ∧ tw b E wNot A = none) : GA b E D A R := by
  cases h2 : ts b E 40 A with
  | some A1 =>
    have e : D = 6 := by
      by_cases q : D < 6
      · rw [(h1 q).1] at h2; cases h2
      · omega
    subst e
    have h3 : A < E ∧ b A = 40 := by
      unfold ts at h2
      split at h2
      · assumption
      · cases h2
    have h4 : zLt b E A = A + 0 := zRn_f (by omega)
    rw [GB.det h (g_out h4 (by omega) (by omega))]
    exact GA.deep1 h2
  | none =>
    cases h3 : tw b E wNot A with
    | none => exact GA.base h2 h3 h
    | some A1 =>
      have e : D = 6 := by
        by_cases q : D < 6
        · rw [(h1 q).2] at h3; cases h3
        · omega
      subst e
      have h4 : zWa b E wNot A := tw_some h3
      have h5 : zLt b E A = A + 3 := h4.1
      rw [GB.det h (g_out h5 (zLt_ne (by omega)) (by omega))]
      exact GA.deep2 h2 h3
noncomputable def p_51 (r t : Nat) (d : Int32) (σ σ' : zSg) : Prop := ∀ D C b E, d = Int32.ofNat D → D ≤ 6 → (∀ A l s, cG σ t r C b A E l s → cF σ σ' t r C ∧ ∃ R, GA b E D A R ∧ cO σ' t r C b E l s R) ∧ (∀ F, cX σ t r C b E F → cF σ σ' t r C ∧ cX σ' t r C b E F)
noncomputable def p_50 (r t : Nat) (d : Int32) (σ σ' : zSg) : Prop := ∀ D C b E, d = Int32.ofNat D → D ≤ 6 → (∀ A l s, cG σ t r C b A E l s → cF σ σ' t r C ∧ ∃ R, GC b E D A R ∧ cO σ' t r C b E l s R) ∧ (∀ F, cX σ t r C b E F → cF σ σ' t r C ∧ cX σ' t r C b E F)
noncomputable def i_51 (r t : Nat) (d : Int32) (σ : zSg) (l0 l1 : Nat) (l2 : Int32) (τ : zSg) : Prop := l0 = r ∧ l1 = t ∧ l2 = d ∧ (∀ A E, cS σ t A E → τ = σ) ∧ ∀ D C b E A l s, d = Int32.ofNat D → cG σ t r C b A E l s → D < 6 → tw b E wNot A = none
noncomputable def j_51 (r t : Nat) (d : Int32) (σ : zSg) (l0 l1 : Nat) (l2 : Int32) (τ : zSg) : Prop := l0 = r ∧ l1 = t ∧ l2 = d ∧ (∀ A E, cS σ t A E → τ = σ) ∧ ∀ D C b E A l s, d = Int32.ofNat D → cG σ t r C b A E l s → D < 6 → ts b E 40 A = none ∧ tw b E wNot A = none
noncomputable def k_51 (r t : Nat) (d : Int32) (σ : zSg) (l0 l1 : Nat) (less : Int32) (τ : zSg) : Prop := l0 = r ∧ l1 = t ∧ ∀ D C b E, d = Int32.ofNat D → D ≤ 6 → (∀ A l s, cG σ t r C b A E l s → (D < 6 → ts b E 40 A = none ∧ tw b E wNot A = none) ∧ cF σ τ t r C ∧ ((∃ A1 A2 m, tw b E wNight A = none ∧ tw b E wWished A = none ∧ GS b E A (.inl (A1, m)) ∧ ((less.toInt ≠ 0 ∧ ts b E 60 A1 = some A2) ∨ (less.toInt = 0 ∧ ts b E 60 A1 = none ∧ ts b E 62 A1 = some A2)) ∧ cG τ t r C b A2 E (l ++ m) (s + 1)) ∨ (∃ F, GB b E A (.inr F) ∧ cX τ t r C b E F))) ∧ (∀ F, cX σ t r C b E F → cF σ τ t r C ∧ cX τ t r C b E F)
noncomputable def qP_50 : zPp := fun as σ o σ' => match as with
  | [a0, a1, a2] => o = .inl none ∧ p_50 (q_r a0) (q_r a1) (q_i a2) σ σ'
  | _ => True
noncomputable def qP_51 : zPp := fun as σ o σ' => match as with
  | [a0, a1, a2] => o = .inl none ∧ p_51 (q_r a0) (q_r a1) (q_i a2) σ σ'
  | _ => True
theorem zJ_51 : zJ3 51 z_m51 z_c51 z_h51 := ⟨rfl, rfl, rfl⟩
theorem zJ_50 : zJ3 50 z_m50 z_c50 z_h50 := ⟨rfl, rfl, rfl⟩
theorem sp_51_et (a0 : Nat) (a1 : Nat) (a2 : Int32) (σ : zSg) (h1 : a2.toInt ≥ (6 : Int)) :
    i_51 a0 a1 a2 σ a0 a1 a2 σ := by
  refine ⟨rfl, rfl, rfl, fun _ _ _ => rfl, fun D C b E A l s eD H hlt => ?_⟩
  rw [eD, o32 (by omega)] at h1
  omega
theorem sp_51_eft (a0 : Nat) (a1 : Nat) (a2 : Int32) (σ : zSg) (τ2 : zSg) (r2 : Int32) (h1 : a2.toInt < (6 : Int)) (g2 : p_91 a1 (zB + 33) σ r2 τ2) (h3 : r2.toInt = (0 : Int)) :
    i_51 a0 a1 a2 σ a0 a1 a2 τ2 := by
  refine ⟨rfl, rfl, rfl, fun A E S => ?_, fun D C b E A l s eD H hlt => ?_⟩
  · rcases g2 A E S zwk_33 with ⟨g1, -⟩ | ⟨-, -, g3⟩
    · exact absurd h3 g1
    · exact g3
  · obtain ⟨-, -, v⟩ := H.tk g2 zwk_33 qsi_33 1 (by decide)
    exact (v h3).1
theorem sp_51_eff (a0 : Nat) (a1 : Nat) (a2 : Int32) (σ : zSg) (τ2 : zSg) (r2 : Int32) (τ4 : zSg) (τ5 : zSg) (h1 : a2.toInt < (6 : Int)) (g2 : p_91 a1 (zB + 33) σ r2 τ2) (h3 : r2.toInt ≠ (0 : Int)) (g4 : p_51 a0 a1 (a2 + (Int32.ofInt (1))) τ2 τ4) (g5 : p_54 a0 (Int32.ofInt (-9)) τ4 τ5) :
    p_51 (a0) (a1) (a2) σ τ5 := by
  intro D C b E eD hD
  refine ⟨fun A l s H => ?_, fun F H => ?_⟩
  · have hlt : D < 6 := by
      have h9 := h1
      rw [eD, o32 (by omega)] at h9
      omega
    obtain ⟨f1, u, -⟩ := H.tk g2 zwk_33 qsi_33 1 (by decide)
    obtain ⟨e1, H1⟩ := u h3
    obtain ⟨f2, R, g1, g2⟩ := (g4 (D + 1) C b E (by rw [eD]; exact o32i (by omega)) (by omega)).1 _ _ _ H1
    have e0 : ts b E 40 A = none := by
      unfold ts
      rw [if_neg]
      intro q
      have hz := tw_some e1
      have h9 : zLt b E A = A + 3 := hz.1
      have h8 : zLt b E A = A := zRn_f (by omega)
      omega
    cases R with
    | inr F =>
      obtain ⟨f3, H3x⟩ := (g5 a1 C b E).2 _ g2
      exact ⟨(f1.tr f2).tr f3, _, GA.not (by omega) e0 e1 g1, H3x⟩
    | inl q =>
      obtain ⟨A2, m⟩ := q
      obtain ⟨f3, H3x⟩ := (g5 a1 C b E).1 _ _ s 12 0 g2 rfl
      refine ⟨(f1.tr f2).tr f3, _, GA.not (by omega) e0 e1 g1, ?_⟩
      show cG _ a1 a0 C b A2 E (l ++ (m ++ [(12, 0)])) s
      rw [show l ++ (m ++ [(12, 0)]) = l ++ m ++ [(12, 0)] by simp only [List.append_assoc]]
      exact H3x
  · exact absurd (H.tk g2 zwk_33).1 h3
theorem sp_51_c17_t (a0 : Nat) (a1 : Nat) (a2 : Int32) (σ : zSg) (l0 : Nat) (l1 : Nat) (l2 : Int32) (τ : zSg) (hI : i_51 a0 a1 a2 σ l0 l1 l2 τ) (h6 : l2.toInt ≥ (6 : Int)) :
    j_51 a0 a1 a2 σ l0 l1 l2 τ := by
  obtain ⟨rfl, rfl, rfl, G0, G⟩ := hI
  refine ⟨rfl, rfl, rfl, G0, fun D C b E A l s eD H hlt => ?_⟩
  rw [eD, o32 (by omega)] at h6
  omega
theorem sp_51_c17_ft (a0 : Nat) (a1 : Nat) (a2 : Int32) (σ : zSg) (l0 : Nat) (l1 : Nat) (l2 : Int32) (τ : zSg) (τ7 : zSg) (r7 : Int32) (hI : i_51 a0 a1 a2 σ l0 l1 l2 τ) (h6 : l2.toInt < (6 : Int)) (g7 : p_93 l1 (Int32.ofInt (40)) τ r7 τ7) (h8 : r7.toInt = (0 : Int)) :
    j_51 a0 a1 a2 σ l0 l1 l2 τ7 := by
  obtain ⟨rfl, rfl, rfl, G0, G⟩ := hI
  refine ⟨rfl, rfl, rfl, fun A E S => ?_, fun D C b E A l s eD H hlt => ?_⟩
  · obtain rfl := G0 A E S
    rcases g7 A E S (by decide) (by decide) with ⟨g1, -⟩ | ⟨-, -, g3⟩
    · exact absurd h8 g1
    · exact g3
  · obtain rfl := G0 A E H.1
    obtain ⟨-, -, v⟩ := H.sg g7 (by decide) (by decide)
    exact ⟨(v h8).1, G D C b E A l s eD H hlt⟩
theorem sp_51_c17_ff (a0 : Nat) (a1 : Nat) (a2 : Int32) (σ : zSg) (l0 : Nat) (l1 : Nat) (l2 : Int32) (τ : zSg) (τ7 : zSg) (r7 : Int32) (τ9 : zSg) (τ10 : zSg) (hI : i_51 a0 a1 a2 σ l0 l1 l2 τ) (h6 : l2.toInt < (6 : Int)) (g7 : p_93 l1 (Int32.ofInt (40)) τ r7 τ7) (h8 : r7.toInt ≠ (0 : Int)) (g9 : p_50 l0 l1 (l2 + (Int32.ofInt (1))) τ7 τ9) (g10 : p_94 l1 (Int32.ofInt (41)) τ9 τ10) :
    p_51 (a0) (a1) (a2) σ τ10 := by
  obtain ⟨rfl, rfl, rfl, G0, G⟩ := hI
  intro D C b E eD hD
  refine ⟨fun A l s H => ?_, fun F H => ?_⟩
  · obtain rfl := G0 _ _ H.1
    have hlt : D < 6 := by
      have h9 := h6
      rw [eD, o32 (by omega)] at h9
      omega
    obtain ⟨f1, u, -⟩ := H.sg g7 (by decide) (by decide)
    obtain ⟨e1, H1⟩ := u h8
    obtain ⟨f2, R, g1, g2⟩ := (g9 (D + 1) C b E (by rw [eD]; exact o32i (by omega)) (by omega)).1 _ _ _ H1
    cases R with
    | inr F =>
      obtain rfl := g2.ns g10 (by decide) (by decide)
      exact ⟨f1.tr f2, _, GA.par (by omega) e1 g1, g2⟩
    | inl q =>
      obtain ⟨A2, m⟩ := q
      have g2x : cG _ l1 l0 C b A2 E (l ++ m) (s + 1) := g2
      obtain ⟨f3, u3, v3⟩ := g2x.ns g10 (by decide) (by decide)
      refine ⟨(f1.tr f2).tr f3, _, GA.par (by omega) e1 g1, ?_⟩
      dsimp only
      cases h4 : ts b E 41 A2 with
      | none => exact v3 h4
      | some A3 => exact (u3 A3 h4).wk (by omega)
  · obtain ⟨A0, hA0⟩ := H.1
    obtain rfl := G0 _ _ hA0
    exact absurd (H.sg g7 (by decide) (by decide)).1 h8
theorem sp_51_c34_ttt (a0 : Nat) (a1 : Nat) (a2 : Int32) (σ : zSg) (l0 : Nat) (l1 : Nat) (l2 : Int32) (τ : zSg) (τ11 : zSg) (r11 : Int32) (τ13 : zSg) (r13 : Int32) (τ15 : zSg) (τ16 : zSg) (r16 : Int32) (hI : j_51 a0 a1 a2 σ l0 l1 l2 τ) (g11 : p_91 l1 (zB + 34) τ r11 τ11) (h12 : r11.toInt = (0 : Int)) (g13 : p_91 l1 (zB + 35) τ11 r13 τ13) (h14 : r13.toInt = (0 : Int)) (g15 : p_52 l0 l1 τ13 τ15) (g16 : p_93 l1 (Int32.ofInt (60)) τ15 r16 τ16) (h17 : r16.toInt ≠ (0 : Int)) :
    k_51 a0 a1 a2 σ l0 l1 r16 τ16 := by
  obtain ⟨rfl, rfl, rfl, G0, G⟩ := hI
  refine ⟨rfl, rfl, fun D C b E eD hD => ⟨fun A l s H => ⟨G D C b E A l s eD H, ?_⟩, fun F H => ?_⟩⟩
  · obtain rfl := G0 _ _ H.1
    obtain ⟨-, -, v⟩ := H.tk g11 zwk_34 qsi_34 1 (by decide)
    obtain ⟨e0, rfl⟩ := v h12
    obtain ⟨-, -, v⟩ := H.tk g13 zwk_35 qsi_35 1 (by decide)
    obtain ⟨e1, rfl⟩ := v h14
    obtain ⟨f1, R, g1, g2⟩ := (g15 C b E).1 _ _ _ H
    cases R with
    | inr F => exact absurd (cX.sg g2 g16 (by decide) (by decide)).1 h17
    | inl q =>
      obtain ⟨A1, m⟩ := q
      have g2x : cG _ l1 l0 C b A1 E (l ++ m) s := g2
      obtain ⟨f2, u, -⟩ := g2x.sg g16 (by decide) (by decide)
      obtain ⟨e2, H2x⟩ := u h17
      exact ⟨f1.tr f2, Or.inl ⟨A1, _, m, e0, e1, g1, Or.inl ⟨h17, e2⟩, H2x⟩⟩
  · obtain ⟨A0, hA0⟩ := H.1
    obtain rfl := G0 _ _ hA0
    obtain ⟨-, rfl⟩ := H.tk g11 zwk_34
    obtain ⟨-, rfl⟩ := H.tk g13 zwk_35
    obtain ⟨f1, H1⟩ := (g15 C b E).2 _ H
    exact absurd (H1.sg g16 (by decide) (by decide)).1 h17
theorem sp_51_c34_ttf (a0 : Nat) (a1 : Nat) (a2 : Int32) (σ : zSg) (l0 : Nat) (l1 : Nat) (l2 : Int32) (τ : zSg) (τ11 : zSg) (r11 : Int32) (τ13 : zSg) (r13 : Int32) (τ15 : zSg) (τ16 : zSg) (r16 : Int32) (τ18 : zSg) (hI : j_51 a0 a1 a2 σ l0 l1 l2 τ) (g11 : p_91 l1 (zB + 34) τ r11 τ11) (h12 : r11.toInt = (0 : Int)) (g13 : p_91 l1 (zB + 35) τ11 r13 τ13) (h14 : r13.toInt = (0 : Int)) (g15 : p_52 l0 l1 τ13 τ15) (g16 : p_93 l1 (Int32.ofInt (60)) τ15 r16 τ16) (h17 : r16.toInt = (0 : Int)) (g18 : p_94 l1 (Int32.ofInt (62)) τ16 τ18) :
    k_51 a0 a1 a2 σ l0 l1 r16 τ18 := by
  obtain ⟨rfl, rfl, rfl, G0, G⟩ := hI
  refine ⟨rfl, rfl, fun D C b E eD hD => ⟨fun A l s H => ⟨G D C b E A l s eD H, ?_⟩, fun F H => ?_⟩⟩
  · obtain rfl := G0 _ _ H.1
    obtain ⟨-, -, v⟩ := H.tk g11 zwk_34 qsi_34 1 (by decide)
    obtain ⟨e0, rfl⟩ := v h12
    obtain ⟨-, -, v⟩ := H.tk g13 zwk_35 qsi_35 1 (by decide)
    obtain ⟨e1, rfl⟩ := v h14
    obtain ⟨f1, R, g1, g2⟩ := (g15 C b E).1 _ _ _ H
    cases R with
    | inr F =>
      obtain ⟨-, rfl⟩ := cX.sg g2 g16 (by decide) (by decide)
      obtain rfl := cX.ns g2 g18 (by decide) (by decide)
      exact ⟨f1, Or.inr ⟨F, GB.wrong1 e0 e1 g1, g2⟩⟩
    | inl q =>
      obtain ⟨A1, m⟩ := q
      have g2x : cG _ l1 l0 C b A1 E (l ++ m) s := g2
      obtain ⟨f2, -, v⟩ := g2x.sg g16 (by decide) (by decide)
      obtain ⟨e2, rfl⟩ := v h17
      obtain ⟨f3, u3, v3⟩ := g2x.ns g18 (by decide) (by decide)
      refine ⟨f1.tr f3, ?_⟩
      cases h4 : ts b E 62 A1 with
      | none => exact Or.inr ⟨A1, GB.wrong2 e0 e1 g1 e2 h4, v3 h4⟩
      | some A2 => exact Or.inl ⟨A1, A2, m, e0, e1, g1, Or.inr ⟨h17, e2, h4⟩, u3 A2 h4⟩
  · obtain ⟨A0, hA0⟩ := H.1
    obtain rfl := G0 _ _ hA0
    obtain ⟨-, rfl⟩ := H.tk g11 zwk_34
    obtain ⟨-, rfl⟩ := H.tk g13 zwk_35
    obtain ⟨f1, H1⟩ := (g15 C b E).2 _ H
    obtain ⟨-, rfl⟩ := H1.sg g16 (by decide) (by decide)
    obtain rfl := H1.ns g18 (by decide) (by decide)
    exact ⟨f1, H1⟩
theorem sp_51_c34_tf (a0 : Nat) (a1 : Nat) (a2 : Int32) (σ : zSg) (l0 : Nat) (l1 : Nat) (l2 : Int32) (τ : zSg) (τ11 : zSg) (r11 : Int32) (τ13 : zSg) (r13 : Int32) (τ19 : zSg) (hI : j_51 a0 a1 a2 σ l0 l1 l2 τ) (g11 : p_91 l1 (zB + 34) τ r11 τ11) (h12 : r11.toInt = (0 : Int)) (g13 : p_91 l1 (zB + 35) τ11 r13 τ13) (h14 : r13.toInt ≠ (0 : Int)) (g19 : p_54 l0 (Int32.ofInt (-8)) τ13 τ19) :
    p_51 (a0) (a1) (a2) σ τ19 := by
  obtain ⟨rfl, rfl, rfl, G0, G⟩ := hI
  intro D C b E eD hD
  refine ⟨fun A l s H => ?_, fun F H => ?_⟩
  · obtain rfl := G0 _ _ H.1
    obtain ⟨-, -, v⟩ := H.tk g11 zwk_34 qsi_34 1 (by decide)
    obtain ⟨e0, rfl⟩ := v h12
    obtain ⟨f1, u, -⟩ := H.tk g13 zwk_35 qsi_35 1 (by decide)
    obtain ⟨e1, H1⟩ := u h14
    obtain ⟨f2, H2x⟩ := (g19 l1 C b E).1 _ _ s 7 0 H1 rfl
    exact ⟨f1.tr f2, _, gA_base (GB.wished e0 e1) hD (G D C b E A l s eD H), H2x⟩
  · obtain ⟨A0, hA0⟩ := H.1
    obtain rfl := G0 _ _ hA0
    obtain ⟨-, rfl⟩ := H.tk g11 zwk_34
    exact absurd (H.tk g13 zwk_35).1 h14
theorem sp_51_c34_f (a0 : Nat) (a1 : Nat) (a2 : Int32) (σ : zSg) (l0 : Nat) (l1 : Nat) (l2 : Int32) (τ : zSg) (τ11 : zSg) (r11 : Int32) (τ20 : zSg) (hI : j_51 a0 a1 a2 σ l0 l1 l2 τ) (g11 : p_91 l1 (zB + 34) τ r11 τ11) (h12 : r11.toInt ≠ (0 : Int)) (g20 : p_54 l0 (Int32.ofInt (-7)) τ11 τ20) :
    p_51 (a0) (a1) (a2) σ τ20 := by
  obtain ⟨rfl, rfl, rfl, G0, G⟩ := hI
  intro D C b E eD hD
  refine ⟨fun A l s H => ?_, fun F H => ?_⟩
  · obtain rfl := G0 _ _ H.1
    obtain ⟨f1, u, -⟩ := H.tk g11 zwk_34 qsi_34 1 (by decide)
    obtain ⟨e1, H1⟩ := u h12
    obtain ⟨f2, H2x⟩ := (g20 l1 C b E).1 _ _ s 6 0 H1 rfl
    exact ⟨f1.tr f2, _, gA_base (GB.night e1) hD (G D C b E A l s eD H), H2x⟩
  · obtain ⟨A0, hA0⟩ := H.1
    obtain rfl := G0 _ _ hA0
    exact absurd (H.tk g11 zwk_34).1 h12
theorem sp_51_c62_t (a0 : Nat) (a1 : Nat) (a2 : Int32) (σ : zSg) (l0 : Nat) (l1 : Nat) (l3 : Int32) (τ : zSg) (τ21 : zSg) (τ23 : zSg) (hI : k_51 a0 a1 a2 σ l0 l1 l3 τ) (g21 : p_52 l0 l1 τ τ21) (h22 : l3.toInt = (0 : Int)) (g23 : p_54 l0 (Int32.ofInt (-12)) τ21 τ23) :
    p_51 (a0) (a1) (a2) σ τ23 := by
  obtain ⟨rfl, rfl, G⟩ := hI
  intro D C b E eD hD
  refine ⟨fun A l s H => ?_, fun F H => ?_⟩
  · obtain ⟨hD6, f1, hx⟩ := (G D C b E eD hD).1 A l s H
    rcases hx with ⟨A1, A2, m, e0, e1, g1, hs, H1⟩ | ⟨F, hF, H1⟩
    · obtain ⟨f2, R, g3, g4⟩ := (g21 C b E).1 _ _ _ H1
      rcases hs with ⟨h3, -⟩ | ⟨h3, e2, e3⟩
      case inl => exact absurd h22 h3
      cases R with
      | inr F =>
        obtain ⟨f3, H3x⟩ := (g23 l1 C b E).2 _ g4
        exact ⟨(f1.tr f2).tr f3, _, gA_base (GB.more e0 e1 g1 e2 e3 g3) hD hD6, H3x⟩
      | inl q =>
        obtain ⟨A3, m2⟩ := q
        obtain ⟨f3, H3x⟩ := (g23 l1 C b E).1 _ _ s 11 0 g4 rfl
        refine ⟨(f1.tr f2).tr f3, _, gA_base (GB.more e0 e1 g1 e2 e3 g3) hD hD6, ?_⟩
        show cG _ l1 l0 C b A3 E (l ++ (m ++ m2 ++ [(11, 0)])) s
        rw [show l ++ (m ++ m2 ++ [(11, 0)]) = l ++ m ++ m2 ++ [(11, 0)] by simp only [List.append_assoc]]
        exact H3x
    · obtain ⟨f2, H2x⟩ := (g21 C b E).2 _ H1
      obtain ⟨f3, H3x⟩ := (g23 l1 C b E).2 _ H2x
      exact ⟨(f1.tr f2).tr f3, _, gA_base hF hD hD6, H3x⟩
  · obtain ⟨f1, H1⟩ := (G D C b E eD hD).2 F H
    obtain ⟨f2, H2x⟩ := (g21 C b E).2 _ H1
    obtain ⟨f3, H3x⟩ := (g23 l1 C b E).2 _ H2x
    exact ⟨(f1.tr f2).tr f3, H3x⟩
theorem sp_51_c62_f (a0 : Nat) (a1 : Nat) (a2 : Int32) (σ : zSg) (l0 : Nat) (l1 : Nat) (l3 : Int32) (τ : zSg) (τ21 : zSg) (τ24 : zSg) (hI : k_51 a0 a1 a2 σ l0 l1 l3 τ) (g21 : p_52 l0 l1 τ τ21) (h22 : l3.toInt ≠ (0 : Int)) (g24 : p_54 l0 (Int32.ofInt (-11)) τ21 τ24) :
    p_51 (a0) (a1) (a2) σ τ24 := by
  obtain ⟨rfl, rfl, G⟩ := hI
  intro D C b E eD hD
  refine ⟨fun A l s H => ?_, fun F H => ?_⟩
  · obtain ⟨hD6, f1, hx⟩ := (G D C b E eD hD).1 A l s H
    rcases hx with ⟨A1, A2, m, e0, e1, g1, hs, H1⟩ | ⟨F, hF, H1⟩
    · obtain ⟨f2, R, g3, g4⟩ := (g21 C b E).1 _ _ _ H1
      rcases hs with ⟨h3, e2⟩ | ⟨h3, -⟩
      case inr => exact absurd h3 h22
      cases R with
      | inr F =>
        obtain ⟨f3, H3x⟩ := (g24 l1 C b E).2 _ g4
        exact ⟨(f1.tr f2).tr f3, _, gA_base (GB.less e0 e1 g1 e2 g3) hD hD6, H3x⟩
      | inl q =>
        obtain ⟨A3, m2⟩ := q
        obtain ⟨f3, H3x⟩ := (g24 l1 C b E).1 _ _ s 10 0 g4 rfl
        refine ⟨(f1.tr f2).tr f3, _, gA_base (GB.less e0 e1 g1 e2 g3) hD hD6, ?_⟩
        show cG _ l1 l0 C b A3 E (l ++ (m ++ m2 ++ [(10, 0)])) s
        rw [show l ++ (m ++ m2 ++ [(10, 0)]) = l ++ m ++ m2 ++ [(10, 0)] by simp only [List.append_assoc]]
        exact H3x
    · obtain ⟨f2, H2x⟩ := (g21 C b E).2 _ H1
      obtain ⟨f3, H3x⟩ := (g24 l1 C b E).2 _ H2x
      exact ⟨(f1.tr f2).tr f3, _, gA_base hF hD hD6, H3x⟩
  · obtain ⟨f1, H1⟩ := (G D C b E eD hD).2 F H
    obtain ⟨f2, H2x⟩ := (g21 C b E).2 _ H1
    obtain ⟨f3, H3x⟩ := (g24 l1 C b E).2 _ H2x
    exact ⟨(f1.tr f2).tr f3, H3x⟩
set_option maxRecDepth 100000 in
theorem sp_51 {sx : zX} {m : Nat} (S91 : zEe sx 91 2 qP_91) (S54 : zEe sx 54 2 qP_54) (S93 : zEe sx 93 2 qP_93) (S94 : zEe sx 94 2 qP_94) (S52 : zEe sx 52 2 qP_52) (S51 : zMt sx m 51 3 qP_51) (S50 : zMt sx m 50 3 qP_50) : zMt sx (m + 1) 51 3 qP_51 := by
  refine zfl zJ_51 (sps := [(91, 2, qP_91), (51, 3, qP_51), (54, 2, qP_54), (93, 2, qP_93), (50, 3, qP_50), (94, 2, qP_94), (52, 2, qP_52)]) (fun q hq => by
    simp only [List.mem_cons, List.not_mem_nil, or_false] at hq
    rcases hq with rfl | rfl | rfl | rfl | rfl | rfl | rfl
    · exact S91 m
    · exact S51
    · exact S54 m
    · exact S93 m
    · exact S50
    · exact S94 m
    · exact S52 m) (fun as σ hl => ?_)
  match as, hl with
  | [a0, a1, a2], _ =>
  refine ⟨[(17, fun lo st τ => st = [] ∧ i_51 (q_r a0) (q_r a1) (q_i a2) σ (q_r (lo 0)) (q_r (lo 1)) (q_i (lo 2)) τ), (34, fun lo st τ => st = [] ∧ j_51 (q_r a0) (q_r a1) (q_i a2) σ (q_r (lo 0)) (q_r (lo 1)) (q_i (lo 2)) τ), (62, fun lo st τ => st = [] ∧ k_51 (q_r a0) (q_r a1) (q_i a2) σ (q_r (lo 0)) (q_r (lo 1)) (q_i (lo 3)) τ)], 400, ?_, ?_⟩
  · intro q hq
    simp only [List.mem_cons, List.not_mem_nil, or_false] at hq
    rcases hq with rfl | rfl | rfl
    · rintro lo st τ ⟨rfl, hI⟩
      refine ⟨400, ?_⟩
      refine And.intro (fun h6 => ?_) (fun h6 => ?_)
      · exact ⟨rfl, sp_51_c17_t (q_r a0) (q_r a1) (q_i a2) σ (q_r (lo 0)) (q_r (lo 1)) (q_i (lo 2)) τ hI (cm3t h6)⟩
      · refine fun o7 τ7 g7 => ?_
        obtain ⟨r7, rfl, g7⟩ := g7
        refine And.intro (fun h8 => ?_) (fun h8 => ?_)
        · exact ⟨rfl, sp_51_c17_ft (q_r a0) (q_r a1) (q_i a2) σ (q_r (lo 0)) (q_r (lo 1)) (q_i (lo 2)) τ τ7 r7 hI (cm3f h6) g7 (cm0t h8)⟩
        · refine fun o9 τ9 g9 => ?_
          obtain ⟨rfl, g9⟩ := g9
          refine fun o10 τ10 g10 => ?_
          obtain ⟨rfl, g10⟩ := g10
          exact ⟨rfl, sp_51_c17_ff (q_r a0) (q_r a1) (q_i a2) σ (q_r (lo 0)) (q_r (lo 1)) (q_i (lo 2)) τ τ7 r7 τ9 τ10 hI (cm3f h6) g7 (cm0f h8) g9 g10⟩
    · rintro lo st τ ⟨rfl, hI⟩
      refine ⟨400, ?_⟩
      refine fun o11 τ11 g11 => ?_
      obtain ⟨r11, rfl, g11⟩ := g11
      refine And.intro (fun h12 => ?_) (fun h12 => ?_)
      · refine fun o13 τ13 g13 => ?_
        obtain ⟨r13, rfl, g13⟩ := g13
        refine And.intro (fun h14 => ?_) (fun h14 => ?_)
        · refine fun o15 τ15 g15 => ?_
          obtain ⟨rfl, g15⟩ := g15
          refine fun o16 τ16 g16 => ?_
          obtain ⟨r16, rfl, g16⟩ := g16
          refine And.intro (fun h17 => ?_) (fun h17 => ?_)
          · exact ⟨rfl, sp_51_c34_ttt (q_r a0) (q_r a1) (q_i a2) σ (q_r (lo 0)) (q_r (lo 1)) (q_i (lo 2)) τ τ11 r11 τ13 r13 τ15 τ16 r16 hI g11 (cm0t h12) g13 (cm0t h14) g15 g16 (cm1t h17)⟩
          · refine fun o18 τ18 g18 => ?_
            obtain ⟨rfl, g18⟩ := g18
            exact ⟨rfl, sp_51_c34_ttf (q_r a0) (q_r a1) (q_i a2) σ (q_r (lo 0)) (q_r (lo 1)) (q_i (lo 2)) τ τ11 r11 τ13 r13 τ15 τ16 r16 τ18 hI g11 (cm0t h12) g13 (cm0t h14) g15 g16 (cm1f h17) g18⟩
        · refine fun o19 τ19 g19 => ?_
          obtain ⟨rfl, g19⟩ := g19
          exact ⟨rfl, sp_51_c34_tf (q_r a0) (q_r a1) (q_i a2) σ (q_r (lo 0)) (q_r (lo 1)) (q_i (lo 2)) τ τ11 r11 τ13 r13 τ19 hI g11 (cm0t h12) g13 (cm0f h14) g19⟩
      · refine fun o20 τ20 g20 => ?_
        obtain ⟨rfl, g20⟩ := g20
        exact ⟨rfl, sp_51_c34_f (q_r a0) (q_r a1) (q_i a2) σ (q_r (lo 0)) (q_r (lo 1)) (q_i (lo 2)) τ τ11 r11 τ20 hI g11 (cm0f h12) g20⟩
    · rintro lo st τ ⟨rfl, hI⟩
      refine ⟨400, ?_⟩
      refine fun o21 τ21 g21 => ?_
      obtain ⟨rfl, g21⟩ := g21
      refine And.intro (fun h22 => ?_) (fun h22 => ?_)
      · refine fun o23 τ23 g23 => ?_
        obtain ⟨rfl, g23⟩ := g23
        exact ⟨rfl, sp_51_c62_t (q_r a0) (q_r a1) (q_i a2) σ (q_r (lo 0)) (q_r (lo 1)) (q_i (lo 3)) τ τ21 τ23 hI g21 (cm0t h22) g23⟩
      · refine fun o24 τ24 g24 => ?_
        obtain ⟨rfl, g24⟩ := g24
        exact ⟨rfl, sp_51_c62_f (q_r a0) (q_r a1) (q_i a2) σ (q_r (lo 0)) (q_r (lo 1)) (q_i (lo 3)) τ τ21 τ24 hI g21 (cm0f h22) g24⟩
  · refine And.intro (fun h1 => ?_) (fun h1 => ?_)
    · exact ⟨rfl, sp_51_et (q_r a0) (q_r a1) (q_i a2) σ (cm3t h1)⟩
    · refine fun o2 τ2 g2 => ?_
      obtain ⟨r2, rfl, g2⟩ := g2
      refine And.intro (fun h3 => ?_) (fun h3 => ?_)
      · exact ⟨rfl, sp_51_eft (q_r a0) (q_r a1) (q_i a2) σ τ2 r2 (cm3f h1) g2 (cm0t h3)⟩
      · refine fun o4 τ4 g4 => ?_
        obtain ⟨rfl, g4⟩ := g4
        refine fun o5 τ5 g5 => ?_
        obtain ⟨rfl, g5⟩ := g5
        exact ⟨rfl, sp_51_eff (q_r a0) (q_r a1) (q_i a2) σ τ2 r2 τ4 τ5 (cm3f h1) g2 (cm0f h3) g4 g5⟩
noncomputable def i_50 (r t : Nat) (d : Int32) (σ : zSg) (l0 l1 : Nat) (l2 w i : Int32) (τ : zSg) : Prop := l0 = r ∧ l1 = t ∧ l2 = d ∧ ∀ D C b E, d = Int32.ofNat D → D ≤ 6 → (∀ A l s, cG σ t r C b A E l s → cF σ τ t r C ∧ ((∃ A1 m K, ∃ wb : Bool, i = Int32.ofNat K ∧ (w.toInt ≠ 0 ↔ wb = true) ∧ cG τ t r C b A1 E (l ++ m) (s + K + (bif wb then 1 else 0)) ∧ ∀ R, GL b E D A1 wb m R → GC b E D A R) ∨ (∃ F, GC b E D A (.inr F) ∧ cX τ t r C b E F))) ∧ (∀ F, cX σ t r C b E F → cF σ τ t r C ∧ cX τ t r C b E F)
theorem tw_e {b : Nat → Int} {E : Nat} {s : List Int} (hs : 0 < s.length) : tw b E s E = none := tw_0 (zRn_f (by omega)) hs
theorem sp_50_e (a0 : Nat) (a1 : Nat) (a2 : Int32) (σ : zSg) (τ1 : zSg) (g1 : p_51 a0 a1 a2 σ τ1) :
    i_50 a0 a1 a2 σ a0 a1 a2 (Int32.ofInt (0)) (Int32.ofInt (0)) τ1 := by
  refine ⟨rfl, rfl, rfl, fun D C b E eD hD => ⟨fun A l s H => ?_, fun F H => (g1 D C b E eD hD).2 F H⟩⟩
  obtain ⟨f1, R, g1, g2⟩ := (g1 D C b E eD hD).1 A l s H
  refine ⟨f1, ?_⟩
  cases R with
  | inr F => exact Or.inr ⟨F, GC.wrong g1, g2⟩
  | inl q =>
    obtain ⟨A1, m⟩ := q
    exact Or.inl ⟨A1, m, 0, false, rfl, ⟨fun h => absurd rfl h, fun h => by cases h⟩, g2, fun R hR => GC.go g1 hR⟩
theorem sp_50_c8_tt (a0 : Nat) (a1 : Nat) (a2 : Int32) (σ : zSg) (l0 : Nat) (l1 : Nat) (l2 : Int32) (l3 : Int32) (l4 : Int32) (τ : zSg) (hI : i_50 a0 a1 a2 σ l0 l1 l2 l3 l4 τ) (h2 : l4.toInt ≥ (400 : Int)) (h3 : l3.toInt = (0 : Int)) :
    p_50 (a0) (a1) (a2) σ τ := by
  obtain ⟨rfl, rfl, rfl, G⟩ := hI
  intro D C b E eD hD
  refine ⟨fun A l s H => ?_, fun F H => ?_⟩
  · obtain ⟨f1, ⟨A1, m, K, wb, rfl, hw, H1, hR⟩ | ⟨F, hF, H1⟩⟩ := (G D C b E eD hD).1 A l s H
    · have hl := H1.le
      have hm := H1.2.2.2.2.2.1
      rw [o32 (by omega)] at h2
      have eA : A1 = E := by omega
      subst eA
      have ea : tw b A1 wAnd A1 = none := tw_e (by decide)
      have eo : tw b A1 wOr A1 = none := tw_e (by decide)
      have ew : wb = false := by
        cases wb with
        | false => rfl
        | true => exact absurd h3 (hw.mpr rfl)
      subst ew
      exact ⟨f1, _, hR _ (GL.stop ea eo), H1.wk (by omega)⟩
    · exact ⟨f1, _, hF, H1⟩
  · obtain ⟨f1, H1⟩ := (G D C b E eD hD).2 F H
    exact ⟨f1, H1⟩
theorem sp_50_c8_tf (a0 : Nat) (a1 : Nat) (a2 : Int32) (σ : zSg) (l0 : Nat) (l1 : Nat) (l2 : Int32) (l3 : Int32) (l4 : Int32) (τ : zSg) (τ4 : zSg) (hI : i_50 a0 a1 a2 σ l0 l1 l2 l3 l4 τ) (h2 : l4.toInt ≥ (400 : Int)) (h3 : l3.toInt ≠ (0 : Int)) (g4 : p_54 l0 (Int32.ofInt (-14)) τ τ4) :
    p_50 (a0) (a1) (a2) σ τ4 := by
  obtain ⟨rfl, rfl, rfl, G⟩ := hI
  intro D C b E eD hD
  refine ⟨fun A l s H => ?_, fun F H => ?_⟩
  · obtain ⟨f1, ⟨A1, m, K, wb, rfl, hw, H1, hR⟩ | ⟨F, hF, H1⟩⟩ := (G D C b E eD hD).1 A l s H
    · have hl := H1.le
      have hm := H1.2.2.2.2.2.1
      rw [o32 (by omega)] at h2
      have eA : A1 = E := by omega
      subst eA
      have ea : tw b A1 wAnd A1 = none := tw_e (by decide)
      have eo : tw b A1 wOr A1 = none := tw_e (by decide)
      have ew : wb = true := by
        cases wb with
        | true => rfl
        | false => exact absurd (hw.mp h3) (by decide)
      subst ew
      obtain ⟨f9, H9⟩ := (g4 l1 C b A1).1 _ _ s 14 0 (H1.wk (show s + 1 ≤ s + K + 1 by omega)) rfl
      refine ⟨(f1).tr f9, _, hR _ (GL.stop ea eo), ?_⟩
      show cG _ l1 l0 C b A1 A1 (l ++ (m ++ [(14, 0)])) s
      rw [← List.append_assoc]
      exact H9
    · obtain ⟨f2, H2x⟩ := (g4 l1 C b E).2 _ H1
      exact ⟨f1.tr f2, _, hF, H2x⟩
  · obtain ⟨f1, H1⟩ := (G D C b E eD hD).2 F H
    obtain ⟨f2, H2x⟩ := (g4 l1 C b E).2 _ H1
    exact ⟨f1.tr f2, H2x⟩
theorem sp_50_c8_fttt (a0 : Nat) (a1 : Nat) (a2 : Int32) (σ : zSg) (l0 : Nat) (l1 : Nat) (l2 : Int32) (l3 : Int32) (l4 : Int32) (τ : zSg) (τ5 : zSg) (r5 : Int32) (τ7 : zSg) (r7 : Int32) (hI : i_50 a0 a1 a2 σ l0 l1 l2 l3 l4 τ) (h2 : l4.toInt < (400 : Int)) (g5 : p_91 l1 (zB + 31) τ r5 τ5) (h6 : r5.toInt = (0 : Int)) (g7 : p_91 l1 (zB + 32) τ5 r7 τ7) (h8 : r7.toInt = (0 : Int)) (h9 : l3.toInt = (0 : Int)) :
    p_50 (a0) (a1) (a2) σ τ7 := by
  obtain ⟨rfl, rfl, rfl, G⟩ := hI
  intro D C b E eD hD
  refine ⟨fun A l s H => ?_, fun F H => ?_⟩
  · obtain ⟨f1, ⟨A1, m, K, wb, rfl, hw, H1, hR⟩ | ⟨F, hF, H1⟩⟩ := (G D C b E eD hD).1 A l s H
    · obtain ⟨-, -, v⟩ := H1.tk g5 zwk_31 qsi_31 2 (by decide)
      obtain ⟨ea, rfl⟩ := v h6
      obtain ⟨-, -, v⟩ := H1.tk g7 zwk_32 qsi_32 2 (by decide)
      obtain ⟨eo, rfl⟩ := v h8
      have ew : wb = false := by
        cases wb with
        | false => rfl
        | true => exact absurd h9 (hw.mpr rfl)
      subst ew
      exact ⟨f1, _, hR _ (GL.stop ea eo), H1.wk (by omega)⟩
    · obtain ⟨-, rfl⟩ := H1.tk g5 zwk_31
      obtain ⟨-, rfl⟩ := H1.tk g7 zwk_32
      exact ⟨f1, _, hF, H1⟩
  · obtain ⟨f1, H1⟩ := (G D C b E eD hD).2 F H
    obtain ⟨-, rfl⟩ := H1.tk g5 zwk_31
    obtain ⟨-, rfl⟩ := H1.tk g7 zwk_32
    exact ⟨f1, H1⟩
theorem sp_50_c8_fttf (a0 : Nat) (a1 : Nat) (a2 : Int32) (σ : zSg) (l0 : Nat) (l1 : Nat) (l2 : Int32) (l3 : Int32) (l4 : Int32) (τ : zSg) (τ5 : zSg) (r5 : Int32) (τ7 : zSg) (r7 : Int32) (τ10 : zSg) (hI : i_50 a0 a1 a2 σ l0 l1 l2 l3 l4 τ) (h2 : l4.toInt < (400 : Int)) (g5 : p_91 l1 (zB + 31) τ r5 τ5) (h6 : r5.toInt = (0 : Int)) (g7 : p_91 l1 (zB + 32) τ5 r7 τ7) (h8 : r7.toInt = (0 : Int)) (h9 : l3.toInt ≠ (0 : Int)) (g10 : p_54 l0 (Int32.ofInt (-14)) τ7 τ10) :
    p_50 (a0) (a1) (a2) σ τ10 := by
  obtain ⟨rfl, rfl, rfl, G⟩ := hI
  intro D C b E eD hD
  refine ⟨fun A l s H => ?_, fun F H => ?_⟩
  · obtain ⟨f1, ⟨A1, m, K, wb, rfl, hw, H1, hR⟩ | ⟨F, hF, H1⟩⟩ := (G D C b E eD hD).1 A l s H
    · obtain ⟨-, -, v⟩ := H1.tk g5 zwk_31 qsi_31 2 (by decide)
      obtain ⟨ea, rfl⟩ := v h6
      obtain ⟨-, -, v⟩ := H1.tk g7 zwk_32 qsi_32 2 (by decide)
      obtain ⟨eo, rfl⟩ := v h8
      have ew : wb = true := by
        cases wb with
        | true => rfl
        | false => exact absurd (hw.mp h9) (by decide)
      subst ew
      obtain ⟨f9, H9⟩ := (g10 l1 C b E).1 _ _ s 14 0 (H1.wk (show s + 1 ≤ s + K + 1 by omega)) rfl
      refine ⟨(f1).tr f9, _, hR _ (GL.stop ea eo), ?_⟩
      show cG _ l1 l0 C b A1 E (l ++ (m ++ [(14, 0)])) s
      rw [← List.append_assoc]
      exact H9
    · obtain ⟨-, rfl⟩ := H1.tk g5 zwk_31
      obtain ⟨-, rfl⟩ := H1.tk g7 zwk_32
      obtain ⟨f2, H2x⟩ := (g10 l1 C b E).2 _ H1
      exact ⟨f1.tr f2, _, hF, H2x⟩
  · obtain ⟨f1, H1⟩ := (G D C b E eD hD).2 F H
    obtain ⟨-, rfl⟩ := H1.tk g5 zwk_31
    obtain ⟨-, rfl⟩ := H1.tk g7 zwk_32
    obtain ⟨f2, H2x⟩ := (g10 l1 C b E).2 _ H1
    exact ⟨f1.tr f2, H2x⟩
theorem sp_50_c8_ftft (a0 : Nat) (a1 : Nat) (a2 : Int32) (σ : zSg) (l0 : Nat) (l1 : Nat) (l2 : Int32) (l3 : Int32) (l4 : Int32) (τ : zSg) (τ5 : zSg) (r5 : Int32) (τ7 : zSg) (r7 : Int32) (τ12 : zSg) (hI : i_50 a0 a1 a2 σ l0 l1 l2 l3 l4 τ) (h2 : l4.toInt < (400 : Int)) (g5 : p_91 l1 (zB + 31) τ r5 τ5) (h6 : r5.toInt = (0 : Int)) (g7 : p_91 l1 (zB + 32) τ5 r7 τ7) (h8 : r7.toInt ≠ (0 : Int)) (h11 : l3.toInt = (0 : Int)) (g12 : p_51 l0 l1 l2 τ7 τ12) :
    i_50 a0 a1 a2 σ l0 l1 l2 (Int32.ofInt (1)) (l4 + Int32.ofInt (1)) τ12 := by
  obtain ⟨rfl, rfl, rfl, G⟩ := hI
  refine ⟨rfl, rfl, rfl, fun D C b E eD hD => ⟨fun A l s H => ?_, fun F H => ?_⟩⟩
  · obtain ⟨f1, ⟨A1, m, K, wb, rfl, hw, H1, hR⟩ | ⟨F, hF, H1⟩⟩ := (G D C b E eD hD).1 A l s H
    · obtain ⟨-, -, v⟩ := H1.tk g5 zwk_31 qsi_31 2 (by decide)
      obtain ⟨ea, rfl⟩ := v h6
      obtain ⟨f2, u, -⟩ := H1.tk g7 zwk_32 qsi_32 2 (by decide)
      obtain ⟨eo, H2x⟩ := u h8
      have ew : wb = false := by
        cases wb with
        | false => rfl
        | true => exact absurd h11 (hw.mpr rfl)
      subst ew
      have hl := H1.le
      have hm := H1.2.2.2.2.2.1
      obtain ⟨f3, R, g1, g2⟩ := (g12 D C b E eD hD).1 _ _ _ H2x
      refine ⟨(f1.tr f2).tr f3, ?_⟩
      cases R with
      | inr F => exact Or.inr ⟨F, hR _ (GL.or0 ea eo g1), g2⟩
      | inl q =>
        obtain ⟨A2, m2⟩ := q
        have g2x : cG _ l1 l0 C b A2 E (l ++ m ++ m2) (s + K + 0 + 2) := g2
        refine Or.inl ⟨A2, m ++ m2, K + 1, true, by rw [← o32i (by omega)], ⟨fun _ => rfl, fun _ => by decide⟩, ?_, fun R hq => hR R (GL.or1 ea eo g1 hq)⟩
        rw [← List.append_assoc]
        exact g2x.wk (by show s + (K + 1) + 1 ≤ s + K + 0 + 2; omega)
    · obtain ⟨-, rfl⟩ := H1.tk g5 zwk_31
      exact absurd (H1.tk g7 zwk_32).1 h8
  · obtain ⟨f1, H1⟩ := (G D C b E eD hD).2 F H
    obtain ⟨-, rfl⟩ := H1.tk g5 zwk_31
    exact absurd (H1.tk g7 zwk_32).1 h8
theorem sp_50_c8_ftff (a0 : Nat) (a1 : Nat) (a2 : Int32) (σ : zSg) (l0 : Nat) (l1 : Nat) (l2 : Int32) (l3 : Int32) (l4 : Int32) (τ : zSg) (τ5 : zSg) (r5 : Int32) (τ7 : zSg) (r7 : Int32) (τ13 : zSg) (τ14 : zSg) (hI : i_50 a0 a1 a2 σ l0 l1 l2 l3 l4 τ) (h2 : l4.toInt < (400 : Int)) (g5 : p_91 l1 (zB + 31) τ r5 τ5) (h6 : r5.toInt = (0 : Int)) (g7 : p_91 l1 (zB + 32) τ5 r7 τ7) (h8 : r7.toInt ≠ (0 : Int)) (h11 : l3.toInt ≠ (0 : Int)) (g13 : p_54 l0 (Int32.ofInt (-14)) τ7 τ13) (g14 : p_51 l0 l1 l2 τ13 τ14) :
    i_50 a0 a1 a2 σ l0 l1 l2 (Int32.ofInt (1)) (l4 + Int32.ofInt (1)) τ14 := by
  obtain ⟨rfl, rfl, rfl, G⟩ := hI
  refine ⟨rfl, rfl, rfl, fun D C b E eD hD => ⟨fun A l s H => ?_, fun F H => ?_⟩⟩
  · obtain ⟨f1, ⟨A1, m, K, wb, rfl, hw, H1, hR⟩ | ⟨F, hF, H1⟩⟩ := (G D C b E eD hD).1 A l s H
    · obtain ⟨-, -, v⟩ := H1.tk g5 zwk_31 qsi_31 2 (by decide)
      obtain ⟨ea, rfl⟩ := v h6
      obtain ⟨f2, u, -⟩ := H1.tk g7 zwk_32 qsi_32 2 (by decide)
      obtain ⟨eo, H2x⟩ := u h8
      have ew : wb = true := by
        cases wb with
        | true => rfl
        | false => exact absurd (hw.mp h11) (by decide)
      subst ew
      have hl := H1.le
      have hm := H1.2.2.2.2.2.1
      obtain ⟨f3, H3x⟩ := (g13 l1 C b E).1 _ _ (s + K + 2) 14 0 (H2x.wk (by show s + K + 2 + 1 ≤ s + K + 1 + 2; omega)) rfl
      obtain ⟨f4, R, g1, g2⟩ := (g14 D C b E eD hD).1 _ _ _ H3x
      refine ⟨((f1.tr f2).tr f3).tr f4, ?_⟩
      cases R with
      | inr F => exact Or.inr ⟨F, hR _ (GL.or0 ea eo g1), g2⟩
      | inl q =>
        obtain ⟨A2, m2⟩ := q
        have g2x : cG _ l1 l0 C b A2 E (l ++ m ++ [(14, 0)] ++ m2) (s + K + 2) := g2
        refine Or.inl ⟨A2, m ++ [(14, 0)] ++ m2, K + 1, true, by rw [← o32i (by omega)], ⟨fun _ => rfl, fun _ => by decide⟩, ?_, fun R hq => hR R (GL.or1 ea eo g1 hq)⟩
        rw [show l ++ (m ++ [(14, 0)] ++ m2) = l ++ m ++ [(14, 0)] ++ m2 by simp only [List.append_assoc]]
        exact g2x.wk (by show s + (K + 1) + 1 ≤ s + K + 2; omega)
    · obtain ⟨-, rfl⟩ := H1.tk g5 zwk_31
      exact absurd (H1.tk g7 zwk_32).1 h8
  · obtain ⟨f1, H1⟩ := (G D C b E eD hD).2 F H
    obtain ⟨-, rfl⟩ := H1.tk g5 zwk_31
    exact absurd (H1.tk g7 zwk_32).1 h8
theorem sp_50_c8_ff (a0 : Nat) (a1 : Nat) (a2 : Int32) (σ : zSg) (l0 : Nat) (l1 : Nat) (l2 : Int32) (l3 : Int32) (l4 : Int32) (τ : zSg) (τ5 : zSg) (r5 : Int32) (τ15 : zSg) (τ16 : zSg) (hI : i_50 a0 a1 a2 σ l0 l1 l2 l3 l4 τ) (h2 : l4.toInt < (400 : Int)) (g5 : p_91 l1 (zB + 31) τ r5 τ5) (h6 : r5.toInt ≠ (0 : Int)) (g15 : p_51 l0 l1 l2 τ5 τ15) (g16 : p_54 l0 (Int32.ofInt (-13)) τ15 τ16) :
    i_50 a0 a1 a2 σ l0 l1 l2 l3 (l4 + Int32.ofInt (1)) τ16 := by
  obtain ⟨rfl, rfl, rfl, G⟩ := hI
  refine ⟨rfl, rfl, rfl, fun D C b E eD hD => ⟨fun A l s H => ?_, fun F H => ?_⟩⟩
  · obtain ⟨f1, ⟨A1, m, K, wb, rfl, hw, H1, hR⟩ | ⟨F, hF, H1⟩⟩ := (G D C b E eD hD).1 A l s H
    · obtain ⟨f2, u, -⟩ := H1.tk g5 zwk_31 qsi_31 2 (by decide)
      obtain ⟨ea, H2x⟩ := u h6
      have hl := H1.le
      have hm := H1.2.2.2.2.2.1
      obtain ⟨f3, R, g1, g2⟩ := (g15 D C b E eD hD).1 _ _ _ H2x
      cases R with
      | inr F =>
        obtain ⟨f4, H4x⟩ := (g16 l1 C b E).2 _ g2
        exact ⟨((f1.tr f2).tr f3).tr f4, Or.inr ⟨F, hR _ (GL.and0 ea g1), H4x⟩⟩
      | inl q =>
        obtain ⟨A2, m2⟩ := q
        have g2x : cG _ l1 l0 C b A2 E (l ++ m ++ m2) (s + K + (bif wb then 1 else 0) + 2) := g2
        obtain ⟨f4, H4x⟩ := (g16 l1 C b E).1 _ _ (s + (K + 1) + (bif wb then 1 else 0)) 13 0 (g2x.wk (by omega)) rfl
        refine ⟨((f1.tr f2).tr f3).tr f4, Or.inl ⟨A2, m ++ m2 ++ [(13, 0)], K + 1, wb, by rw [← o32i (by omega)], hw, ?_, fun R hq => hR R (GL.and1 ea g1 hq)⟩⟩
        rw [show l ++ (m ++ m2 ++ [(13, 0)]) = l ++ m ++ m2 ++ [(13, 0)] by simp only [List.append_assoc]]
        exact H4x
    · exact absurd (H1.tk g5 zwk_31).1 h6
  · obtain ⟨f1, H1⟩ := (G D C b E eD hD).2 F H
    exact absurd (H1.tk g5 zwk_31).1 h6
set_option maxRecDepth 100000 in
theorem sp_50 {sx : zX} {m : Nat} (S54 : zEe sx 54 2 qP_54) (S91 : zEe sx 91 2 qP_91) (S51 : zMt sx m 51 3 qP_51) : zMt sx (m + 1) 50 3 qP_50 := by
  refine zfl zJ_50 (sps := [(51, 3, qP_51), (54, 2, qP_54), (91, 2, qP_91)]) (fun q hq => by
    simp only [List.mem_cons, List.not_mem_nil, or_false] at hq
    rcases hq with rfl | rfl | rfl
    · exact S51
    · exact S54 m
    · exact S91 m) (fun as σ hl => ?_)
  match as, hl with
  | [a0, a1, a2], _ =>
  refine ⟨[(8, fun lo st τ => st = [] ∧ i_50 (q_r a0) (q_r a1) (q_i a2) σ (q_r (lo 0)) (q_r (lo 1)) (q_i (lo 2)) (q_i (lo 3)) (q_i (lo 4)) τ)], 400, ?_, ?_⟩
  · intro q hq
    simp only [List.mem_cons, List.not_mem_nil, or_false] at hq
    rcases hq with rfl
    · rintro lo st τ ⟨rfl, hI⟩
      refine ⟨400, ?_⟩
      refine And.intro (fun h2 => ?_) (fun h2 => ?_)
      · refine And.intro (fun h3 => ?_) (fun h3 => ?_)
        · exact ⟨rfl, sp_50_c8_tt (q_r a0) (q_r a1) (q_i a2) σ (q_r (lo 0)) (q_r (lo 1)) (q_i (lo 2)) (q_i (lo 3)) (q_i (lo 4)) τ hI (cm3t h2) (cm0t h3)⟩
        · refine fun o4 τ4 g4 => ?_
          obtain ⟨rfl, g4⟩ := g4
          exact ⟨rfl, sp_50_c8_tf (q_r a0) (q_r a1) (q_i a2) σ (q_r (lo 0)) (q_r (lo 1)) (q_i (lo 2)) (q_i (lo 3)) (q_i (lo 4)) τ τ4 hI (cm3t h2) (cm0f h3) g4⟩
      · refine fun o5 τ5 g5 => ?_
        obtain ⟨r5, rfl, g5⟩ := g5
        refine And.intro (fun h6 => ?_) (fun h6 => ?_)
        · refine fun o7 τ7 g7 => ?_
          obtain ⟨r7, rfl, g7⟩ := g7
          refine And.intro (fun h8 => ?_) (fun h8 => ?_)
          · refine And.intro (fun h9 => ?_) (fun h9 => ?_)
            · exact ⟨rfl, sp_50_c8_fttt (q_r a0) (q_r a1) (q_i a2) σ (q_r (lo 0)) (q_r (lo 1)) (q_i (lo 2)) (q_i (lo 3)) (q_i (lo 4)) τ τ5 r5 τ7 r7 hI (cm3f h2) g5 (cm0t h6) g7 (cm0t h8) (cm0t h9)⟩
            · refine fun o10 τ10 g10 => ?_
              obtain ⟨rfl, g10⟩ := g10
              exact ⟨rfl, sp_50_c8_fttf (q_r a0) (q_r a1) (q_i a2) σ (q_r (lo 0)) (q_r (lo 1)) (q_i (lo 2)) (q_i (lo 3)) (q_i (lo 4)) τ τ5 r5 τ7 r7 τ10 hI (cm3f h2) g5 (cm0t h6) g7 (cm0t h8) (cm0f h9) g10⟩
          · refine And.intro (fun h11 => ?_) (fun h11 => ?_)
            · refine fun o12 τ12 g12 => ?_
              obtain ⟨rfl, g12⟩ := g12
              exact ⟨rfl, sp_50_c8_ftft (q_r a0) (q_r a1) (q_i a2) σ (q_r (lo 0)) (q_r (lo 1)) (q_i (lo 2)) (q_i (lo 3)) (q_i (lo 4)) τ τ5 r5 τ7 r7 τ12 hI (cm3f h2) g5 (cm0t h6) g7 (cm0f h8) (cm0t h11) g12⟩
            · refine fun o13 τ13 g13 => ?_
              obtain ⟨rfl, g13⟩ := g13
              refine fun o14 τ14 g14 => ?_
              obtain ⟨rfl, g14⟩ := g14
              exact ⟨rfl, sp_50_c8_ftff (q_r a0) (q_r a1) (q_i a2) σ (q_r (lo 0)) (q_r (lo 1)) (q_i (lo 2)) (q_i (lo 3)) (q_i (lo 4)) τ τ5 r5 τ7 r7 τ13 τ14 hI (cm3f h2) g5 (cm0t h6) g7 (cm0f h8) (cm0f h11) g13 g14⟩
        · refine fun o15 τ15 g15 => ?_
          obtain ⟨rfl, g15⟩ := g15
          refine fun o16 τ16 g16 => ?_
          obtain ⟨rfl, g16⟩ := g16
          exact ⟨rfl, sp_50_c8_ff (q_r a0) (q_r a1) (q_i a2) σ (q_r (lo 0)) (q_r (lo 1)) (q_i (lo 2)) (q_i (lo 3)) (q_i (lo 4)) τ τ5 r5 τ15 τ16 hI (cm3f h2) g5 (cm0f h6) g15 g16⟩
  · refine fun o1 τ1 g1 => ?_
    obtain ⟨rfl, g1⟩ := g1
    exact ⟨rfl, sp_50_e (q_r a0) (q_r a1) (q_i a2) σ τ1 g1⟩
theorem sc_atom {sx : zX} (S91 : zEe sx 91 2 qP_91) (S93 : zEe sx 93 2 qP_93) (S94 : zEe sx 94 2 qP_94) (S52 : zEe sx 52 2 qP_52) (S54 : zEe sx 54 2 qP_54) : ∀ m, zMt sx m 51 3 qP_51 ∧ zMt sx m 50 3 qP_50
  | 0 => ⟨zMt0, zMt0⟩
  | m + 1 => by
    obtain ⟨h1, h2⟩ := sc_atom S91 S93 S94 S52 S54 m
    exact ⟨sp_51 (m := m) S91 S54 S93 S94 S52 h1 h2, sp_50 (m := m) S54 S91 h1⟩
