/-! the class's texts of a law, exact; printed with wip/gen/gen_t8.py -/
theorem cG.nw {σ τ : zSg} {t r C A E s w : Nat} {b : Nat → Int} {l : zSs} {z : List Int} (H : cG σ t r C b A E l s) (G : p_92 t w σ τ) (hw : zwk w) (hz : q_si w = z) : cF σ τ t r C ∧ (∀ A1, tw b E z A = some A1 → cG τ t r C b A1 E l s) ∧ (tw b E z A = none → cX τ t r C b E A) := by
  have hb := H.2.1
  have hl : (q_s w).length = z.length := by rw [← hz, q_si_len]
  have hA := H.le
  have h9 := H.2.2.2.2.2.1
  have := (G A E H.1 hw).1 H.2.2.1
  rw [hb, hz, hl] at this
  by_cases hc : zWa b E z A
  · obtain rfl := this.1 hc
    have g4 : A + z.length ≤ E := by
      have h8 : zRn b E 97 122 A = A + z.length := hc.1
      rw [← h8]
      exact zRn_le hA.1
    have hg := zBl_ge (b := b) (E := E) (P := A + z.length)
    refine ⟨cF.tp (Or.inl rfl), fun A1 q => ?_, fun q => ?_⟩
    · rw [tw_pos hc] at q
      cases q
      exact H.at (zBl_le g4) (by omega)
    · rw [tw_pos hc] at q
      cases q
  · obtain rfl := this.2 hc
    refine ⟨cF.tp (Or.inr rfl), fun A1 q => ?_, fun _ => H.wr⟩
    rw [tw_neg hc] at q
    cases q
theorem cX.nw {σ τ : zSg} {t r C E F w : Nat} {b : Nat → Int} (H : cX σ t r C b E F) (G : p_92 t w σ τ) (hw : zwk w) : τ = σ := by
  have hn := H.no
  obtain ⟨⟨A, g1⟩, -⟩ := H
  exact (G A E g1 hw).2 hn
noncomputable def p_49 (r t : Nat) (σ : zSg) (k : Int32) (σ' : zSg) : Prop := ∀ C b E, (∀ A l s, cG σ t r C b A E l s → cF σ σ' t r C ∧ ((∃ A1 c, tws b E A [wWarm, wDust, wFine] 0 = some (A1, c) ∧ k = Int32.ofNat c ∧ cG σ' t r C b A1 E l s) ∨ (tws b E A [wWarm, wDust, wFine] 0 = none ∧ cX σ' t r C b E A))) ∧ (∀ F, cX σ t r C b E F → cF σ σ' t r C ∧ cX σ' t r C b E F)
theorem zJ_49 : zJ3 49 z_m49 z_c49 z_h49 := ⟨rfl, rfl, rfl⟩
theorem sp_49_ett (a0 : Nat) (a1 : Nat) (σ : zSg) (τ1 : zSg) (r1 : Int32) (τ3 : zSg) (r3 : Int32) (τ5 : zSg) (g1 : p_91 a1 (zB + 28) σ r1 τ1) (h2 : r1.toInt = (0 : Int)) (g3 : p_91 a1 (zB + 29) τ1 r3 τ3) (h4 : r3.toInt = (0 : Int)) (g5 : p_92 a1 (zB + 30) τ3 τ5) :
    p_49 (a0) (a1) σ (Int32.ofInt (2)) τ5 := by
  intro C b E
  refine ⟨fun A l s H => ?_, fun F H => ?_⟩
  · obtain ⟨-, -, v⟩ := H.tk g1 zwk_28 qsi_28 0 (by decide)
    obtain ⟨e0, rfl⟩ := v h2
    obtain ⟨-, -, v⟩ := H.tk g3 zwk_29 qsi_29 0 (by decide)
    obtain ⟨e1, rfl⟩ := v h4
    obtain ⟨f1, u, v⟩ := H.nw g5 zwk_30 qsi_30
    refine ⟨f1, ?_⟩
    cases h3 : tw b E wFine A with
    | some A1 => exact Or.inl ⟨A1, 2, by simp only [tws, e0, e1, h3], rfl, u A1 h3⟩
    | none => exact Or.inr ⟨by simp only [tws, e0, e1, h3], v h3⟩
  · obtain ⟨-, rfl⟩ := H.tk g1 zwk_28
    obtain ⟨-, rfl⟩ := H.tk g3 zwk_29
    obtain rfl := H.nw g5 zwk_30
    exact ⟨cF.rf, H⟩
theorem sp_49_etf (a0 : Nat) (a1 : Nat) (σ : zSg) (τ1 : zSg) (r1 : Int32) (τ3 : zSg) (r3 : Int32) (g1 : p_91 a1 (zB + 28) σ r1 τ1) (h2 : r1.toInt = (0 : Int)) (g3 : p_91 a1 (zB + 29) τ1 r3 τ3) (h4 : r3.toInt ≠ (0 : Int)) :
    p_49 (a0) (a1) σ (Int32.ofInt (1)) τ3 := by
  intro C b E
  refine ⟨fun A l s H => ?_, fun F H => ?_⟩
  · obtain ⟨-, -, v⟩ := H.tk g1 zwk_28 qsi_28 0 (by decide)
    obtain ⟨e0, rfl⟩ := v h2
    obtain ⟨f1, u, -⟩ := H.tk g3 zwk_29 qsi_29 0 (by decide)
    obtain ⟨e1, H1⟩ := u h4
    exact ⟨f1, Or.inl ⟨_, 1, by simp only [tws, e0, e1], rfl, H1⟩⟩
  · obtain ⟨-, rfl⟩ := H.tk g1 zwk_28
    exact absurd (H.tk g3 zwk_29).1 h4
theorem sp_49_ef (a0 : Nat) (a1 : Nat) (σ : zSg) (τ1 : zSg) (r1 : Int32) (g1 : p_91 a1 (zB + 28) σ r1 τ1) (h2 : r1.toInt ≠ (0 : Int)) :
    p_49 (a0) (a1) σ (Int32.ofInt (0)) τ1 := by
  intro C b E
  refine ⟨fun A l s H => ?_, fun F H => absurd (H.tk g1 zwk_28).1 h2⟩
  obtain ⟨f1, u, -⟩ := H.tk g1 zwk_28 qsi_28 0 (by decide)
  obtain ⟨e0, H1⟩ := u h2
  exact ⟨f1, Or.inl ⟨_, 0, by simp only [tws, e0], rfl, H1⟩⟩
noncomputable def qP_49 : zPp := fun as σ o σ' => match as with
  | [a0, a1] => ∃ r, o = .inl (some (.int r)) ∧ p_49 (q_r a0) (q_r a1) σ r σ'
  | _ => True
set_option maxRecDepth 100000 in
theorem sp_49 {sx : zX} (S91 : zEe sx 91 2 qP_91) (S92 : zEe sx 92 2 qP_92) : zEe sx 49 2 qP_49 := by
  refine zfle zJ_49 (sps := [(91, 2, qP_91), (92, 2, qP_92)]) (fun q hq => by
    simp only [List.mem_cons, List.not_mem_nil, or_false] at hq
    rcases hq with rfl | rfl
    · exact S91
    · exact S92) (fun as σ hl => ?_)
  match as, hl with
  | [a0, a1], _ =>
  refine ⟨[], 400, ?_, ?_⟩
  · exact fun q hq => absurd hq List.not_mem_nil
  · refine fun o1 τ1 g1 => ?_
    obtain ⟨r1, rfl, g1⟩ := g1
    refine And.intro (fun h2 => ?_) (fun h2 => ?_)
    · refine fun o3 τ3 g3 => ?_
      obtain ⟨r3, rfl, g3⟩ := g3
      refine And.intro (fun h4 => ?_) (fun h4 => ?_)
      · refine fun o5 τ5 g5 => ?_
        obtain ⟨rfl, g5⟩ := g5
        exact ⟨_, rfl, sp_49_ett (q_r a0) (q_r a1) σ τ1 r1 τ3 r3 τ5 g1 (cm0t h2) g3 (cm0t h4) g5⟩
      · exact ⟨_, rfl, sp_49_etf (q_r a0) (q_r a1) σ τ1 r1 τ3 r3 g1 (cm0t h2) g3 (cm0f h4)⟩
    · exact ⟨_, rfl, sp_49_ef (q_r a0) (q_r a1) σ τ1 r1 g1 (cm0f h2)⟩
noncomputable def cE (σ : zSg) (t r C K0 K1 K2 : Nat) : Prop := q_r (σ.1 r 0) = K0 ∧ q_r (σ.1 r 1) = K1 ∧ q_r (σ.1 r 2) = K2 ∧ (K0 ≠ t ∧ K0 ≠ r ∧ K0 ≠ C ∧ K0 ≠ q_r (σ.1 t 0)) ∧ (K1 ≠ t ∧ K1 ≠ r ∧ K1 ≠ C ∧ K1 ≠ q_r (σ.1 t 0)) ∧ (K2 ≠ t ∧ K2 ≠ r ∧ K2 ≠ C ∧ K2 ≠ q_r (σ.1 t 0)) ∧ K0 ≠ K1 ∧ K0 ≠ K2 ∧ K1 ≠ K2
noncomputable def cH (σ σ' : zSg) (t r C K0 K1 K2 : Nat) : Prop := σ'.2 = σ.2 ∧ ∀ c k, ¬ (c = t ∧ (k = 2 ∨ k = 3)) → ¬ (c = r ∧ (k = 4 ∨ k = 5)) → c ≠ C → c ≠ K0 → c ≠ K1 → c ≠ K2 → σ'.1 c k = σ.1 c k
noncomputable def cLn (σ : zSg) (K0 K1 K2 : Nat) (ls : List gLn4) : Prop := ∀ i x, ls[i]? = some x → σ.1 K0 i = .int (Int32.ofNat x.1) ∧ σ.1 K1 i = .int (Int32.ofNat x.2.1) ∧ σ.1 K2 i = .int (Int32.ofNat x.2.2.2)
section CTX
variable {σ τ υ : zSg} {t r C K0 K1 K2 A E F s : Nat} {b : Nat → Int} {l : zSs}
theorem cH.tr (h1 : cH σ τ t r C K0 K1 K2) (h2 : cH τ υ t r C K0 K1 K2) : cH σ υ t r C K0 K1 K2 := ⟨h2.1.trans h1.1, fun c k q1 q2 q3 q4 q5 q6 => (h2.2 c k q1 q2 q3 q4 q5 q6).trans (h1.2 c k q1 q2 q3 q4 q5 q6)⟩
theorem cH.rf : cH σ σ t r C K0 K1 K2 := ⟨rfl, fun _ _ _ _ _ _ _ _ => rfl⟩
theorem cH.of (h : cF σ τ t r C) : cH σ τ t r C K0 K1 K2 := ⟨h.1, fun c k q1 q2 q3 _ _ _ => h.2 c k q1 (fun q => q2 ⟨q.1, by omega⟩) q3⟩
theorem cH.w {c k : Nat} {v : Value} (h : c = K0 ∨ c = K1 ∨ c = K2 ∨ (c = r ∧ (k = 4 ∨ k = 5))) : cH σ (q_w σ c k v) t r C K0 K1 K2 := ⟨rfl, fun c' k' q1 q2 q3 q4 q5 q6 => q_w_ne (fun e1 e2 => by
  rcases h with h | h | h | h
  · exact q4 (e1.trans h)
  · exact q5 (e1.trans h)
  · exact q6 (e1.trans h)
  · exact q2 ⟨e1.trans h.1, by omega⟩)⟩
theorem cE.of (hr : r ≠ t) (hC : C ≠ r) (hCt : C ≠ t) (h : cH σ τ t r C K0 K1 K2) (H : cE σ t r C K0 K1 K2) : cE τ t r C K0 K1 K2 := by
  obtain ⟨h1, h2, h3, ⟨a1, a2, a3, a4⟩, ⟨b1, b2, b3, b4⟩, ⟨c1, c2, c3, c4⟩, d⟩ := H
  have g : ∀ k, k ≠ 4 → k ≠ 5 → τ.1 r k = σ.1 r k := fun k q1 q2 => h.2 r k (fun q => hr q.1) (fun q => by omega) (fun q => hC q.symm) (fun q => a2 q.symm) (fun q => b2 q.symm) (fun q => c2 q.symm)
  have g0 : τ.1 t 0 = σ.1 t 0 := h.2 t 0 (fun q => by omega) (fun q => hr q.1.symm) (fun q => hCt q.symm) (fun q => a1 q.symm) (fun q => b1 q.symm) (fun q => c1 q.symm)
  unfold cE
  rw [g 0 (by omega) (by omega), g 1 (by omega) (by omega), g 2 (by omega) (by omega), g0]
  exact ⟨h1, h2, h3, ⟨a1, a2, a3, a4⟩, ⟨b1, b2, b3, b4⟩, ⟨c1, c2, c3, c4⟩, d⟩
/-- a write elsewhere -/
theorem cS.el {c k : Nat} {v : Value} (H : cS σ t A E) (h1 : c ≠ t) (h2 : c ≠ q_r (σ.1 t 0)) : cS (q_w σ c k v) t A E ∧ cb (q_w σ c k v) t = cb σ t := by
  have gt : ∀ i, (q_w σ c k v).1 t i = σ.1 t i := fun i => q_w_ne (fun q _ => h1 q.symm)
  have gb : cu (q_w σ c k v) t = cu σ t := by
    funext i
    unfold cu
    rw [gt 0, q_w_ne (fun q _ => h2 q.symm)]
  obtain ⟨a1, a2, a3, a4, a5, a6⟩ := H
  refine ⟨⟨?_, ?_, ?_, a4, a5, ?_⟩, ?_⟩
  · rw [gt]; exact a1
  · rw [gt]; exact a2
  · rw [gt]; exact a3
  · rw [gb]; exact a6
  · funext i
    unfold cb
    rw [gb]
theorem cD.el {c k : Nat} {v : Value} (H : cD σ t r C) (h1 : c ≠ t) (h3 : c = r → k ≠ 3) : cD (q_w σ c k v) t r C := by
  obtain ⟨d1, d2, d3, d4, d5, d6, d7⟩ := H
  have g0 : (q_w σ c k v).1 t 0 = σ.1 t 0 := q_w_ne (fun q _ => h1 q.symm)
  refine ⟨d1, ?_, d3, d4, ?_, ?_, d7⟩
  · rw [q_w_ne (fun q1 q2 => h3 q1.symm q2.symm)]; exact d2
  · rw [g0]; exact d5
  · rw [g0]; exact d6
theorem cG.el {c k : Nat} {v : Value} (H : cG σ t r C b A E l s) (h1 : c ≠ t) (h2 : c ≠ q_r (σ.1 t 0)) (h3 : c = r → k = 4) (h4 : c ≠ C) : cG (q_w σ c k v) t r C b A E l s := by
  obtain ⟨a1, a2, a3, a4, a5, a6, a7⟩ := H
  obtain ⟨s1, s2⟩ := a1.el (k := k) (v := v) h1 h2
  refine ⟨s1, s2.trans a2, ?_, a4.el h1 (fun q => by have := h3 q; omega), ?_, a6, fun i x hx => ?_⟩
  · rw [q_w_ne (fun q _ => h1 q.symm)]; exact a3
  · rw [q_w_ne (fun q1 q2 => by have := h3 q1.symm; omega)]; exact a5
  · rw [q_w_ne (fun q _ => h4 q.symm)]; exact a7 i x hx
theorem cX.el {c k : Nat} {v : Value} (H : cX σ t r C b E F) (h1 : c ≠ t) (h2 : c ≠ q_r (σ.1 t 0)) (h3 : c = r → k ≠ 3) : cX (q_w σ c k v) t r C b E F := by
  obtain ⟨⟨A, a1⟩, a2, a3, a4, a5⟩ := H
  obtain ⟨s1, s2⟩ := a1.el (k := k) (v := v) h1 h2
  refine ⟨⟨A, s1⟩, s2.trans a2, ?_, a4, a5.el h1 h3⟩
  rw [q_w_ne (fun q _ => h1 q.symm)]; exact a3
theorem cF.el {c k : Nat} (h : cF σ τ t r C) (h1 : c ≠ t) (h2 : c ≠ r) (h3 : c ≠ C) : τ.1 c k = σ.1 c k := h.2 c k (fun q => h1 q.1) (fun q => h2 q.1) h3
theorem cLn.of {ls : List gLn4} (h : cF σ τ t r C) (he : cE υ t r C K0 K1 K2) (H : cLn σ K0 K1 K2 ls) : cLn τ K0 K1 K2 ls := by
  obtain ⟨-, -, -, ⟨a1, a2, a3, -⟩, ⟨b1, b2, b3, -⟩, ⟨c1, c2, c3, -⟩, -⟩ := he
  intro i x hx
  rw [h.el a1 a2 a3, h.el b1 b2 b3, h.el c1 c2 c3]
  exact H i x hx
theorem cG.ra (H : cG σ t r C b A E l s) : r ≠ t ∧ C ≠ r ∧ C ≠ t := ⟨H.2.2.2.1.1, H.2.2.2.1.2.2.2.1, H.2.2.2.1.2.2.1⟩
theorem cX.ra (H : cX σ t r C b E F) : r ≠ t ∧ C ≠ r ∧ C ≠ t := ⟨H.2.2.2.2.1, H.2.2.2.2.2.2.2.1, H.2.2.2.2.2.2.1⟩
end CTX
abbrev cT (σ' : zSg) (r C K0 K1 K2 : Nat) (w : Int32) (R : (List gLn4 × zSs) ⊕ Nat) : Prop := match R with
  | .inl (ls, l) => w.toInt = -1 ∧ ls.length ≤ 12 ∧ l.length ≤ 400 ∧ σ'.1 r 4 = .int (Int32.ofNat ls.length) ∧ σ'.1 r 5 = .int (Int32.ofNat l.length) ∧ cLn σ' K0 K1 K2 ls ∧ ∀ i x, l[i]? = some x → σ'.1 C i = .int (enc x)
  | .inr F => w = Int32.ofNat F ∧ F ≤ 400
/-- what holds before a text is read -/
noncomputable def cA (σ : zSg) (t r C K0 K1 K2 : Nat) (b : Nat → Int) (E : Nat) : Prop := cS0 σ t E ∧ cb σ t = b ∧ cD σ t r C ∧ cE σ t r C K0 K1 K2
noncomputable def p_47 (r t : Nat) (σ : zSg) (w : Int32) (σ' : zSg) : Prop := ∀ C K0 K1 K2 b E, cA σ t r C K0 K1 K2 b E → cH σ σ' t r C K0 K1 K2 ∧ ∃ R, GLaw b E R ∧ cT σ' r C K0 K1 K2 w R
noncomputable def i_47 (r t : Nat) (σ : zSg) (l0 l1 : Nat) (nd ln : Int32) (τ : zSg) : Prop := l0 = r ∧ l1 = t ∧ ∀ C K0 K1 K2 b E, cA σ t r C K0 K1 K2 b E → cH σ τ t r C K0 K1 K2 ∧ cE τ t r C K0 K1 K2 ∧ ((∃ A ls l, ln = Int32.ofNat ls.length ∧ ls.length ≤ 12 ∧ cG τ t r C b A E l 0 ∧ cLn τ K0 K1 K2 ls ∧ τ.1 r 4 = .int (Int32.ofNat ls.length) ∧ ((nd.toInt ≠ 0 ∧ ∀ R, GT b E A ls l R → GLaw b E R) ∨ (nd.toInt = 0 ∧ GLaw b E (.inl (ls, l))))) ∨ (∃ F, GLaw b E (.inr F) ∧ cX τ t r C b E F))
noncomputable def j_47 (r t : Nat) (σ : zSg) (l0 l1 : Nat) (ln : Int32) (τ : zSg) : Prop := l0 = r ∧ l1 = t ∧ ∀ C K0 K1 K2 b E, cA σ t r C K0 K1 K2 b E → cH σ τ t r C K0 K1 K2 ∧ cE τ t r C K0 K1 K2 ∧ ((∃ A A1 ls l c v m, ln = Int32.ofNat ls.length ∧ ls.length < 12 ∧ GI b E A (.inl (A1, c, v, m)) ∧ cG τ t r C b A1 E (l ++ m) 0 ∧ cLn τ K0 K1 K2 ls ∧ τ.1 K0 ls.length = .int (Int32.ofNat c) ∧ τ.1 K1 ls.length = .int (Int32.ofNat v) ∧ ∀ R, GT b E A ls l R → GLaw b E R) ∨ (∃ F, GLaw b E (.inr F) ∧ cX τ t r C b E F))
theorem zJ_47 : zJ3 47 z_m47 z_c47 z_h47 := ⟨rfl, rfl, rfl⟩
theorem cX.num {T2 T3 : zSg} {t r C K0 K1 K2 E F n : Nat} {b : Nat → Int} {v1 : Value} {x3 : Int32} (H : cX T2 t r C b E F) (he : cE T2 t r C K0 K1 K2) (C3 : p_91 t (zB + 27) (q_w T2 K1 n v1) x3 T3) : x3.toInt = 0 ∧ cH T2 T3 t r C K0 K1 K2 ∧ cE T3 t r C K0 K1 K2 ∧ cX T3 t r C b E F := by
  have hra := H.ra
  obtain ⟨-, -, -, -, ⟨b1, b2, b3, b4⟩, -⟩ := id he
  have H1 := H.el (c := K1) (k := n) (v := v1) b1 b4 (fun q => absurd q b2)
  obtain ⟨h9, rfl⟩ := H1.tk C3 zwk_27
  have x1 : cH T2 (q_w T2 K1 n v1) t r C K0 K1 K2 := cH.w (Or.inr (Or.inl rfl))
  exact ⟨h9, x1, he.of hra.1 hra.2.1 hra.2.2 x1, H1⟩
theorem cX.line {T1 T2 T3 : zSg} {t r C K0 K1 K2 E F n : Nat} {b : Nat → Int} {v0 v1 : Value} {x2 x3 : Int32} (H : cX T1 t r C b E F) (he : cE T1 t r C K0 K1 K2) (C2 : p_96 t (Int32.ofInt 0) (Int32.ofInt 20) (q_w T1 K0 n v0) x2 T2) (C3 : p_91 t (zB + 27) (q_w T2 K1 n v1) x3 T3) : x3.toInt = 0 ∧ cH T1 T3 t r C K0 K1 K2 ∧ cE T3 t r C K0 K1 K2 ∧ cX T3 t r C b E F := by
  have hra := H.ra
  obtain ⟨-, -, -, ⟨a1, a2, a3, a4⟩, -⟩ := id he
  have H1 := H.el (c := K0) (k := n) (v := v0) a1 a4 (fun q => absurd q a2)
  have x1 : cH T1 (q_w T1 K0 n v0) t r C K0 K1 K2 := cH.w (Or.inl rfl)
  have he1 := he.of hra.1 hra.2.1 hra.2.2 x1
  obtain ⟨f2, H2⟩ := H1.nb C2 (by decide)
  have he2 := he1.of hra.1 hra.2.1 hra.2.2 (cH.of f2)
  obtain ⟨h9, x3, he3, H3⟩ := H2.num he2 C3
  exact ⟨h9, (x1.tr (cH.of f2)).tr x3, he3, H3⟩
theorem sp_47_e (a0 : Nat) (a1 : Nat) (σ : zSg) (τ1 : zSg) (τ2 : zSg) (r2 : Int32) (g1 : p_87 a1 σ τ1) (g2 : p_89 a1 (q_w (q_w τ1 a0 4 (.int (Int32.ofInt (0)))) a0 5 (.int (Int32.ofInt (0)))) r2 τ2) :
    i_47 a0 a1 σ a0 a1 r2 (Int32.ofInt (0)) τ2 := by
  refine ⟨rfl, rfl, fun C K0 K1 K2 b E H => ?_⟩
  obtain ⟨S, hb, hd, he⟩ := H
  have e1 := g1 E S
  rw [hb] at e1
  have hB : zBl b E 0 ≤ E := zBl_le (Nat.zero_le _)
  obtain ⟨S2', b2'⟩ := S.mk (w := .int (Int32.ofInt (-1))) hB
  rw [← e1] at S2' b2'
  have S2 : cS τ1 a1 (zBl b E 0) E := S2'
  have hb2 : cb τ1 a1 = b := b2'.trans hb
  have hd2 : cD τ1 a1 a0 C := by rw [e1]; exact (hd.tp (Or.inr rfl)).tp (Or.inl rfl)
  have x0 : cF σ τ1 a1 a0 C := by rw [e1]; exact (cF.tp (Or.inr rfl)).tr (cF.tp (Or.inl rfl))
  have w3 : τ1.1 a1 3 = .int (Int32.ofInt (-1)) := by rw [e1, q_w_ne (fun _ q => by omega), q_w_at]
  have he0 := he.of hd.1 hd.2.2.2.1 hd.2.2.1 (cH.of x0)
  have n1 : a0 ≠ q_r (τ1.1 a1 0) := fun q => hd2.2.2.2.2.2.1 q.symm
  obtain ⟨S3, b3⟩ := S2.el (c := a0) (k := 4) (v := .int (Int32.ofInt 0)) hd.1 n1
  have d3 := hd2.el (c := a0) (k := 4) (v := .int (Int32.ofInt 0)) hd.1 (fun _ => by omega)
  have n2 : a0 ≠ q_r ((q_w τ1 a0 4 (.int (Int32.ofInt 0))).1 a1 0) := fun q => d3.2.2.2.2.2.1 q.symm
  obtain ⟨S4, b4⟩ := S3.el (c := a0) (k := 5) (v := .int (Int32.ofInt 0)) hd.1 n2
  have d4 := d3.el (c := a0) (k := 5) (v := .int (Int32.ofInt 0)) hd.1 (fun _ => by omega)
  have x1 : cH τ1 (q_w τ1 a0 4 (.int (Int32.ofInt 0))) a1 a0 C K0 K1 K2 := cH.w (Or.inr (Or.inr (Or.inr ⟨rfl, Or.inl rfl⟩)))
  have x2 : cH (q_w τ1 a0 4 (.int (Int32.ofInt 0))) (q_w (q_w τ1 a0 4 (.int (Int32.ofInt 0))) a0 5 (.int (Int32.ofInt 0))) a1 a0 C K0 K1 K2 := cH.w (Or.inr (Or.inr (Or.inr ⟨rfl, Or.inr rfl⟩)))
  have he2 := (he0.of hd.1 hd.2.2.2.1 hd.2.2.1 x1).of hd.1 hd.2.2.2.1 hd.2.2.1 x2
  obtain rfl := g2.1.symm
  have hg := g2.2 _ E S4
  have w3b : (q_w (q_w τ1 a0 4 (.int (Int32.ofInt 0))) a0 5 (.int (Int32.ofInt 0))).1 a1 3 = .int (Int32.ofInt (-1)) := by
    rw [q_w_ne (fun q _ => hd.1 q.symm), q_w_ne (fun q _ => hd.1 q.symm)]; exact w3
  have HG : cG (q_w (q_w τ1 a0 4 (.int (Int32.ofInt 0))) a0 5 (.int (Int32.ofInt 0))) a1 a0 C b (zBl b E 0) E [] 0 := ⟨S4, (b4.trans b3).trans hb2, by rw [w3b]; rfl, d4, q_w_at _ _ _ _, Nat.zero_le _, fun i x hx => by simp at hx⟩
  have w4 : (q_w (q_w τ1 a0 4 (.int (Int32.ofInt 0))) a0 5 (.int (Int32.ofInt 0))).1 a0 4 = .int (Int32.ofNat 0) := by
    rw [q_w_ne (fun _ q => by omega), q_w_at]; rfl
  refine ⟨((cH.of x0).tr x1).tr x2, he2, Or.inl ⟨_, [], [], rfl, by show 0 ≤ 12; omega, HG, fun i x hx => by simp at hx, w4, ?_⟩⟩
  by_cases hn : zBl b E 0 = E
  · refine Or.inr ⟨?_, Or.inl ⟨hn, rfl⟩⟩
    by_cases q : (r2).toInt = 0
    · exact q
    · have := (hg.mp q).2
      omega
  · exact Or.inl ⟨hg.mpr ⟨HG.2.2.1, by omega⟩, fun R h9 => Or.inr ⟨hn, h9⟩⟩
theorem sp_47_c13_tt (a0 : Nat) (a1 : Nat) (σ : zSg) (l0 : Nat) (l1 : Nat) (l2 : Int32) (l3 : Int32) (τ : zSg) (τ5 : zSg) (r5 : Int32) (hI : i_47 a0 a1 σ l0 l1 l2 l3 τ) (h3 : l2.toInt = (0 : Int)) (h4 : l2.toInt = (0 : Int)) (g5 : p_88 l1 τ r5 τ5) :
    p_47 (a0) (a1) σ r5 τ5 := by
  obtain ⟨rfl, rfl, G⟩ := hI
  intro C K0 K1 K2 b E H
  obtain ⟨f0, he, hx⟩ := G C K0 K1 K2 b E H
  obtain ⟨e5, e6⟩ := g5
  rw [e5]
  refine ⟨f0, ?_⟩
  rcases hx with ⟨A, ls, l, rfl, hls, H1, hl, w4, hg⟩ | ⟨F, hF, H1⟩
  · rcases hg with ⟨h9, -⟩ | ⟨-, h9⟩
    · exact absurd h4 h9
    · have hle := H1.le
      have hm := H1.2.2.2.2.2.1
      exact ⟨_, h9, by rw [e6]; exact H1.2.2.1, hls, by omega, w4, H1.2.2.2.2.1, hl, H1.2.2.2.2.2.2⟩
  · exact ⟨_, hF, by rw [e6, H1.2.2.1]; rfl, H1.2.2.2.1⟩
theorem sp_47_c13_tf (a0 : Nat) (a1 : Nat) (σ : zSg) (l0 : Nat) (l1 : Nat) (l2 : Int32) (l3 : Int32) (τ : zSg) (τ6 : zSg) (τ7 : zSg) (r7 : Int32) (hI : i_47 a0 a1 σ l0 l1 l2 l3 τ) (h3 : l2.toInt = (0 : Int)) (h4 : l2.toInt ≠ (0 : Int)) (g6 : p_90 l1 τ τ6) (g7 : p_88 l1 τ6 r7 τ7) :
    p_47 (a0) (a1) σ r7 τ7 := by
  exact absurd h3 h4
theorem sp_47_c13_ftt (a0 : Nat) (a1 : Nat) (σ : zSg) (l0 : Nat) (l1 : Nat) (l2 : Int32) (l3 : Int32) (τ : zSg) (τ10 : zSg) (r10 : Int32) (hI : i_47 a0 a1 σ l0 l1 l2 l3 τ) (h3 : l2.toInt ≠ (0 : Int)) (h8 : l3.toInt ≥ (12 : Int)) (h9 : l2.toInt = (0 : Int)) (g10 : p_88 l1 τ r10 τ10) :
    p_47 (a0) (a1) σ r10 τ10 := by
  exact absurd h9 h3
theorem sp_47_c13_ftf (a0 : Nat) (a1 : Nat) (σ : zSg) (l0 : Nat) (l1 : Nat) (l2 : Int32) (l3 : Int32) (τ : zSg) (τ11 : zSg) (τ12 : zSg) (r12 : Int32) (hI : i_47 a0 a1 σ l0 l1 l2 l3 τ) (h3 : l2.toInt ≠ (0 : Int)) (h8 : l3.toInt ≥ (12 : Int)) (h9 : l2.toInt ≠ (0 : Int)) (g11 : p_90 l1 τ τ11) (g12 : p_88 l1 τ11 r12 τ12) :
    p_47 (a0) (a1) σ r12 τ12 := by
  obtain ⟨rfl, rfl, G⟩ := hI
  intro C K0 K1 K2 b E H
  obtain ⟨f0, he, hx⟩ := G C K0 K1 K2 b E H
  obtain ⟨e5, e6⟩ := g12
  rw [e5]
  rcases hx with ⟨A, ls, l, rfl, hls, H1, hl, w4, hg⟩ | ⟨F, hF, H1⟩
  · rcases hg with ⟨-, hx9⟩ | ⟨hx9, -⟩
    · rw [o32 (by omega)] at h8
      obtain ⟨f1, H2x⟩ := H1.rf g11
      exact ⟨f0.tr (cH.of f1), _, hx9 _ (GT.full (by omega)), by rw [e6, H2x.2.2.1]; rfl, H2x.2.2.2.1⟩
    · exact absurd hx9 h9
  · obtain rfl := H1.rf g11
    exact ⟨f0, _, hF, by rw [e6, H1.2.2.1]; rfl, H1.2.2.2.1⟩
theorem sp_47_c13_fft (a0 : Nat) (a1 : Nat) (σ : zSg) (l0 : Nat) (l1 : Nat) (l2 : Int32) (l3 : Int32) (τ : zSg) (τ13 : zSg) (r13 : Int32) (τ15 : zSg) (r15 : Int32) (τ17 : zSg) (r17 : Int32) (hI : i_47 a0 a1 σ l0 l1 l2 l3 τ) (h3 : l2.toInt ≠ (0 : Int)) (h8 : l3.toInt < (12 : Int)) (g13 : p_49 l0 l1 τ r13 τ13) (h14 : 0 ≤ l3.toInt ∧ l3.toInt < (τ13.2.1 (q_r (τ.1 l0 0)) : Int)) (g15 : p_96 l1 (Int32.ofInt (0)) (Int32.ofInt (20)) (q_w τ13 (q_r (τ.1 l0 0)) l3.toNatClampNeg (.int r13)) r15 τ15) (h16 : 0 ≤ l3.toInt ∧ l3.toInt < (τ15.2.1 (q_r ((q_w τ13 (q_r (τ.1 l0 0)) l3.toNatClampNeg (.int r13)).1 l0 1)) : Int)) (g17 : p_91 l1 (zB + 27) (q_w τ15 (q_r ((q_w τ13 (q_r (τ.1 l0 0)) l3.toNatClampNeg (.int r13)).1 l0 1)) l3.toNatClampNeg (.int r15)) r17 τ17) (h18 : r17.toInt = (0 : Int)) :
    j_47 a0 a1 σ l0 l1 l3 τ17 := by
  obtain ⟨rfl, rfl, G⟩ := hI
  refine ⟨rfl, rfl, fun C K0 K1 K2 b E H => ?_⟩
  obtain ⟨f0, he, hx⟩ := G C K0 K1 K2 b E H
  have e0 := he.1
  rw [e0] at g15
  rcases hx with ⟨A, ls, l, rfl, hls, H1, hl, w4, hg⟩ | ⟨F, hF, H1⟩
  · have hgo : ∀ R, GT b E A ls l R → GLaw b E R := by
      rcases hg with ⟨-, h9⟩ | ⟨h9, -⟩
      · exact h9
      · exact absurd h9 h3
    rw [o32 (by omega)] at h8
    have n1 : (Int32.ofNat ls.length).toNatClampNeg = ls.length := o32n (by omega)
    rw [n1] at g15
    have hra := H1.ra
    obtain ⟨f1, hk⟩ := (g13 C b E).1 _ _ _ H1
    have he1 := he.of hra.1 hra.2.1 hra.2.2 (cH.of f1)
    obtain ⟨-, -, -, ⟨a1', a2', a3', a4'⟩, ⟨b1', b2', b3', b4'⟩, ⟨d1', d2', d3', d4'⟩, k01, k02, k12⟩ := id he1
    have hl1 := hl.of f1 he
    have x1 : cH τ13 (q_w τ13 K0 ls.length (.int r13)) l1 l0 C K0 K1 K2 := cH.w (Or.inl rfl)
    have he2 := he1.of hra.1 hra.2.1 hra.2.2 x1
    have e1 := he2.2.1
    rw [e0, n1, e1] at g17
    rcases hk with ⟨A1, c, ht, ek, H2x⟩ | ⟨ht, H2x⟩
    · have H3x := H2x.el (c := K0) (k := ls.length) (v := .int r13) a1' a4' (fun q => absurd q a2') a3'
      obtain ⟨f2, u, v⟩ := H3x.nb g15 (by decide)
      have c0 : (Int32.ofInt 0).toInt = 0 := rfl
      have c20 : (Int32.ofInt 20).toInt = 20 := rfl
      rw [c0, c20] at u v
      have he3 := he2.of hra.1 hra.2.1 hra.2.2 (cH.of f2)
      cases hn : tn b E 0 20 A1 with
      | none =>
        obtain ⟨h9, x3, he4, H4x⟩ := (v hn).num he3 g17
        exact ⟨((f0.tr (cH.of f1)).tr (x1.tr (cH.of f2))).tr x3, he4, Or.inr ⟨A1, hgo _ (GT.bad (by omega) (GI.n0 ht hn)), H4x⟩⟩
      | some q =>
        obtain ⟨A2, w⟩ := q
        obtain ⟨ea, H4x⟩ := u A2 w hn
        obtain ⟨-, -, -, ⟨p1, p2, p3, p4⟩, ⟨q1, q2, q3, q4⟩, ⟨r1, r2, r3, r4⟩, -⟩ := id he3
        have H5x := (H4x.wk (s1 := 0) (by omega)).el (c := K1) (k := ls.length) (v := .int r15) q1 q4 (fun q => absurd q q2) q3
        have x3 : cH τ15 (q_w τ15 K1 ls.length (.int r15)) l1 l0 C K0 K1 K2 := cH.w (Or.inr (Or.inl rfl))
        have he4 := he3.of hra.1 hra.2.1 hra.2.2 x3
        have hl2 : cLn (q_w τ15 K1 ls.length (.int r15)) K0 K1 K2 ls := by
          intro i x hx
          have hi : i < ls.length := (List.getElem?_eq_some_iff.mp hx).1
          obtain ⟨y1, y2, y3⟩ := hl1 i x hx
          refine ⟨?_, ?_, ?_⟩
          · rw [q_w_ne (fun q _ => k01 q), f2.el p1 p2 p3, q_w_ne (fun _ q => by omega)]; exact y1
          · rw [q_w_ne (fun _ q => by omega), f2.el q1 q2 q3, q_w_ne (fun q _ => k01 q.symm)]; exact y2
          · rw [q_w_ne (fun q _ => k12 q.symm), f2.el r1 r2 r3, q_w_ne (fun q _ => k02 q.symm)]; exact y3
        have hk0 : (q_w τ15 K1 ls.length (.int r15)).1 K0 ls.length = .int (Int32.ofNat c) := by
          rw [q_w_ne (fun q _ => k01 q), f2.el p1 p2 p3, q_w_at, ek]
        have hk1 : (q_w τ15 K1 ls.length (.int r15)).1 K1 ls.length = .int (Int32.ofNat w) := by
          rw [q_w_at, ea]
        have fh := ((f0.tr (cH.of f1)).tr x1).tr ((cH.of f2).tr x3)
        obtain ⟨f5, u5, v5⟩ := H5x.tk g17 zwk_27 qsi_27 0 (by decide)
        obtain ⟨e5, rfl⟩ := v5 h18
        refine ⟨fh, he4, Or.inl ⟨A, A2, ls, l, c, w, [], rfl, by omega, GI.plain ht hn e5, ?_, hl2, hk0, hk1, hgo⟩⟩
        rw [List.append_nil]
        exact H5x
    · obtain ⟨h9, x3, he4, H4x⟩ := H2x.line he1 g15 g17
      exact ⟨(f0.tr (cH.of f1)).tr x3, he4, Or.inr ⟨A, hgo _ (GT.bad (by omega) (GI.k0 ht)), H4x⟩⟩
  · have hra := H1.ra
    obtain ⟨f1, H2x⟩ := (g13 C b E).2 _ H1
    have he1 := he.of hra.1 hra.2.1 hra.2.2 (cH.of f1)
    have x1 : cH τ13 (q_w τ13 K0 l3.toNatClampNeg (.int r13)) l1 l0 C K0 K1 K2 := cH.w (Or.inl rfl)
    have e1 := (he1.of hra.1 hra.2.1 hra.2.2 x1).2.1
    rw [e0, e1] at g17
    obtain ⟨h9, x3, he4, H4x⟩ := H2x.line he1 g15 g17
    exact ⟨(f0.tr (cH.of f1)).tr x3, he4, Or.inr ⟨F, hF, H4x⟩⟩
theorem sp_47_c13_fff (a0 : Nat) (a1 : Nat) (σ : zSg) (l0 : Nat) (l1 : Nat) (l2 : Int32) (l3 : Int32) (τ : zSg) (τ13 : zSg) (r13 : Int32) (τ15 : zSg) (r15 : Int32) (τ17 : zSg) (r17 : Int32) (τ19 : zSg) (hI : i_47 a0 a1 σ l0 l1 l2 l3 τ) (h3 : l2.toInt ≠ (0 : Int)) (h8 : l3.toInt < (12 : Int)) (g13 : p_49 l0 l1 τ r13 τ13) (h14 : 0 ≤ l3.toInt ∧ l3.toInt < (τ13.2.1 (q_r (τ.1 l0 0)) : Int)) (g15 : p_96 l1 (Int32.ofInt (0)) (Int32.ofInt (20)) (q_w τ13 (q_r (τ.1 l0 0)) l3.toNatClampNeg (.int r13)) r15 τ15) (h16 : 0 ≤ l3.toInt ∧ l3.toInt < (τ15.2.1 (q_r ((q_w τ13 (q_r (τ.1 l0 0)) l3.toNatClampNeg (.int r13)).1 l0 1)) : Int)) (g17 : p_91 l1 (zB + 27) (q_w τ15 (q_r ((q_w τ13 (q_r (τ.1 l0 0)) l3.toNatClampNeg (.int r13)).1 l0 1)) l3.toNatClampNeg (.int r15)) r17 τ17) (h18 : r17.toInt ≠ (0 : Int)) (g19 : p_50 l0 l1 (Int32.ofInt (0)) τ17 τ19) :
    j_47 a0 a1 σ l0 l1 l3 τ19 := by
  obtain ⟨rfl, rfl, G⟩ := hI
  refine ⟨rfl, rfl, fun C K0 K1 K2 b E H => ?_⟩
  obtain ⟨f0, he, hx⟩ := G C K0 K1 K2 b E H
  have e0 := he.1
  rw [e0] at g15
  rcases hx with ⟨A, ls, l, rfl, hls, H1, hl, w4, hg⟩ | ⟨F, hF, H1⟩
  · have hgo : ∀ R, GT b E A ls l R → GLaw b E R := by
      rcases hg with ⟨-, h9⟩ | ⟨h9, -⟩
      · exact h9
      · exact absurd h9 h3
    rw [o32 (by omega)] at h8
    have n1 : (Int32.ofNat ls.length).toNatClampNeg = ls.length := o32n (by omega)
    rw [n1] at g15
    have hra := H1.ra
    obtain ⟨f1, hk⟩ := (g13 C b E).1 _ _ _ H1
    have he1 := he.of hra.1 hra.2.1 hra.2.2 (cH.of f1)
    obtain ⟨-, -, -, ⟨a1', a2', a3', a4'⟩, ⟨b1', b2', b3', b4'⟩, ⟨d1', d2', d3', d4'⟩, k01, k02, k12⟩ := id he1
    have hl1 := hl.of f1 he
    have x1 : cH τ13 (q_w τ13 K0 ls.length (.int r13)) l1 l0 C K0 K1 K2 := cH.w (Or.inl rfl)
    have he2 := he1.of hra.1 hra.2.1 hra.2.2 x1
    have e1 := he2.2.1
    rw [e0, n1, e1] at g17
    rcases hk with ⟨A1, c, ht, ek, H2x⟩ | ⟨ht, H2x⟩
    · have H3x := H2x.el (c := K0) (k := ls.length) (v := .int r13) a1' a4' (fun q => absurd q a2') a3'
      obtain ⟨f2, u, v⟩ := H3x.nb g15 (by decide)
      have c0 : (Int32.ofInt 0).toInt = 0 := rfl
      have c20 : (Int32.ofInt 20).toInt = 20 := rfl
      rw [c0, c20] at u v
      have he3 := he2.of hra.1 hra.2.1 hra.2.2 (cH.of f2)
      cases hn : tn b E 0 20 A1 with
      | none =>
        obtain ⟨h9, x3, he4, H4x⟩ := (v hn).num he3 g17
        exact absurd h9 h18
      | some q =>
        obtain ⟨A2, w⟩ := q
        obtain ⟨ea, H4x⟩ := u A2 w hn
        obtain ⟨-, -, -, ⟨p1, p2, p3, p4⟩, ⟨q1, q2, q3, q4⟩, ⟨r1, r2, r3, r4⟩, -⟩ := id he3
        have H5x := (H4x.wk (s1 := 0) (by omega)).el (c := K1) (k := ls.length) (v := .int r15) q1 q4 (fun q => absurd q q2) q3
        have x3 : cH τ15 (q_w τ15 K1 ls.length (.int r15)) l1 l0 C K0 K1 K2 := cH.w (Or.inr (Or.inl rfl))
        have he4 := he3.of hra.1 hra.2.1 hra.2.2 x3
        have hl2 : cLn (q_w τ15 K1 ls.length (.int r15)) K0 K1 K2 ls := by
          intro i x hx
          have hi : i < ls.length := (List.getElem?_eq_some_iff.mp hx).1
          obtain ⟨y1, y2, y3⟩ := hl1 i x hx
          refine ⟨?_, ?_, ?_⟩
          · rw [q_w_ne (fun q _ => k01 q), f2.el p1 p2 p3, q_w_ne (fun _ q => by omega)]; exact y1
          · rw [q_w_ne (fun _ q => by omega), f2.el q1 q2 q3, q_w_ne (fun q _ => k01 q.symm)]; exact y2
          · rw [q_w_ne (fun q _ => k12 q.symm), f2.el r1 r2 r3, q_w_ne (fun q _ => k02 q.symm)]; exact y3
        have hk0 : (q_w τ15 K1 ls.length (.int r15)).1 K0 ls.length = .int (Int32.ofNat c) := by
          rw [q_w_ne (fun q _ => k01 q), f2.el p1 p2 p3, q_w_at, ek]
        have hk1 : (q_w τ15 K1 ls.length (.int r15)).1 K1 ls.length = .int (Int32.ofNat w) := by
          rw [q_w_at, ea]
        have fh := ((f0.tr (cH.of f1)).tr x1).tr ((cH.of f2).tr x3)
        obtain ⟨f5, u5, v5⟩ := H5x.tk g17 zwk_27 qsi_27 0 (by decide)
        obtain ⟨e5, H6x⟩ := u5 h18
        obtain ⟨f6, R, g1, g2⟩ := (g19 0 C b E rfl (by omega)).1 _ _ _ H6x
        have fh2 := (fh.tr (cH.of f5)).tr (cH.of f6)
        have he6 := he4.of hra.1 hra.2.1 hra.2.2 ((cH.of f5).tr (cH.of f6))
        refine ⟨fh2, he6, ?_⟩
        have f56 := f5.tr f6
        cases R with
        | inr F => exact Or.inr ⟨F, hgo _ (GT.bad (by omega) (GI.if0 ht hn e5 g1)), g2⟩
        | inl q =>
          obtain ⟨A4, m⟩ := q
          refine Or.inl ⟨A, A4, ls, l, c, w, m, rfl, by omega, GI.if1 ht hn e5 g1, g2, hl2.of f56 he4, ?_, ?_, hgo⟩
          · rw [f56.el p1 p2 p3]; exact hk0
          · rw [f56.el q1 q2 q3]; exact hk1
    · obtain ⟨h9, x3, he4, H4x⟩ := H2x.line he1 g15 g17
      exact absurd h9 h18
  · have hra := H1.ra
    obtain ⟨f1, H2x⟩ := (g13 C b E).2 _ H1
    have he1 := he.of hra.1 hra.2.1 hra.2.2 (cH.of f1)
    have x1 : cH τ13 (q_w τ13 K0 l3.toNatClampNeg (.int r13)) l1 l0 C K0 K1 K2 := cH.w (Or.inl rfl)
    have e1 := (he1.of hra.1 hra.2.1 hra.2.2 x1).2.1
    rw [e0, e1] at g17
    obtain ⟨h9, x3, he4, H4x⟩ := H2x.line he1 g15 g17
    exact absurd h9 h18
theorem sp_47_c41_t (a0 : Nat) (a1 : Nat) (σ : zSg) (l0 : Nat) (l1 : Nat) (l3 : Int32) (τ : zSg) (τ21 : zSg) (r21 : Int32) (hI : j_47 a0 a1 σ l0 l1 l3 τ) (h20 : 0 ≤ l3.toInt ∧ l3.toInt < (τ.2.1 (q_r (τ.1 l0 2)) : Int)) (g21 : p_89 l1 (q_w (q_w τ (q_r (τ.1 l0 2)) l3.toNatClampNeg (.int (q_i (τ.1 l0 5)))) l0 4 (.int (l3 + (Int32.ofInt (1))))) r21 τ21) (h22 : r21.toInt = (0 : Int)) :
    i_47 a0 a1 σ l0 l1 r21 (l3 + Int32.ofInt (1)) τ21 := by
  obtain ⟨rfl, rfl, G⟩ := hI
  refine ⟨rfl, rfl, fun C K0 K1 K2 b E H => ?_⟩
  obtain ⟨f0, he, hx⟩ := G C K0 K1 K2 b E H
  have e2 := he.2.2.1
  obtain ⟨-, -, -, ⟨p1, p2, p3, p4⟩, ⟨q1, q2, q3, q4⟩, ⟨r1, r2, r3, r4⟩, k01, k02, k12⟩ := id he
  rw [e2] at g21
  obtain rfl := g21.1.symm
  rcases hx with ⟨A, A1, ls, l, c, v, m, rfl, hls, hG, H1, hl, hk0, hk1, hgo⟩ | ⟨F, hF, H1⟩
  · have hra := H1.ra
    have n1 : (Int32.ofNat ls.length).toNatClampNeg = ls.length := o32n (by omega)
    have q5 : q_i (τ.1 l0 5) = Int32.ofNat (l ++ m).length := by rw [H1.2.2.2.2.1]; rfl
    rw [n1, q5, o32i (by omega)] at g21
    rw [n1, q5, o32i (by omega)]
    have x1 : cH τ (q_w τ K2 ls.length (.int (Int32.ofNat (l ++ m).length))) l1 l0 C K0 K1 K2 := cH.w (Or.inr (Or.inr (Or.inl rfl)))
    have x2 : cH (q_w τ K2 ls.length (.int (Int32.ofNat (l ++ m).length))) (q_w (q_w τ K2 ls.length (.int (Int32.ofNat (l ++ m).length))) l0 4 (.int (Int32.ofNat (ls.length + 1)))) l1 l0 C K0 K1 K2 := cH.w (Or.inr (Or.inr (Or.inr ⟨rfl, Or.inl rfl⟩)))
    have he1 := he.of hra.1 hra.2.1 hra.2.2 x1
    have he2 := he1.of hra.1 hra.2.1 hra.2.2 x2
    have H2x := H1.el (c := K2) (k := ls.length) (v := .int (Int32.ofNat (l ++ m).length)) r1 r4 (fun q => absurd q r2) r3
    have nb : l0 ≠ q_r ((q_w τ K2 ls.length (.int (Int32.ofNat (l ++ m).length))).1 l1 0) := fun q => H2x.2.2.2.1.2.2.2.2.2.1 q.symm
    have H3x := H2x.el (c := l0) (k := 4) (v := .int (Int32.ofNat (ls.length + 1))) hra.1 nb (fun _ => rfl) (fun q => hra.2.1 q.symm)
    have hl2 : cLn (q_w (q_w τ K2 ls.length (.int (Int32.ofNat (l ++ m).length))) l0 4 (.int (Int32.ofNat (ls.length + 1)))) K0 K1 K2 (ls ++ [(c, v, l.length, (l ++ m).length)]) := by
      intro i x hx
      rw [q_w_ne (fun q _ => p2 q), q_w_ne (fun q _ => q2 q), q_w_ne (fun q _ => r2 q), q_w_ne (fun q _ => k02 q), q_w_ne (fun q _ => k12 q)]
      by_cases hi : i < ls.length
      · rw [List.getElem?_append_left hi] at hx
        rw [q_w_ne (fun _ q => by omega)]
        exact hl i x hx
      · rw [List.getElem?_append_right (by omega)] at hx
        have hi2 : i = ls.length := by
          cases hd : i - ls.length with
          | zero => omega
          | succ n => rw [hd] at hx; simp at hx
        subst hi2
        rw [Nat.sub_self] at hx
        cases hx
        rw [q_w_at]
        exact ⟨hk0, hk1, rfl⟩
    have hlen : (ls ++ [(c, v, l.length, (l ++ m).length)]).length = ls.length + 1 := by rw [List.length_append]; rfl
    have w4 : (q_w (q_w τ K2 ls.length (.int (Int32.ofNat (l ++ m).length))) l0 4 (.int (Int32.ofNat (ls.length + 1)))).1 l0 4 = .int (Int32.ofNat (ls ++ [(c, v, l.length, (l ++ m).length)]).length) := by rw [hlen]; exact q_w_at _ _ _ _
    have hgo1 := (g21.2 A1 E H3x.1)
    have hAE := H3x.le
    have hE : A1 = E := by
      by_cases q : A1 < E
      · exact absurd h22 (hgo1.mpr ⟨H3x.2.2.1, q⟩)
      · omega
    subst hE
    exact ⟨(f0.tr x1).tr x2, he2, Or.inl ⟨A1, _, _, (by rw [hlen]), (by rw [hlen]; omega), H3x, hl2, w4, Or.inr ⟨h22, hgo _ (GT.last (by omega) hG)⟩⟩⟩
  · have hra := H1.ra
    have x1 : cH τ (q_w τ K2 l3.toNatClampNeg (.int (q_i (τ.1 l0 5)))) l1 l0 C K0 K1 K2 := cH.w (Or.inr (Or.inr (Or.inl rfl)))
    have x2 : cH (q_w τ K2 l3.toNatClampNeg (.int (q_i (τ.1 l0 5)))) (q_w (q_w τ K2 l3.toNatClampNeg (.int (q_i (τ.1 l0 5)))) l0 4 (.int (l3 + Int32.ofInt 1))) l1 l0 C K0 K1 K2 := cH.w (Or.inr (Or.inr (Or.inr ⟨rfl, Or.inl rfl⟩)))
    have he1 := he.of hra.1 hra.2.1 hra.2.2 x1
    have he2 := he1.of hra.1 hra.2.1 hra.2.2 x2
    have H2x := H1.el (c := K2) (k := l3.toNatClampNeg) (v := .int (q_i (τ.1 l0 5))) r1 r4 (fun q => absurd q r2)
    have nb : l0 ≠ q_r ((q_w τ K2 l3.toNatClampNeg (.int (q_i (τ.1 l0 5)))).1 l1 0) := fun q => H2x.2.2.2.2.2.2.2.2.2.1 q.symm
    have H3x := H2x.el (c := l0) (k := 4) (v := .int (l3 + Int32.ofInt 1)) hra.1 nb (fun _ => by omega)
    exact ⟨(f0.tr x1).tr x2, he2, Or.inr ⟨F, hF, H3x⟩⟩
theorem sp_47_c41_f (a0 : Nat) (a1 : Nat) (σ : zSg) (l0 : Nat) (l1 : Nat) (l3 : Int32) (τ : zSg) (τ21 : zSg) (r21 : Int32) (τ23 : zSg) (hI : j_47 a0 a1 σ l0 l1 l3 τ) (h20 : 0 ≤ l3.toInt ∧ l3.toInt < (τ.2.1 (q_r (τ.1 l0 2)) : Int)) (g21 : p_89 l1 (q_w (q_w τ (q_r (τ.1 l0 2)) l3.toNatClampNeg (.int (q_i (τ.1 l0 5)))) l0 4 (.int (l3 + (Int32.ofInt (1))))) r21 τ21) (h22 : r21.toInt ≠ (0 : Int)) (g23 : p_94 l1 (Int32.ofInt (59)) τ21 τ23) :
    i_47 a0 a1 σ l0 l1 r21 (l3 + Int32.ofInt (1)) τ23 := by
  obtain ⟨rfl, rfl, G⟩ := hI
  refine ⟨rfl, rfl, fun C K0 K1 K2 b E H => ?_⟩
  obtain ⟨f0, he, hx⟩ := G C K0 K1 K2 b E H
  have e2 := he.2.2.1
  obtain ⟨-, -, -, ⟨p1, p2, p3, p4⟩, ⟨q1, q2, q3, q4⟩, ⟨r1, r2, r3, r4⟩, k01, k02, k12⟩ := id he
  rw [e2] at g21
  obtain rfl := g21.1.symm
  rcases hx with ⟨A, A1, ls, l, c, v, m, rfl, hls, hG, H1, hl, hk0, hk1, hgo⟩ | ⟨F, hF, H1⟩
  · have hra := H1.ra
    have n1 : (Int32.ofNat ls.length).toNatClampNeg = ls.length := o32n (by omega)
    have q5 : q_i (τ.1 l0 5) = Int32.ofNat (l ++ m).length := by rw [H1.2.2.2.2.1]; rfl
    rw [n1, q5, o32i (by omega)] at g21
    rw [n1, q5, o32i (by omega)] at g23
    rw [o32i (by omega)]
    have x1 : cH τ (q_w τ K2 ls.length (.int (Int32.ofNat (l ++ m).length))) l1 l0 C K0 K1 K2 := cH.w (Or.inr (Or.inr (Or.inl rfl)))
    have x2 : cH (q_w τ K2 ls.length (.int (Int32.ofNat (l ++ m).length))) (q_w (q_w τ K2 ls.length (.int (Int32.ofNat (l ++ m).length))) l0 4 (.int (Int32.ofNat (ls.length + 1)))) l1 l0 C K0 K1 K2 := cH.w (Or.inr (Or.inr (Or.inr ⟨rfl, Or.inl rfl⟩)))
    have he1 := he.of hra.1 hra.2.1 hra.2.2 x1
    have he2 := he1.of hra.1 hra.2.1 hra.2.2 x2
    have H2x := H1.el (c := K2) (k := ls.length) (v := .int (Int32.ofNat (l ++ m).length)) r1 r4 (fun q => absurd q r2) r3
    have nb : l0 ≠ q_r ((q_w τ K2 ls.length (.int (Int32.ofNat (l ++ m).length))).1 l1 0) := fun q => H2x.2.2.2.1.2.2.2.2.2.1 q.symm
    have H3x := H2x.el (c := l0) (k := 4) (v := .int (Int32.ofNat (ls.length + 1))) hra.1 nb (fun _ => rfl) (fun q => hra.2.1 q.symm)
    have hl2 : cLn (q_w (q_w τ K2 ls.length (.int (Int32.ofNat (l ++ m).length))) l0 4 (.int (Int32.ofNat (ls.length + 1)))) K0 K1 K2 (ls ++ [(c, v, l.length, (l ++ m).length)]) := by
      intro i x hx
      rw [q_w_ne (fun q _ => p2 q), q_w_ne (fun q _ => q2 q), q_w_ne (fun q _ => r2 q), q_w_ne (fun q _ => k02 q), q_w_ne (fun q _ => k12 q)]
      by_cases hi : i < ls.length
      · rw [List.getElem?_append_left hi] at hx
        rw [q_w_ne (fun _ q => by omega)]
        exact hl i x hx
      · rw [List.getElem?_append_right (by omega)] at hx
        have hi2 : i = ls.length := by
          cases hd : i - ls.length with
          | zero => omega
          | succ n => rw [hd] at hx; simp at hx
        subst hi2
        rw [Nat.sub_self] at hx
        cases hx
        rw [q_w_at]
        exact ⟨hk0, hk1, rfl⟩
    have hlen : (ls ++ [(c, v, l.length, (l ++ m).length)]).length = ls.length + 1 := by rw [List.length_append]; rfl
    have w4 : (q_w (q_w τ K2 ls.length (.int (Int32.ofNat (l ++ m).length))) l0 4 (.int (Int32.ofNat (ls.length + 1)))).1 l0 4 = .int (Int32.ofNat (ls ++ [(c, v, l.length, (l ++ m).length)]).length) := by rw [hlen]; exact q_w_at _ _ _ _
    have hgo1 := (g21.2 A1 E H3x.1)
    have hAE := H3x.le
    have hlt := (hgo1.mp h22).2
    obtain ⟨f4, u4, v4⟩ := H3x.ns g23 (by decide) (by decide)
    have he4 := he2.of hra.1 hra.2.1 hra.2.2 (cH.of f4)
    refine ⟨((f0.tr x1).tr x2).tr (cH.of f4), he4, ?_⟩
    cases h59 : ts b E 59 A1 with
    | none => exact Or.inr ⟨A1, hgo _ (GT.semi (by omega) hG (by omega) h59), v4 h59⟩
    | some A2 =>
      refine Or.inl ⟨A2, _, _, (by rw [hlen]), (by rw [hlen]; omega), (u4 A2 h59).wk (by omega), hl2.of f4 he2, ?_, Or.inl ⟨h22, fun R h9 => hgo R (GT.step (by omega) hG (by omega) h59 h9)⟩⟩
      rw [f4.2 l0 4 (fun q => hra.1 q.1) (fun q => by omega) (fun q => hra.2.1 q.symm)]
      exact w4
  · have hra := H1.ra
    have x1 : cH τ (q_w τ K2 l3.toNatClampNeg (.int (q_i (τ.1 l0 5)))) l1 l0 C K0 K1 K2 := cH.w (Or.inr (Or.inr (Or.inl rfl)))
    have x2 : cH (q_w τ K2 l3.toNatClampNeg (.int (q_i (τ.1 l0 5)))) (q_w (q_w τ K2 l3.toNatClampNeg (.int (q_i (τ.1 l0 5)))) l0 4 (.int (l3 + Int32.ofInt 1))) l1 l0 C K0 K1 K2 := cH.w (Or.inr (Or.inr (Or.inr ⟨rfl, Or.inl rfl⟩)))
    have he1 := he.of hra.1 hra.2.1 hra.2.2 x1
    have he2 := he1.of hra.1 hra.2.1 hra.2.2 x2
    have H2x := H1.el (c := K2) (k := l3.toNatClampNeg) (v := .int (q_i (τ.1 l0 5))) r1 r4 (fun q => absurd q r2)
    have nb : l0 ≠ q_r ((q_w τ K2 l3.toNatClampNeg (.int (q_i (τ.1 l0 5)))).1 l1 0) := fun q => H2x.2.2.2.2.2.2.2.2.2.1 q.symm
    have H3x := H2x.el (c := l0) (k := 4) (v := .int (l3 + Int32.ofInt 1)) hra.1 nb (fun _ => by omega)
    obtain rfl := H3x.ns g23 (by decide) (by decide)
    exact ⟨(f0.tr x1).tr x2, he2, Or.inr ⟨F, hF, H3x⟩⟩
noncomputable def qP_47 : zPp := fun as σ o σ' => match as with
  | [a0, a1] => ∃ r, o = .inl (some (.int r)) ∧ p_47 (q_r a0) (q_r a1) σ r σ'
  | _ => True
set_option maxRecDepth 100000 in
theorem sp_47 {sx : zX} (S87 : zEe sx 87 1 qP_87) (S89 : zEe sx 89 1 qP_89) (S88 : zEe sx 88 1 qP_88) (S90 : zEe sx 90 1 qP_90) (S49 : zEe sx 49 2 qP_49) (S96 : zEe sx 96 3 qP_96) (S91 : zEe sx 91 2 qP_91) (S50 : zEe sx 50 3 qP_50) (S94 : zEe sx 94 2 qP_94) : zEe sx 47 2 qP_47 := by
  refine zfle zJ_47 (sps := [(87, 1, qP_87), (89, 1, qP_89), (88, 1, qP_88), (90, 1, qP_90), (49, 2, qP_49), (96, 3, qP_96), (91, 2, qP_91), (50, 3, qP_50), (94, 2, qP_94)]) (fun q hq => by
    simp only [List.mem_cons, List.not_mem_nil, or_false] at hq
    rcases hq with rfl | rfl | rfl | rfl | rfl | rfl | rfl | rfl | rfl
    · exact S87
    · exact S89
    · exact S88
    · exact S90
    · exact S49
    · exact S96
    · exact S91
    · exact S50
    · exact S94) (fun as σ hl => ?_)
  match as, hl with
  | [a0, a1], _ =>
  refine ⟨[(13, fun lo st τ => st = [] ∧ i_47 (q_r a0) (q_r a1) σ (q_r (lo 0)) (q_r (lo 1)) (q_i (lo 2)) (q_i (lo 3)) τ), (41, fun lo st τ => st = [] ∧ j_47 (q_r a0) (q_r a1) σ (q_r (lo 0)) (q_r (lo 1)) (q_i (lo 3)) τ)], 400, ?_, ?_⟩
  · intro q hq
    simp only [List.mem_cons, List.not_mem_nil, or_false] at hq
    rcases hq with rfl | rfl
    · rintro lo st τ ⟨rfl, hI⟩
      refine ⟨400, ?_⟩
      refine And.intro (fun h3 => ?_) (fun h3 => ?_)
      · refine And.intro (fun h4 => ?_) (fun h4 => ?_)
        · refine fun o5 τ5 g5 => ?_
          obtain ⟨r5, rfl, g5⟩ := g5
          exact ⟨_, rfl, sp_47_c13_tt (q_r a0) (q_r a1) σ (q_r (lo 0)) (q_r (lo 1)) (q_i (lo 2)) (q_i (lo 3)) τ τ5 r5 hI (cm0t h3) (cm0t h4) g5⟩
        · refine fun o6 τ6 g6 => ?_
          obtain ⟨rfl, g6⟩ := g6
          refine fun o7 τ7 g7 => ?_
          obtain ⟨r7, rfl, g7⟩ := g7
          exact ⟨_, rfl, sp_47_c13_tf (q_r a0) (q_r a1) σ (q_r (lo 0)) (q_r (lo 1)) (q_i (lo 2)) (q_i (lo 3)) τ τ6 τ7 r7 hI (cm0t h3) (cm0f h4) g6 g7⟩
      · refine And.intro (fun h8 => ?_) (fun h8 => ?_)
        · refine And.intro (fun h9 => ?_) (fun h9 => ?_)
          · refine fun o10 τ10 g10 => ?_
            obtain ⟨r10, rfl, g10⟩ := g10
            exact ⟨_, rfl, sp_47_c13_ftt (q_r a0) (q_r a1) σ (q_r (lo 0)) (q_r (lo 1)) (q_i (lo 2)) (q_i (lo 3)) τ τ10 r10 hI (cm0f h3) (cm3t h8) (cm0t h9) g10⟩
          · refine fun o11 τ11 g11 => ?_
            obtain ⟨rfl, g11⟩ := g11
            refine fun o12 τ12 g12 => ?_
            obtain ⟨r12, rfl, g12⟩ := g12
            exact ⟨_, rfl, sp_47_c13_ftf (q_r a0) (q_r a1) σ (q_r (lo 0)) (q_r (lo 1)) (q_i (lo 2)) (q_i (lo 3)) τ τ11 τ12 r12 hI (cm0f h3) (cm3t h8) (cm0f h9) g11 g12⟩
        · refine fun o13 τ13 g13 => ?_
          obtain ⟨r13, rfl, g13⟩ := g13
          refine fun h14 => ?_
          refine fun o15 τ15 g15 => ?_
          obtain ⟨r15, rfl, g15⟩ := g15
          refine fun h16 => ?_
          refine fun o17 τ17 g17 => ?_
          obtain ⟨r17, rfl, g17⟩ := g17
          refine And.intro (fun h18 => ?_) (fun h18 => ?_)
          · exact ⟨rfl, sp_47_c13_fft (q_r a0) (q_r a1) σ (q_r (lo 0)) (q_r (lo 1)) (q_i (lo 2)) (q_i (lo 3)) τ τ13 r13 τ15 r15 τ17 r17 hI (cm0f h3) (cm3f h8) g13 (q_inp h14) g15 (q_inp h16) g17 (cm0t h18)⟩
          · refine fun o19 τ19 g19 => ?_
            obtain ⟨rfl, g19⟩ := g19
            exact ⟨rfl, sp_47_c13_fff (q_r a0) (q_r a1) σ (q_r (lo 0)) (q_r (lo 1)) (q_i (lo 2)) (q_i (lo 3)) τ τ13 r13 τ15 r15 τ17 r17 τ19 hI (cm0f h3) (cm3f h8) g13 (q_inp h14) g15 (q_inp h16) g17 (cm0f h18) g19⟩
    · rintro lo st τ ⟨rfl, hI⟩
      refine ⟨400, ?_⟩
      refine fun h20 => ?_
      refine fun o21 τ21 g21 => ?_
      obtain ⟨r21, rfl, g21⟩ := g21
      refine And.intro (fun h22 => ?_) (fun h22 => ?_)
      · exact ⟨rfl, sp_47_c41_t (q_r a0) (q_r a1) σ (q_r (lo 0)) (q_r (lo 1)) (q_i (lo 3)) τ τ21 r21 hI (q_inp h20) g21 (cm0t h22)⟩
      · refine fun o23 τ23 g23 => ?_
        obtain ⟨rfl, g23⟩ := g23
        exact ⟨rfl, sp_47_c41_f (q_r a0) (q_r a1) σ (q_r (lo 0)) (q_r (lo 1)) (q_i (lo 3)) τ τ21 r21 τ23 hI (q_inp h20) g21 (cm0f h22) g23⟩
  · refine fun o1 τ1 g1 => ?_
    obtain ⟨rfl, g1⟩ := g1
    refine fun o2 τ2 g2 => ?_
    obtain ⟨r2, rfl, g2⟩ := g2
    exact ⟨rfl, sp_47_e (q_r a0) (q_r a1) σ τ1 τ2 r2 g1 g2⟩
