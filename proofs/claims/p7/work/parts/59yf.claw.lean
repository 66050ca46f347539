/-! the class's law; printed with wip/gen/gen_t9.py -/
/-- the cells that were there have stayed -/
noncomputable def qFr (σ σ' : zSg) : Prop := σ.2.2 ≤ σ'.2.2 ∧ (∀ c k, c < σ.2.2 → σ'.1 c k = σ.1 c k) ∧ ∀ c, c < σ.2.2 → σ'.2.1 c = σ.2.1 c
theorem qFr.rf {σ : zSg} : qFr σ σ := ⟨Nat.le_refl _, fun _ _ _ => rfl, fun _ _ => rfl⟩
theorem qFr.tr {σ τ υ : zSg} (h1 : qFr σ τ) (h2 : qFr τ υ) : qFr σ υ := ⟨Nat.le_trans h1.1 h2.1, fun c k h => (h2.2.1 c k (Nat.lt_of_lt_of_le h h1.1)).trans (h1.2.1 c k h), fun c h => (h2.2.2 c (Nat.lt_of_lt_of_le h h1.1)).trans (h1.2.2 c h)⟩
theorem qFr.nw {σ : zSg} {f : Nat → Value} {n : Nat} : qFr σ (q_nw σ f n) := ⟨Nat.le_succ _, fun c k h => if_neg (by omega), fun c h => if_neg (by omega)⟩
theorem q_nw_at {σ : zSg} {f : Nat → Value} {n k : Nat} : (q_nw σ f n).1 σ.2.2 k = f k := if_pos rfl
theorem q_nw_l {σ : zSg} {f : Nat → Value} {n : Nat} : (q_nw σ f n).2.1 σ.2.2 = n := if_pos rfl
theorem q_nw_n {σ : zSg} {f : Nat → Value} {n : Nat} : (q_nw σ f n).2.2 = σ.2.2 + 1 := rfl
noncomputable def p_314 (a : Nat) (n : Int32) (σ : zSg) (r : Nat) (σ' : zSg) : Prop := a < σ.2.2 → σ.2.1 a ≤ 1000 → r = σ.2.2 ∧ qFr σ σ' ∧ σ'.2.2 = σ.2.2 + 1 ∧ σ'.2.1 r = n.toNatClampNeg ∧ ∀ k, k < n.toNatClampNeg → k < σ.2.1 a → σ'.1 r k = σ.1 a k
theorem sp_314_et (a0 : Nat) (a1 : Int32) (σ : zSg) (h1 : a1.toInt ≠ (Int32.ofNat (σ.2.1 a0)).toInt) (h2 : ¬ a1 < 0) :
    p_314 (a0) (a1) σ σ.2.2 (q_cp (q_nw σ (fun j => (z_rd (z_new 0 a1.toNatClampNeg) j).getD .null) a1.toNatClampNeg) a0 σ.2.2 (Int32.ofInt (0)).toNatClampNeg (Int32.ofInt (0)).toNatClampNeg (if a1 < (Int32.ofNat ((q_nw σ (fun j => (z_rd (z_new 0 a1.toNatClampNeg) j).getD .null) a1.toNatClampNeg).2.1 a0)) then a1 else (Int32.ofNat ((q_nw σ (fun j => (z_rd (z_new 0 a1.toNatClampNeg) j).getD .null) a1.toNatClampNeg).2.1 a0))).toNatClampNeg) := by
  intro ha hl
  generalize hS : q_nw σ (fun j => (z_rd (z_new 0 a1.toNatClampNeg) j).getD .null) a1.toNatClampNeg = S
  have fr : qFr σ S := by rw [← hS]; exact qFr.nw
  have eN : S.2.2 = σ.2.2 + 1 := by rw [← hS]; rfl
  have eL : S.2.1 σ.2.2 = a1.toNatClampNeg := by rw [← hS]; exact q_nw_l
  rw [fr.2.2 a0 ha]
  refine ⟨rfl, ⟨by show σ.2.2 ≤ S.2.2; omega, fun c k h => ?_, fun c h => fr.2.2 c h⟩, eN, eL, fun k h3 h4 => ?_⟩
  · show (if c = σ.2.2 ∧ _ then _ else S.1 c k) = _
    rw [if_neg (fun q => by omega)]
    exact fr.2.1 c k h
  · show (if σ.2.2 = σ.2.2 ∧ _ ∧ k < _ then S.1 a0 _ else _) = _
    have c0 : (Int32.ofInt 0).toNatClampNeg = 0 := rfl
    rw [c0, if_pos]
    · rw [show 0 + (k - 0) = k by omega]
      exact fr.2.1 a0 k ha
    · refine ⟨rfl, Nat.zero_le _, ?_⟩
      rw [Nat.zero_add]
      split
      · exact h3
      · rw [o32n hl]; exact h4
theorem sp_314_ef (a0 : Nat) (a1 : Int32) (σ : zSg) (h1 : a1.toInt = (Int32.ofNat (σ.2.1 a0)).toInt) :
    p_314 (a0) (a1) σ σ.2.2 (q_nw σ (σ.1 a0) (σ.2.1 a0)) := by
  intro ha hl
  rw [o32 hl] at h1
  have e : a1.toNatClampNeg = σ.2.1 a0 := znat (by omega)
  exact ⟨rfl, qFr.nw, rfl, by rw [e]; exact q_nw_l, fun k _ _ => q_nw_at⟩
noncomputable def qP_314 : zPp := fun as σ o σ' => match as with
  | [a0, a1] => ∃ r, o = .inl (some (.ref r)) ∧ p_314 (q_r a0) (q_i a1) σ r σ'
  | _ => True
set_option maxRecDepth 100000 in
theorem sp_314 {sx : zX}  : zEe sx 314 2 qP_314 := by
  refine zfle zJ_314 (sps := []) (fun q hq => absurd hq List.not_mem_nil) (fun as σ hl => ?_)
  match as, hl with
  | [a0, a1], _ =>
  refine ⟨[], 400, ?_, ?_⟩
  · exact fun q hq => absurd hq List.not_mem_nil
  · refine And.intro (fun h1 => ?_) (fun h1 => ?_)
    · refine fun h2 => ?_
      exact ⟨_, rfl, sp_314_et (q_r a0) (q_i a1) σ (cm1t h1) h2⟩
    · exact ⟨_, rfl, sp_314_ef (q_r a0) (q_i a1) σ (cm1f h1)⟩
/-- the cells that were there have stayed, but one -/
noncomputable def qFx (σ σ' : zSg) (t : Nat) : Prop := σ.2.2 ≤ σ'.2.2 ∧ (∀ c k, c < σ.2.2 → c ≠ t → σ'.1 c k = σ.1 c k) ∧ ∀ c, c < σ.2.2 → σ'.2.1 c = σ.2.1 c
theorem qFx.of {σ σ' : zSg} {t : Nat} (h : qFr σ σ') : qFx σ σ' t := ⟨h.1, fun c k q _ => h.2.1 c k q, h.2.2⟩
theorem qFx.w {σ : zSg} {t k : Nat} {v : Value} : qFx σ (q_w σ t k v) t := ⟨Nat.le_refl _, fun c i _ q => q_w_ne (fun e _ => q e), fun _ _ => rfl⟩
theorem qFx.tr {σ τ υ : zSg} {t : Nat} (h1 : qFx σ τ t) (h2 : qFx τ υ t) : qFx σ υ t := ⟨Nat.le_trans h1.1 h2.1, fun c k h q => (h2.2.1 c k (Nat.lt_of_lt_of_le h h1.1) q).trans (h1.2.1 c k h q), fun c h => (h2.2.2 c (Nat.lt_of_lt_of_le h h1.1)).trans (h1.2.2 c h)⟩
/-- a row copied into a new cell -/
noncomputable def qCy (σ σ' : zSg) (a r : Nat) (n : Int32) : Prop := σ'.2.1 r = n.toNatClampNeg ∧ ∀ k, k < n.toNatClampNeg → k < σ.2.1 a → σ'.1 r k = σ.1 a k
noncomputable def p_41 (t : Nat) (n : Int32) (a1 a2 a3 a4 : Nat) (σ σ' : zSg) : Prop := t < σ.2.2 → a1 < σ.2.2 → a2 < σ.2.2 → a3 < σ.2.2 → a1 ≠ t → a2 ≠ t → a3 ≠ t → σ.2.1 a1 ≤ 1000 → σ.2.1 a2 ≤ 1000 → σ.2.1 a3 ≤ 1000 → qFx σ σ' t ∧ σ'.1 t 0 = .int n ∧ σ'.1 t 4 = .ref a4 ∧ ∃ r1 r2 r3 r5 : Nat, σ'.1 t 1 = .ref r1 ∧ σ'.1 t 2 = .ref r2 ∧ σ'.1 t 3 = .ref r3 ∧ σ'.1 t 5 = .ref r5 ∧ (σ.2.2 = r5 ∧ σ.2.2 + 1 = r1 ∧ σ.2.2 + 2 = r2 ∧ σ.2.2 + 3 = r3 ∧ σ'.2.2 = σ.2.2 + 4) ∧ qCy σ σ' a1 r1 n ∧ qCy σ σ' a2 r2 n ∧ qCy σ σ' a3 r3 n
theorem sp_41_e (a0 : Nat) (a1 : Int32) (a2 : Nat) (a3 : Nat) (a4 : Nat) (a5 : Nat) (σ : zSg) (τ2 : zSg) (r2 : Nat) (τ3 : zSg) (r3 : Nat) (τ4 : zSg) (r4 : Nat) (h1 : ¬ (Int32.ofInt (32)) < 0) (g2 : p_314 a2 a1 (q_w (q_w (q_nw σ (fun j => (z_rd (z_new 0 (Int32.ofInt (32)).toNatClampNeg) j).getD .null) (Int32.ofInt (32)).toNatClampNeg) a0 5 (.ref σ.2.2)) a0 0 (.int a1)) r2 τ2) (g3 : p_314 a3 a1 (q_w τ2 a0 1 (.ref r2)) r3 τ3) (g4 : p_314 a4 a1 (q_w τ3 a0 2 (.ref r3)) r4 τ4) :
    p_41 (a0) (a1) (a2) (a3) (a4) (a5) σ (q_w (q_w τ4 a0 3 (.ref r4)) a0 4 (.ref a5)) := by
  intro ht hk1 hk2 hk3 n1 n2 n3 l1 l2 l3
  generalize hS0 : q_nw σ (fun j => (z_rd (z_new 0 (Int32.ofInt 32).toNatClampNeg) j).getD .null) (Int32.ofInt 32).toNatClampNeg = S0 at g2
  have f0 : qFr σ S0 := by rw [← hS0]; exact qFr.nw
  have e0 : S0.2.2 = σ.2.2 + 1 := by rw [← hS0]; rfl
  have fS : qFx σ (q_w (q_w S0 a0 5 (.ref σ.2.2)) a0 0 (.int a1)) a0 := ((qFx.of f0).tr qFx.w).tr qFx.w
  have eS : (q_w (q_w S0 a0 5 (.ref σ.2.2)) a0 0 (.int a1)).2.2 = σ.2.2 + 1 := e0
  obtain ⟨q1, g1, m1, y1, z1⟩ := g2 (by rw [eS]; omega) (by rw [fS.2.2 a2 hk1]; exact l1)
  have f1 : qFx σ (q_w τ2 a0 1 (.ref r2)) a0 := (fS.tr (qFx.of g1)).tr qFx.w
  have e1 : (q_w τ2 a0 1 (.ref r2)).2.2 = σ.2.2 + 2 := by rw [q_w_2, m1, eS]
  obtain ⟨q2, g2, m2, y2, z2⟩ := g3 (by rw [e1]; omega) (by rw [f1.2.2 a3 hk2]; exact l2)
  have f2 : qFx σ (q_w τ3 a0 2 (.ref r3)) a0 := (f1.tr (qFx.of g2)).tr qFx.w
  have e2 : (q_w τ3 a0 2 (.ref r3)).2.2 = σ.2.2 + 3 := by rw [q_w_2, m2, e1]
  obtain ⟨q3, g3', m3, y3, z3⟩ := g4 (by rw [e2]; omega) (by rw [f2.2.2 a4 hk3]; exact l3)
  have w3 : qFx (q_w τ3 a0 2 (.ref r3)) (q_w (q_w τ4 a0 3 (.ref r4)) a0 4 (.ref a5)) a0 := ((qFx.of g3').tr qFx.w).tr qFx.w
  have w2 : qFx (q_w τ2 a0 1 (.ref r2)) (q_w (q_w τ4 a0 3 (.ref r4)) a0 4 (.ref a5)) a0 := ((qFx.of g2).tr qFx.w).tr w3
  have f3 : qFx σ (q_w (q_w τ4 a0 3 (.ref r4)) a0 4 (.ref a5)) a0 := f2.tr w3
  rw [eS] at q1
  rw [e1] at q2
  rw [e2] at q3
  have k0 : ∀ k, k ≠ 3 → k ≠ 4 → (q_w (q_w τ4 a0 3 (.ref r4)) a0 4 (.ref a5)).1 a0 k = (q_w τ3 a0 2 (.ref r3)).1 a0 k := by
    intro k h1 h2
    rw [q_w_ne (fun _ q => h2 q), q_w_ne (fun _ q => h1 q), g3'.2.1 a0 k (by rw [e2]; omega)]
  have k1 : ∀ k, k ≠ 2 → (q_w τ3 a0 2 (.ref r3)).1 a0 k = (q_w τ2 a0 1 (.ref r2)).1 a0 k := by
    intro k h1
    rw [q_w_ne (fun _ q => h1 q), g2.2.1 a0 k (by rw [e1]; omega)]
  have k2 : ∀ k, k ≠ 1 → (q_w τ2 a0 1 (.ref r2)).1 a0 k = (q_w (q_w S0 a0 5 (.ref σ.2.2)) a0 0 (.int a1)).1 a0 k := by
    intro k h1
    rw [q_w_ne (fun _ q => h1 q), g1.2.1 a0 k (by rw [eS]; omega)]
  refine ⟨f3, ?_, q_w_at _ _ _ _, r2, r3, r4, σ.2.2, ?_, ?_, ?_, ?_, ⟨rfl, by omega, by omega, by omega, ?_⟩, ⟨?_, fun k h1 h2 => ?_⟩, ⟨?_, fun k h1 h2 => ?_⟩, ⟨?_, fun k h1 h2 => ?_⟩⟩
  · rw [k0 0 (by omega) (by omega), k1 0 (by omega), k2 0 (by omega), q_w_at]
  · rw [k0 1 (by omega) (by omega), k1 1 (by omega), q_w_at]
  · rw [k0 2 (by omega) (by omega), q_w_at]
  · rw [q_w_ne (fun _ q => by omega), q_w_at]
  · rw [k0 5 (by omega) (by omega), k1 5 (by omega), k2 5 (by omega), q_w_ne (fun _ q => by omega), q_w_at]
  · rw [q_w_2, q_w_2, m3, e2]
  · rw [w2.2.2 r2 (by rw [e1]; omega)]; exact y1
  · rw [w2.2.1 r2 k (by rw [e1]; omega) (by omega), q_w_ne (fun q _ => by omega), z1 k h1 (by rw [fS.2.2 a2 hk1]; exact h2)]
    exact fS.2.1 a2 k hk1 n1
  · rw [w3.2.2 r3 (by rw [e2]; omega)]; exact y2
  · rw [w3.2.1 r3 k (by rw [e2]; omega) (by omega), q_w_ne (fun q _ => by omega), z2 k h1 (by rw [f1.2.2 a3 hk2]; exact h2)]
    exact f1.2.1 a3 k hk2 n2
  · exact y3
  · rw [q_w_ne (fun q _ => by omega), q_w_ne (fun q _ => by omega), z3 k h1 (by rw [f2.2.2 a4 hk3]; exact h2)]
    exact f2.2.1 a4 k hk3 n3
noncomputable def qP_41 : zPp := fun as σ o σ' => match as with
  | [a0, a1, a2, a3, a4, a5] => o = .inl none ∧ p_41 (q_r a0) (q_i a1) (q_r a2) (q_r a3) (q_r a4) (q_r a5) σ σ'
  | _ => True
set_option maxRecDepth 100000 in
theorem sp_41 {sx : zX} (S314 : zEe sx 314 2 qP_314) : zEe sx 41 6 qP_41 := by
  refine zfle zJ_41 (sps := [(314, 2, qP_314)]) (fun q hq => by
    simp only [List.mem_cons, List.not_mem_nil, or_false] at hq
    rcases hq with rfl
    · exact S314) (fun as σ hl => ?_)
  match as, hl with
  | [a0, a1, a2, a3, a4, a5], _ =>
  refine ⟨[], 400, ?_, ?_⟩
  · exact fun q hq => absurd hq List.not_mem_nil
  · refine fun h1 => ?_
    refine fun o2 τ2 g2 => ?_
    obtain ⟨r2, rfl, g2⟩ := g2
    refine fun o3 τ3 g3 => ?_
    obtain ⟨r3, rfl, g3⟩ := g3
    refine fun o4 τ4 g4 => ?_
    obtain ⟨r4, rfl, g4⟩ := g4
    exact ⟨rfl, sp_41_e (q_r a0) (q_i a1) (q_r a2) (q_r a3) (q_r a4) (q_r a5) σ τ2 r2 τ3 r3 τ4 r4 h1 g2 g3 g4⟩
noncomputable def p_48 (r : Nat) (σ : zSg) (q : Nat) (σ' : zSg) : Prop := r < σ.2.2 → q_r (σ.1 r 0) < σ.2.2 → q_r (σ.1 r 1) < σ.2.2 → q_r (σ.1 r 2) < σ.2.2 → q_r (σ.1 r 3) < σ.2.2 → σ.2.1 (q_r (σ.1 r 0)) ≤ 1000 → σ.2.1 (q_r (σ.1 r 1)) ≤ 1000 → σ.2.1 (q_r (σ.1 r 2)) ≤ 1000 → σ.2.1 (q_r (σ.1 r 3)) ≤ 1000 → q = σ.2.2 ∧ qFr σ σ' ∧ σ'.2.2 = σ.2.2 + 6 ∧ σ'.1 q 0 = .int (q_i (σ.1 r 4)) ∧ σ'.1 q 1 = .ref (q + 3) ∧ σ'.1 q 2 = .ref (q + 4) ∧ σ'.1 q 3 = .ref (q + 5) ∧ σ'.1 q 4 = .ref (q + 1) ∧ σ'.1 q 5 = .ref (q + 2) ∧ qCy σ σ' (q_r (σ.1 r 0)) (q + 3) (q_i (σ.1 r 4)) ∧ qCy σ σ' (q_r (σ.1 r 1)) (q + 4) (q_i (σ.1 r 4)) ∧ qCy σ σ' (q_r (σ.1 r 2)) (q + 5) (q_i (σ.1 r 4)) ∧ qCy σ σ' (q_r (σ.1 r 3)) (q + 1) (q_i (σ.1 r 5))
theorem sp_48_e (a0 : Nat) (σ : zSg) (τ1 : zSg) (r1 : Nat) (τ2 : zSg) (g1 : p_314 (q_r ((q_nw σ (fun j => ((z_df.getD 2 [])[j]?).getD .null) 0).1 a0 3)) (q_i ((q_nw σ (fun j => ((z_df.getD 2 [])[j]?).getD .null) 0).1 a0 5)) (q_nw σ (fun j => ((z_df.getD 2 [])[j]?).getD .null) 0) r1 τ1) (g2 : p_41 σ.2.2 (q_i ((q_nw σ (fun j => ((z_df.getD 2 [])[j]?).getD .null) 0).1 a0 4)) (q_r ((q_nw σ (fun j => ((z_df.getD 2 [])[j]?).getD .null) 0).1 a0 0)) (q_r ((q_nw σ (fun j => ((z_df.getD 2 [])[j]?).getD .null) 0).1 a0 1)) (q_r ((q_nw σ (fun j => ((z_df.getD 2 [])[j]?).getD .null) 0).1 a0 2)) r1 τ1 τ2) :
    p_48 (a0) σ σ.2.2 τ2 := by
  intro hr h0 h1 h2 h3 l0 l1 l2 l3
  generalize hS : q_nw σ (fun j => ((z_df.getD 2 [])[j]?).getD .null) 0 = S at *
  have fr : qFr σ S := by rw [← hS]; exact qFr.nw
  have eN : S.2.2 = σ.2.2 + 1 := by rw [← hS]; rfl
  rw [fr.2.1 a0 0 hr, fr.2.1 a0 1 hr, fr.2.1 a0 2 hr, fr.2.1 a0 4 hr] at g2
  rw [fr.2.1 a0 3 hr, fr.2.1 a0 5 hr] at g1
  obtain ⟨q1, g1, m1, y1, z1⟩ := g1 (by rw [eN]; omega) (by rw [fr.2.2 _ h3]; exact l3)
  have fr2 := fr.tr g1
  rw [eN] at q1 m1
  subst q1
  obtain ⟨f3, w0, w4, u1, u2, u3, u5, w1, w2, w3, w5, ⟨e5, e1, e2, e3, e6⟩, c1, c2, c3⟩ := g2 (by omega) (by omega) (by omega) (by omega) (by omega) (by omega) (by omega) (by rw [fr2.2.2 _ h0]; exact l0) (by rw [fr2.2.2 _ h1]; exact l1) (by rw [fr2.2.2 _ h2]; exact l2)
  rw [m1] at e5 e1 e2 e3 e6
  have o1 : u1 = σ.2.2 + 3 := by omega
  have o2 : u2 = σ.2.2 + 4 := by omega
  have o3 : u3 = σ.2.2 + 5 := by omega
  have o5 : u5 = σ.2.2 + 2 := by omega
  subst o1
  subst o2
  subst o3
  subst o5
  have cy : ∀ a r n, a < σ.2.2 → qCy τ1 τ2 a r n → qCy σ τ2 a r n := by
    intro a r n ha hc
    exact ⟨hc.1, fun k k1 k2 => (hc.2 k k1 (by rw [fr2.2.2 a ha]; exact k2)).trans (fr2.2.1 a k ha)⟩
  refine ⟨rfl, ⟨by omega, fun c k h => ?_, fun c h => ?_⟩, by omega, w0, w1, w2, w3, w4, w5, cy _ _ _ h0 c1, cy _ _ _ h1 c2, cy _ _ _ h2 c3, ?_, fun k k1 k2 => ?_⟩
  · rw [f3.2.1 c k (by omega) (by omega)]; exact fr2.2.1 c k h
  · rw [f3.2.2 c (by omega)]; exact fr2.2.2 c h
  · rw [f3.2.2 _ (by omega)]; exact y1
  · rw [f3.2.1 _ k (by omega) (by omega), z1 k k1 (by rw [fr.2.2 _ h3]; exact k2)]
    exact fr.2.1 _ k h3
noncomputable def qP_48 : zPp := fun as σ o σ' => match as with
  | [a0] => ∃ r, o = .inl (some (.ref r)) ∧ p_48 (q_r a0) σ r σ'
  | _ => True
set_option maxRecDepth 100000 in
theorem sp_48 {sx : zX} (S314 : zEe sx 314 2 qP_314) (S41 : zEe sx 41 6 qP_41) : zEe sx 48 1 qP_48 := by
  refine zfle zJ_48 (sps := [(314, 2, qP_314), (41, 6, qP_41)]) (fun q hq => by
    simp only [List.mem_cons, List.not_mem_nil, or_false] at hq
    rcases hq with rfl | rfl
    · exact S314
    · exact S41) (fun as σ hl => ?_)
  match as, hl with
  | [a0], _ =>
  refine ⟨[], 400, ?_, ?_⟩
  · exact fun q hq => absurd hq List.not_mem_nil
  · refine fun o1 τ1 g1 => ?_
    obtain ⟨r1, rfl, g1⟩ := g1
    refine fun o2 τ2 g2 => ?_
    obtain ⟨rfl, g2⟩ := g2
    exact ⟨_, rfl, sp_48_e (q_r a0) σ τ1 r1 τ2 g1 g2⟩
noncomputable def p_64 (m : Nat) (σ σ' : zSg) : Prop := σ' = q_w σ m 2 (.int (Int32.ofInt 0))
theorem zJ_64 : zJ3 64 z_m64 z_c64 z_h64 := ⟨rfl, rfl, rfl⟩
theorem sp_64_e (a0 : Nat) (σ : zSg)  :
    p_64 (a0) σ (q_w σ a0 2 (.int (Int32.ofInt (0)))) := by
  rfl
noncomputable def qP_64 : zPp := fun as σ o σ' => match as with
  | [a0] => o = .inl none ∧ p_64 (q_r a0) σ σ'
  | _ => True
set_option maxRecDepth 100000 in
theorem sp_64 {sx : zX}  : zEe sx 64 1 qP_64 := by
  refine zfle zJ_64 (sps := []) (fun q hq => absurd hq List.not_mem_nil) (fun as σ hl => ?_)
  match as, hl with
  | [a0], _ =>
  refine ⟨[], 400, ?_, ?_⟩
  · exact fun q hq => absurd hq List.not_mem_nil
  · exact ⟨rfl, sp_64_e (q_r a0) σ ⟩
noncomputable def cLaw (σ : zSg) (L : Nat) (ls : List gLn4) (l : zSs) : Prop := σ.1 L 0 = .int (Int32.ofNat ls.length) ∧ σ.1 L 1 = .ref (L + 3) ∧ σ.1 L 2 = .ref (L + 4) ∧ σ.1 L 3 = .ref (L + 5) ∧ σ.1 L 4 = .ref (L + 1) ∧ σ.1 L 5 = .ref (L + 2) ∧ cLn σ (L + 3) (L + 4) (L + 5) ls ∧ σ.2.1 (L + 1) = l.length ∧ ∀ i x, l[i]? = some x → σ.1 (L + 1) i = .int (enc x)
noncomputable def cLw (σ : zSg) (x t r nw me C K0 K1 K2 B : Nat) (b : Nat → Int) (E : Nat) : Prop := σ.1 x 0 = .ref t ∧ σ.1 x 1 = .ref r ∧ σ.1 x 2 = .ref nw ∧ σ.1 x 5 = .ref me ∧ σ.1 t 0 = .ref B ∧ cA σ t r C K0 K1 K2 b E ∧ (σ.2.1 K0 = 12 ∧ σ.2.1 K1 = 12 ∧ σ.2.1 K2 = 12) ∧ (x < σ.2.2 ∧ t < σ.2.2 ∧ r < σ.2.2 ∧ nw < σ.2.2 ∧ me < σ.2.2 ∧ C < σ.2.2 ∧ K0 < σ.2.2 ∧ K1 < σ.2.2 ∧ K2 < σ.2.2) ∧ (x ≠ t ∧ x ≠ r ∧ x ≠ nw ∧ x ≠ me ∧ x ≠ C ∧ x ≠ K0 ∧ x ≠ K1 ∧ x ≠ K2) ∧ (nw ≠ t ∧ nw ≠ r ∧ nw ≠ me ∧ nw ≠ C ∧ nw ≠ K0 ∧ nw ≠ K1 ∧ nw ≠ K2) ∧ (me ≠ t ∧ me ≠ r ∧ me ≠ C ∧ me ≠ K0 ∧ me ≠ K1 ∧ me ≠ K2)
noncomputable def cFL (σ σ' : zSg) (x t r nw me C K0 K1 K2 : Nat) : Prop := σ.2.2 ≤ σ'.2.2 ∧ (∀ c, c < σ.2.2 → σ'.2.1 c = σ.2.1 c) ∧ ∀ c k, c < σ.2.2 → ¬ (c = x ∧ k = 7) → ¬ (c = t ∧ (k = 1 ∨ k = 2 ∨ k = 3)) → ¬ (c = r ∧ (k = 4 ∨ k = 5)) → c ≠ C → c ≠ K0 → c ≠ K1 → c ≠ K2 → ¬ (c = nw ∧ k = 5) → ¬ (c = me ∧ k = 2) → σ'.1 c k = σ.1 c k
abbrev cLo (σ' : zSg) (x nw me L : Nat) (e : Int32 ⊕ Nat) (R : (List gLn4 × zSs) ⊕ Nat) : Prop := match R with
  | .inl (ls, l) => e = .inl (Int32.ofNat ls.length) ∧ ls.length ≤ 12 ∧ l.length ≤ 400 ∧ σ'.1 x 7 = .int (Int32.ofInt (-1)) ∧ σ'.1 nw 5 = .ref L ∧ σ'.1 me 2 = .int (Int32.ofInt 0) ∧ cLaw σ' L ls l
  | .inr F => e = .inr 0 ∧ F ≤ 400 ∧ σ'.1 x 7 = .int (Int32.ofNat F) ∧ σ'.2.2 = L
noncomputable def p_121 (x : Nat) (σ : zSg) (e : Int32 ⊕ Nat) (σ' : zSg) : Prop := ∀ t r nw me C K0 K1 K2 B b E, cLw σ x t r nw me C K0 K1 K2 B b E → cFL σ σ' x t r nw me C K0 K1 K2 ∧ σ'.1 t 1 = .int (Int32.ofInt 0) ∧ ∃ R, GLaw b E R ∧ cLo σ' x nw me σ.2.2 e R
theorem sp_121_et (a0 : Nat) (σ : zSg) (τ1 : zSg) (r1 : Int32) (τ3 : zSg) (r3 : Nat) (τ4 : zSg) (g1 : p_47 (q_r (σ.1 a0 1)) (q_r (σ.1 a0 0)) σ r1 τ1) (h2 : (q_i ((q_w (q_w τ1 a0 7 (.int r1)) (q_r ((q_w τ1 a0 7 (.int r1)).1 a0 0)) 1 (.int (Int32.ofInt (0)))).1 a0 7)).toInt = (-1 : Int)) (g3 : p_48 (q_r ((q_w (q_w τ1 a0 7 (.int r1)) (q_r ((q_w τ1 a0 7 (.int r1)).1 a0 0)) 1 (.int (Int32.ofInt (0)))).1 a0 1)) (q_w (q_w τ1 a0 7 (.int r1)) (q_r ((q_w τ1 a0 7 (.int r1)).1 a0 0)) 1 (.int (Int32.ofInt (0)))) r3 τ3) (g4 : p_64 (q_r ((q_w τ3 (q_r (τ3.1 a0 2)) 5 (.ref r3)).1 a0 5)) (q_w τ3 (q_r (τ3.1 a0 2)) 5 (.ref r3)) τ4) :
    p_121 (a0) σ (.inl (q_i (τ4.1 r3 0))) τ4 := by
  intro t r nw me C K0 K1 K2 B b E H
  obtain ⟨x0, x1, x2, x5, t0, hA, ⟨l0, l1, l2⟩, ⟨n0, n1, n2, n3, n4, n5, n6, n7, n8⟩, ⟨d1, d2, d3, d4, d5, d6, d7, d8⟩, ⟨w1, w2, w3, w4, w5, w6, w7⟩, ⟨v1, v2, v3, v4, v5, v6⟩⟩ := H
  have qt : q_r (σ.1 a0 0) = t := by rw [x0]; rfl
  have qr : q_r (σ.1 a0 1) = r := by rw [x1]; rfl
  rw [qt, qr] at g1
  obtain ⟨hH, R, hR, hT⟩ := g1 C K0 K1 K2 b E hA
  have hN : τ1.2.2 = σ.2.2 := by rw [hH.1]
  have hx : ∀ k, τ1.1 a0 k = σ.1 a0 k := fun k => hH.2 a0 k (fun q => d1 q.1) (fun q => d2 q.1) d5 d6 d7 d8
  have hn : ∀ k, τ1.1 nw k = σ.1 nw k := fun k => hH.2 nw k (fun q => w1 q.1) (fun q => w2 q.1) w4 w5 w6 w7
  have hm : ∀ k, τ1.1 me k = σ.1 me k := fun k => hH.2 me k (fun q => v1 q.1) (fun q => v2 q.1) v3 v4 v5 v6
  have qt2 : q_r ((q_w τ1 a0 7 (.int r1)).1 a0 0) = t := by rw [q_w_ne (fun _ q => by omega), hx, x0]; rfl
  simp only [qt2] at *
  have e7 : (q_w (q_w τ1 a0 7 (.int r1)) t 1 (.int (Int32.ofInt 0))).1 a0 7 = .int r1 := by rw [q_w_ne (fun q _ => d1 q), q_w_at]
  rw [e7] at h2
  have hv : (r1).toInt = -1 := h2
  cases R with
  | inr F =>
    exfalso
    obtain ⟨eF, hF⟩ := hT
    rw [eF, o32 (by omega)] at hv
    omega
  | inl q =>
  obtain ⟨ls, l⟩ := q
  obtain ⟨-, hls, hl4, hl, hl5, hLn, hCd⟩ := hT
  generalize hS : q_w (q_w τ1 a0 7 (.int r1)) t 1 (.int (Int32.ofInt 0)) = S at *
  have eN : S.2.2 = σ.2.2 := by rw [← hS]; exact hN
  have eL : ∀ c, S.2.1 c = σ.2.1 c := by intro c; rw [← hS]; show τ1.2.1 c = σ.2.1 c; rw [hH.1]
  have gS : ∀ c k, c ≠ a0 → c ≠ t → S.1 c k = τ1.1 c k := by
    intro c k q1 q2
    rw [← hS, q_w_ne (fun e _ => q2 e), q_w_ne (fun e _ => q1 e)]
  obtain ⟨S9, hb, hD, hE⟩ := hA
  obtain ⟨hk0, hk1, hk2, -⟩ := hE.of hD.1 hD.2.2.2.1 hD.2.2.1 hH
  have hrt : r ≠ t := hD.1
  have qr2 : q_r (S.1 a0 1) = r := by rw [← hS, q_w_ne (fun q _ => d1 q), q_w_ne (fun _ q => by omega), hx, x1]; rfl
  rw [qr2] at g3
  have r0 : q_r (S.1 r 0) = K0 := by rw [gS r 0 (fun q => d2 q.symm) hrt]; exact hk0
  have r1 : q_r (S.1 r 1) = K1 := by rw [gS r 1 (fun q => d2 q.symm) hrt]; exact hk1
  have r2 : q_r (S.1 r 2) = K2 := by rw [gS r 2 (fun q => d2 q.symm) hrt]; exact hk2
  have r3 : q_r (S.1 r 3) = C := by
    rw [gS r 3 (fun q => d2 q.symm) hrt, hH.2 r 3 (fun q => hrt q.1) (fun q => by omega) (fun q => hD.2.2.2.1 q.symm) (fun q => hE.2.2.2.1.2.1 q.symm) (fun q => hE.2.2.2.2.1.2.1 q.symm) (fun q => hE.2.2.2.2.2.1.2.1 q.symm)]
    exact hD.2.1
  have r4 : q_i (S.1 r 4) = Int32.ofNat ls.length := by rw [gS r 4 (fun q => d2 q.symm) hrt, hl]; rfl
  have r5 : q_i (S.1 r 5) = Int32.ofNat l.length := by rw [gS r 5 (fun q => d2 q.symm) hrt, hl5]; rfl
  have hC4 : σ.2.1 C = 400 := hD.2.2.2.2.2.2
  have h48 := g3 (by rw [eN]; exact n2) (by rw [r0, eN]; exact n6) (by rw [r1, eN]; exact n7) (by rw [r2, eN]; exact n8) (by rw [r3, eN]; exact n5) (by rw [r0, eL, l0]; omega) (by rw [r1, eL, l1]; omega) (by rw [r2, eL, l2]; omega) (by rw [r3, eL, hC4]; omega)
  rw [r0, r1, r2, r3, r4, r5, eN] at h48
  obtain ⟨eq, fr, eN2, m0, m1, m2, m3, m4, m5, y0, y1, y2, y3⟩ := h48
  subst eq
  have qn : q_r (τ3.1 a0 2) = nw := by rw [fr.2.1 a0 2 (by rw [eN]; exact n0), ← hS, q_w_ne (fun q _ => d1 q), q_w_ne (fun _ q => by omega), hx, x2]; rfl
  rw [qn] at g4
  have qm : q_r ((q_w τ3 nw 5 (.ref σ.2.2)).1 a0 5) = me := by rw [q_w_ne (fun q _ => d3 q), fr.2.1 a0 5 (by rw [eN]; exact n0), ← hS, q_w_ne (fun q _ => d1 q), q_w_ne (fun _ q => by omega), hx, x5]; rfl
  rw [qm] at g4
  have eT : τ4 = q_w (q_w τ3 nw 5 (.ref σ.2.2)) me 2 (.int (Int32.ofInt 0)) := g4
  have hi : ∀ c k, σ.2.2 ≤ c → τ4.1 c k = τ3.1 c k := by
    intro c k hc
    rw [eT, q_w_ne (fun q _ => by omega), q_w_ne (fun q _ => by omega)]
  have hl9 : τ4.2 = τ3.2 := by rw [eT]; rfl
  have o12 : (Int32.ofNat ls.length).toNatClampNeg = ls.length := o32n (by omega)
  have o400 : (Int32.ofNat l.length).toNatClampNeg = l.length := o32n (by omega)
  have hlaw : cLaw τ4 σ.2.2 ls l := by
    refine ⟨by rw [hi _ _ (by omega)]; exact m0, by rw [hi _ _ (by omega)]; exact m1, by rw [hi _ _ (by omega)]; exact m2, by rw [hi _ _ (by omega)]; exact m3, by rw [hi _ _ (by omega)]; exact m4, by rw [hi _ _ (by omega)]; exact m5, fun i x hx' => ?_, ?_, fun i x hx' => ?_⟩
    · have hi9 : i < ls.length := (List.getElem?_eq_some_iff.mp hx').1
      obtain ⟨z0, z1, z2⟩ := hLn i x hx'
      rw [hi _ _ (by omega), hi _ _ (by omega), hi _ _ (by omega), y0.2 i (by omega) (by rw [eL, l0]; omega), y1.2 i (by omega) (by rw [eL, l1]; omega), y2.2 i (by omega) (by rw [eL, l2]; omega), gS K0 i (fun q => d6 q.symm) hE.2.2.2.1.1, gS K1 i (fun q => d7 q.symm) hE.2.2.2.2.1.1, gS K2 i (fun q => d8 q.symm) hE.2.2.2.2.2.1.1]
      exact ⟨z0, z1, z2⟩
    · rw [hl9, y3.1, o400]
    · have hi9 : i < l.length := (List.getElem?_eq_some_iff.mp hx').1
      rw [hi _ _ (by omega), y3.2 i (by omega) (by rw [eL, hC4]; omega), gS C i (fun q => d5 q.symm) hD.2.2.1]
      exact hCd i x hx'
  have ert : q_i (τ4.1 σ.2.2 0) = Int32.ofNat ls.length := by rw [hlaw.1]; rfl
  rw [ert]
  refine ⟨⟨by rw [hl9]; omega, fun c h => ?_, fun c k h q1 q2 q3 q4 q5 q6 q7 q8 q9 => ?_⟩, ?_, _, hR, rfl, hls, hl4, ?_, ?_, ?_, hlaw⟩
  · rw [hl9, fr.2.2 c (by rw [eN]; exact h)]; exact eL c
  · rw [eT, q_w_ne (fun e1 e2 => q9 ⟨e1, e2⟩), q_w_ne (fun e1 e2 => q8 ⟨e1, e2⟩), fr.2.1 c k (by rw [eN]; exact h), ← hS, q_w_ne (fun e1 e2 => q2 ⟨e1, by omega⟩), q_w_ne (fun e1 e2 => q1 ⟨e1, e2⟩)]
    exact hH.2 c k (fun q => q2 ⟨q.1, by omega⟩) (fun q => q3 ⟨q.1, by omega⟩) q4 q5 q6 q7
  · rw [eT, q_w_ne (fun q _ => v1 q.symm), q_w_ne (fun q _ => w1 q.symm), fr.2.1 t 1 (by rw [eN]; exact n1), ← hS, q_w_at]
  · rw [eT, q_w_ne (fun q _ => d4 q), q_w_ne (fun q _ => d3 q), fr.2.1 a0 7 (by rw [eN]; exact n0), e7]
    exact congrArg Value.int (Int32.toInt_inj.mp (hv.trans rfl))
  · rw [eT, q_w_ne (fun q _ => w3 q), q_w_at]
  · rw [eT, q_w_at]
theorem sp_121_ef (a0 : Nat) (σ : zSg) (τ1 : zSg) (r1 : Int32) (g1 : p_47 (q_r (σ.1 a0 1)) (q_r (σ.1 a0 0)) σ r1 τ1) (h2 : (q_i ((q_w (q_w τ1 a0 7 (.int r1)) (q_r ((q_w τ1 a0 7 (.int r1)).1 a0 0)) 1 (.int (Int32.ofInt (0)))).1 a0 7)).toInt ≠ (-1 : Int)) :
    p_121 (a0) σ (.inr 0) (q_w (q_w τ1 a0 7 (.int r1)) (q_r ((q_w τ1 a0 7 (.int r1)).1 a0 0)) 1 (.int (Int32.ofInt (0)))) := by
  intro t r nw me C K0 K1 K2 B b E H
  obtain ⟨x0, x1, x2, x5, t0, hA, ⟨l0, l1, l2⟩, ⟨n0, n1, n2, n3, n4, n5, n6, n7, n8⟩, ⟨d1, d2, d3, d4, d5, d6, d7, d8⟩, ⟨w1, w2, w3, w4, w5, w6, w7⟩, ⟨v1, v2, v3, v4, v5, v6⟩⟩ := H
  have qt : q_r (σ.1 a0 0) = t := by rw [x0]; rfl
  have qr : q_r (σ.1 a0 1) = r := by rw [x1]; rfl
  rw [qt, qr] at g1
  obtain ⟨hH, R, hR, hT⟩ := g1 C K0 K1 K2 b E hA
  have hN : τ1.2.2 = σ.2.2 := by rw [hH.1]
  have hx : ∀ k, τ1.1 a0 k = σ.1 a0 k := fun k => hH.2 a0 k (fun q => d1 q.1) (fun q => d2 q.1) d5 d6 d7 d8
  have hn : ∀ k, τ1.1 nw k = σ.1 nw k := fun k => hH.2 nw k (fun q => w1 q.1) (fun q => w2 q.1) w4 w5 w6 w7
  have hm : ∀ k, τ1.1 me k = σ.1 me k := fun k => hH.2 me k (fun q => v1 q.1) (fun q => v2 q.1) v3 v4 v5 v6
  have qt2 : q_r ((q_w τ1 a0 7 (.int r1)).1 a0 0) = t := by rw [q_w_ne (fun _ q => by omega), hx, x0]; rfl
  simp only [qt2] at *
  have e7 : (q_w (q_w τ1 a0 7 (.int r1)) t 1 (.int (Int32.ofInt 0))).1 a0 7 = .int r1 := by rw [q_w_ne (fun q _ => d1 q), q_w_at]
  rw [e7] at h2
  have hv : (r1).toInt ≠ -1 := h2
  cases R with
  | inl q => exact absurd hT.1 hv
  | inr F =>
    obtain ⟨eF, hF⟩ := hT
    refine ⟨⟨by show σ.2.2 ≤ τ1.2.2; omega, fun c h => by show τ1.2.1 c = σ.2.1 c; rw [hH.1], fun c k h q1 q2 q3 q4 q5 q6 q7 q8 q9 => ?_⟩, q_w_at _ _ _ _, _, hR, rfl, hF, by rw [e7, eF], hN⟩
    rw [q_w_ne (fun e1 e2 => q2 ⟨e1, by omega⟩), q_w_ne (fun e1 e2 => q1 ⟨e1, e2⟩)]
    exact hH.2 c k (fun q => q2 ⟨q.1, by omega⟩) (fun q => q3 ⟨q.1, by omega⟩) q4 q5 q6 q7
noncomputable def qP_121 : zPp := fun as σ o σ' => match as with
  | [a0] => (∃ r, o = .inl (some (.int r)) ∧ p_121 (q_r a0) σ (.inl r) σ') ∨ (o = .inr 0 ∧ p_121 (q_r a0) σ (.inr 0) σ')
  | _ => True
set_option maxRecDepth 100000 in
theorem sp_121 {sx : zX} (S47 : zEe sx 47 2 qP_47) (S48 : zEe sx 48 1 qP_48) (S64 : zEe sx 64 1 qP_64) : zEe sx 121 1 qP_121 := by
  refine zfle zJ_121 (sps := [(47, 2, qP_47), (48, 1, qP_48), (64, 1, qP_64)]) (fun q hq => by
    simp only [List.mem_cons, List.not_mem_nil, or_false] at hq
    rcases hq with rfl | rfl | rfl
    · exact S47
    · exact S48
    · exact S64) (fun as σ hl => ?_)
  match as, hl with
  | [a0], _ =>
  refine ⟨[], 400, ?_, ?_⟩
  · exact fun q hq => absurd hq List.not_mem_nil
  · refine fun o1 τ1 g1 => ?_
    obtain ⟨r1, rfl, g1⟩ := g1
    refine And.intro (fun h2 => ?_) (fun h2 => ?_)
    · refine fun o3 τ3 g3 => ?_
      obtain ⟨r3, rfl, g3⟩ := g3
      refine fun o4 τ4 g4 => ?_
      obtain ⟨rfl, g4⟩ := g4
      exact Or.inl ⟨_, rfl, sp_121_et (q_r a0) σ τ1 r1 τ3 r3 τ4 g1 (cm0t h2) g3 g4⟩
    · exact Or.inr (⟨rfl, sp_121_ef (q_r a0) σ τ1 r1 g1 (cm0f h2)⟩)
noncomputable def p_316 (x o : Nat) (σ : zSg) (k : Int32) (σ' : zSg) : Prop := ∀ t r nw me C K0 K1 K2 B b E, cLw σ x t r nw me C K0 K1 K2 B b E → ∃ R, GLaw b E R ∧ (match R with
  | .inl (ls, _) => k.toInt = 0 ∧ ls.length ≤ 12 ∧ σ'.1 o 0 = .long (Int32.ofNat ls.length).toInt64
  | .inr _ => k.toInt = 1)
theorem sp_316_en (a0 : Nat) (a1 : Nat) (σ : zSg) (τ1 : zSg) (r1 : Int32) (g1 : p_121 a0 σ (.inl r1) τ1) (h2 : 0 ≤ (Int32.ofInt (0)).toInt ∧ (Int32.ofInt (0)).toInt < (τ1.2.1 a1 : Int)) :
    p_316 (a0) (a1) σ (Int32.ofInt (0)) (q_w τ1 a1 (Int32.ofInt (0)).toNatClampNeg (.long r1.toInt64)) := by
  intro t r nw me C K0 K1 K2 B b E H
  obtain ⟨-, -, R, hR, hT⟩ := g1 t r nw me C K0 K1 K2 B b E H
  refine ⟨R, hR, ?_⟩
  cases R with
  | inr F => exact absurd hT.1 (by simp)
  | inl q =>
    obtain ⟨ls, l⟩ := q
    have e := Sum.inl.inj hT.1
    refine ⟨rfl, hT.2.1, ?_⟩
    rw [e]
    exact q_w_at _ _ _ _
theorem sp_316_ex0_ (a0 : Nat) (a1 : Nat) (σ : zSg) (τ1 : zSg) (g1 : p_121 a0 σ (.inr 0) τ1) :
    p_316 (a0) (a1) σ (Int32.ofInt (1)) τ1 := by
  intro t r nw me C K0 K1 K2 B b E H
  obtain ⟨-, -, R, hR, hT⟩ := g1 t r nw me C K0 K1 K2 B b E H
  refine ⟨R, hR, ?_⟩
  cases R with
  | inr F => exact rfl
  | inl q =>
    obtain ⟨ls, l⟩ := q
    exact absurd hT.1 (by simp)
noncomputable def qP_316 : zPp := fun as σ o σ' => match as with
  | [a0, a1] => ∃ r, o = .inl (some (.int r)) ∧ p_316 (q_r a0) (q_r a1) σ r σ'
  | _ => True
set_option maxRecDepth 100000 in
theorem sp_316 {sx : zX} (S121 : zEe sx 121 1 qP_121) : zEe sx 316 2 qP_316 := by
  refine zfle zJ_316 (sps := [(121, 1, qP_121)]) (fun q hq => by
    simp only [List.mem_cons, List.not_mem_nil, or_false] at hq
    rcases hq with rfl
    · exact S121) (fun as σ hl => ?_)
  match as, hl with
  | [a0, a1], _ =>
  refine ⟨[], 400, ?_, ?_⟩
  · exact fun q hq => absurd hq List.not_mem_nil
  · refine fun o1 τ1 g1 => ?_
    rcases g1 with ⟨r1, rfl, g1⟩ | ⟨rfl, g1⟩
    · refine fun h2 => ?_
      exact ⟨_, rfl, sp_316_en (q_r a0) (q_r a1) σ τ1 r1 g1 (q_inp h2)⟩
    · exact ⟨_, rfl, sp_316_ex0_ (q_r a0) (q_r a1) σ τ1 g1⟩
