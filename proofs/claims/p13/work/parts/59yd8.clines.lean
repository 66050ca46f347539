section
/-! the class's lines of a deed, exact; printed with wip/gen/gen_d5.py -/
theorem cR.cg {σ : zSg} {b : Nat → Int} {A E nf nt : Nat} {H H' : Nat → Int32} (K : cR σ b A E nf nt H) (h : ∀ k, k < 388 → H k = H' k) : cR σ b A E nf nt H' := ⟨K.1, K.2.1, K.2.2.1, K.2.2.2.1, K.2.2.2.2.1.cg h, K.2.2.2.2.2.cg (h 0 (by omega)).symm (h 1 (by omega)).symm (fun t _ => (h _ (by omega)).symm)⟩
theorem zJ_4 : zJ3 4 z_m4 z_c4 z_h4 := ⟨rfl, rfl, rfl⟩
noncomputable def p_4 (h a : Nat) (σ σ' : zSg) : Prop := h = 21 → a = 1 → ∀ b E, (∀ A nf nt H, cR σ b A E nf nt H → nt < 8 → cDF σ σ' ∧ cOL σ' b E nf nt H (dTh b E nf A)) ∧ (∀ F, cQ σ b E F → cDF σ σ' ∧ cQ σ' b E F)
theorem sp_4_e (a0 : Nat) (a1 : Nat) (σ : zSg) (τ1 : zSg) (r1 : Int32) (τ2 : zSg) (τ3 : zSg) (r3 : Int32) (τ4 : zSg) (r4 : Int32) (τ5 : zSg) (g1 : p_5 a0 a1 σ r1 τ1) (g2 : p_92 a1 (zB + 24) τ1 τ2) (g3 : p_96 a1 (Int32.ofInt (1)) (Int32.ofInt (9)) τ2 r3 τ3) (g4 : p_91 a1 (zB + 25) τ3 r4 τ4) (g5 : p_104 (q_r (τ3.1 a0 2)) r1 r3 r4 τ4 τ5) :
    p_4 (a0) (a1) σ τ5 := by
  rintro rfl rfl b E
  obtain ⟨gR, gQ⟩ := g1 rfl rfl b E
  refine ⟨fun A nf nt H K hn => ?_, fun F K => ?_⟩
  · unfold dTh
    obtain ⟨f1, ⟨A1, f, h1, e1, K1⟩ | ⟨h1, K1⟩⟩ := gR A nf nt H K
    · rw [h1]
      dsimp only
      obtain ⟨f2, K2⟩ := K1.af g2 g3 zwk_24 qsi_24 (by decide)
      rw [show (Int32.ofInt 1).toInt = 1 from rfl, show (Int32.ofInt 9).toInt = 9 from rfl] at K2
      cases h2 : dAf b E wBulk 1 9 A1 with
      | inr F =>
        rw [h2] at K2
        obtain ⟨-, rfl⟩ := K2.tk g4 zwk_25
        rw [K2.k.2] at g5
        obtain ⟨f3, K3⟩ := K2.br g5
        exact ⟨(f1.tr f2).tr f3, K3⟩
      | inl q =>
        obtain ⟨A2, v⟩ := q
        rw [h2] at K2
        obtain ⟨e2, K2⟩ := K2
        dsimp only
        rw [K2.k.2] at g5
        obtain ⟨f3, u3, v3⟩ := K2.tk g4 zwk_25 qsi_25
        by_cases hx : r4.toInt = 0
        · obtain ⟨h3, rfl⟩ := v3 hx
          rw [h3]
          have hc := K2.2.2.2.2.2
          obtain ⟨g1, -, g2⟩ := g5 21 H nt rfl K2.2.2.2.2.1 hc.2.2.1 hc.2.2.2.1
          have g3 := (g2 hn).2 hx
          rw [hc.2.2.2.2 nt (by omega) hn, e1, e2] at g3
          have K4 := K2.hs g1 g3 (hc.br hn)
          exact ⟨(f1.tr f2).tr (cDF.of g1), K4⟩
        · obtain ⟨A3, h3, K3⟩ := u3 hx
          rw [h3]
          have hc := K3.2.2.2.2.2
          obtain ⟨g1, -, g2⟩ := g5 21 H nt rfl K3.2.2.2.2.1 hc.2.2.1 hc.2.2.2.1
          have g3 := (g2 hn).1 hx
          rw [e1, e2] at g3
          have K4 := K3.hs g1 g3 (hc.br hn)
          exact ⟨((f1.tr f2).tr f3).tr (cDF.of g1), K4⟩
    · rw [h1]
      dsimp only
      obtain ⟨f2, K2⟩ := K1.af g2 g3 zwk_24 (by decide)
      obtain ⟨-, rfl⟩ := K2.tk g4 zwk_25
      rw [K2.k.2] at g5
      obtain ⟨f3, K3⟩ := K2.br g5
      exact ⟨(f1.tr f2).tr f3, K3⟩
  · obtain ⟨f1, K1⟩ := gQ F K
    obtain ⟨f2, K2⟩ := K1.af g2 g3 zwk_24 (by decide)
    obtain ⟨-, rfl⟩ := K2.tk g4 zwk_25
    rw [K2.k.2] at g5
    obtain ⟨f3, K3⟩ := K2.br g5
    exact ⟨(f1.tr f2).tr f3, K3⟩
noncomputable def qP_4 : zPp := fun as σ o σ' => match as with
  | [a0, a1] => o = .inl none ∧ p_4 (q_r a0) (q_r a1) σ σ'
  | _ => True
set_option maxRecDepth 100000 in
theorem sp_4 {sx : zX} (S5 : zEe sx 5 2 qP_5) (S92 : zEe sx 92 2 qP_92) (S96 : zEe sx 96 3 qP_96) (S91 : zEe sx 91 2 qP_91) (S104 : zEe sx 104 4 qP_104) : zEe sx 4 2 qP_4 := by
  refine zfle zJ_4 (sps := [(5, 2, qP_5), (92, 2, qP_92), (96, 3, qP_96), (91, 2, qP_91), (104, 4, qP_104)]) (fun q hq => by
    simp only [List.mem_cons, List.not_mem_nil, or_false] at hq
    rcases hq with rfl | rfl | rfl | rfl | rfl
    · exact S5
    · exact S92
    · exact S96
    · exact S91
    · exact S104) (fun as σ hl => ?_)
  match as, hl with
  | [a0, a1], _ =>
  refine ⟨[], 400, ?_, ?_⟩
  · exact fun q hq => absurd hq List.not_mem_nil
  · refine fun o1 τ1 g1 => ?_
    obtain ⟨r1, rfl, g1⟩ := g1
    refine fun o2 τ2 g2 => ?_
    obtain ⟨rfl, g2⟩ := g2
    refine fun o3 τ3 g3 => ?_
    obtain ⟨r3, rfl, g3⟩ := g3
    refine fun o4 τ4 g4 => ?_
    obtain ⟨r4, rfl, g4⟩ := g4
    refine fun o5 τ5 g5 => ?_
    obtain ⟨rfl, g5⟩ := g5
    exact ⟨rfl, sp_4_e (q_r a0) (q_r a1) σ τ1 r1 τ2 τ3 r3 τ4 r4 τ5 g1 g2 g3 g4 g5⟩
noncomputable def dP3 (b : Nat → Int) (E A : Nat) : (Nat × Nat × Nat × Nat) ⊕ Nat := match dAf b E wPurse 0 999 A with
  | .inr F => .inr F
  | .inl (A1, p) => (match dAf b E wDust 0 9 A1 with
    | .inr F => .inr F
    | .inl (A2, d) => (match dAf b E wStove 0 9 A2 with
      | .inr F => .inr F
      | .inl (A3, s) => .inl (A3, p, d, s)))
theorem dFam_3 {b : Nat → Int} {E A : Nat} : dFam b E A = match dP3 b E A with
  | .inr F => .inr F
  | .inl (A3, p, d, s) => (match dOh b E wHours A3 with
    | .inr F => .inr F
    | .inl (A4, q) => (match dOh b E wWishes A4 with
      | .inr F => .inr F
      | .inl (A5, w) => .inl (A5, (0, (p, d, s), q, w)))) := by
  unfold dFam dP3
  cases dAf b E wPurse 0 999 A with
  | inr F => rfl
  | inl q =>
    dsimp only
    cases dAf b E wDust 0 9 q.1 with
    | inr F => rfl
    | inl r =>
      dsimp only
      cases dAf b E wStove 0 9 r.1 with
      | inr F => rfl
      | inl s => rfl
theorem dG_0 {H : Nat → Int32} {f : Int32} (k : Nat) : H k = dG H (Int32.ofInt 0) f k := by
  unfold dG
  rw [if_neg]
  rintro ⟨h1, h2, h3⟩
  have : (List.range 24).all (fun n => !btb (Int32.ofInt 0) (Int32.ofNat n)) = true := by decide +kernel
  have h4 := List.all_eq_true.mp this (k - 16) (List.mem_range.mpr (by omega))
  rw [h3] at h4
  cases h4
theorem fam_eq {H : Nat → Int32} {nf nt p d s : Nat} {q w : Int32} (hn : nf < 6) (k : Nat) : aU (dG (dFd H nf (Int32.ofNat p) (Int32.ofNat d) (Int32.ofNat s)) q (Int32.ofNat nf)) (43 + 4 * nf) (dG (dFd H nf (Int32.ofNat p) (Int32.ofNat d) (Int32.ofNat s)) q (Int32.ofNat nf) (43 + 4 * nf) ||| w) k = dApp nf nt H (0, (p, d, s), q, w) k := by
  show _ = aU (dG (aU (aU (aU (aU H (40 + 4 * nf) (Int32.ofNat p)) (41 + 4 * nf) (Int32.ofNat d)) (42 + 4 * nf) (Int32.ofNat s)) (43 + 4 * nf) w) q (Int32.ofNat nf)) 0 (Int32.ofNat (nf + 1)) k
  by_cases h : k = 43 + 4 * nf
  · rw [h, aU_at, aU_ne (by omega), dG_ne (by omega), dG_ne (by omega), aU_at]
    unfold dFd
    rw [aU_ne (by omega), aU_at]
    exact Int32.zero_or
  · rw [aU_ne h]
    by_cases h0 : k = 0
    · rw [h0, aU_at, dG_ne (by omega)]
      exact aU_at
    · rw [aU_ne h0]
      unfold dG
      by_cases hc : 16 ≤ k ∧ k < 40 ∧ btb q (Int32.ofNat (k - 16)) = true
      · rw [if_pos hc, if_pos hc]
      · rw [if_neg hc, if_neg hc]
        unfold dFd
        rw [aU_ne h0, aU_ne h, aU_ne h]
theorem wi_0 {H : Nat → Int32} {i : Nat} (k : Nat) : H k = aU H i (H i ||| Int32.ofInt 0) k := by
  by_cases h : k = i
  · rw [h, aU_at]
    exact Int32.or_zero.symm
  · rw [aU_ne h]
section FAM
variable {σ S1 S2 S3 S4 S5 S6 S7 : zSg} {b : Nat → Int} {E : Nat} {X1 X2 X3 X4 : Int32}
theorem fam7 {A nf nt : Nat} {H : Nat → Int32} (K : cR σ b A E nf nt H) (hn : nf < 6) (C1 : p_92 1 (zB + 21) σ S1) (C2 : p_96 1 (Int32.ofInt 0) (Int32.ofInt 999) S1 X1 S2) (C3 : p_92 1 (zB + 22) S2 S3) (C4 : p_96 1 (Int32.ofInt 0) (Int32.ofInt 9) S3 X2 S4) (C5 : p_92 1 (zB + 23) S4 S5) (C6 : p_96 1 (Int32.ofInt 0) (Int32.ofInt 9) S5 X3 S6) (C7 : p_12 (q_r (S6.1 21 1)) X1 X2 X3 S6 X4 S7) : cDF σ S7 ∧ (match dP3 b E A with
    | .inl (A3, p, d, s) => X4 = Int32.ofNat nf ∧ cR S7 b A3 E (nf + 1) nt (dFd H nf (Int32.ofNat p) (Int32.ofNat d) (Int32.ofNat s))
    | .inr F => cQ S7 b E F) := by
  obtain ⟨f1, K1⟩ := K.af C1 C2 zwk_21 qsi_21 (by decide)
  rw [show (Int32.ofInt 0).toInt = 0 from rfl, show (Int32.ofInt 999).toInt = 999 from rfl] at K1
  unfold dP3
  cases h1 : dAf b E wPurse 0 999 A with
  | inr F =>
    rw [h1] at K1
    obtain ⟨f2, K2⟩ := K1.af C3 C4 zwk_22 (by decide)
    obtain ⟨f3, K3⟩ := K2.af C5 C6 zwk_23 (by decide)
    rw [K3.k.1] at C7
    obtain ⟨f4, K4⟩ := K3.fd C7
    exact ⟨((f1.tr f2).tr f3).tr f4, K4⟩
  | inl q =>
  obtain ⟨A1, p⟩ := q
  rw [h1] at K1
  obtain ⟨e1, K1⟩ := K1
  dsimp only
  obtain ⟨f2, K2⟩ := K1.af C3 C4 zwk_22 qsi_22 (by decide)
  rw [show (Int32.ofInt 0).toInt = 0 from rfl, show (Int32.ofInt 9).toInt = 9 from rfl] at K2
  cases h2 : dAf b E wDust 0 9 A1 with
  | inr F =>
    rw [h2] at K2
    obtain ⟨f3, K3⟩ := K2.af C5 C6 zwk_23 (by decide)
    rw [K3.k.1] at C7
    obtain ⟨f4, K4⟩ := K3.fd C7
    exact ⟨((f1.tr f2).tr f3).tr f4, K4⟩
  | inl q =>
  obtain ⟨A2, d⟩ := q
  rw [h2] at K2
  obtain ⟨e2, K2⟩ := K2
  dsimp only
  obtain ⟨f3, K3⟩ := K2.af C5 C6 zwk_23 qsi_23 (by decide)
  rw [show (Int32.ofInt 0).toInt = 0 from rfl, show (Int32.ofInt 9).toInt = 9 from rfl] at K3
  cases h3 : dAf b E wStove 0 9 A2 with
  | inr F =>
    rw [h3] at K3
    rw [K3.k.1] at C7
    obtain ⟨f4, K4⟩ := K3.fd C7
    exact ⟨((f1.tr f2).tr f3).tr f4, K4⟩
  | inl q =>
  obtain ⟨A3, s⟩ := q
  rw [h3] at K3
  obtain ⟨e3, K3⟩ := K3
  rw [K3.k.1] at C7
  have hc := K3.2.2.2.2.2
  obtain ⟨g1, -, g2⟩ := C7 21 H nf rfl K3.2.2.2.2.1 hc.1 hc.2.1
  obtain ⟨g3, g4⟩ := g2 hn
  rw [e1, e2, e3] at g4
  exact ⟨((f1.tr f2).tr f3).tr (cDF.of g1), g3, K3.hs g1 g4 (hc.fd hn)⟩
theorem fam7q {F : Nat} (K : cQ σ b E F) (C1 : p_92 1 (zB + 21) σ S1) (C2 : p_96 1 (Int32.ofInt 0) (Int32.ofInt 999) S1 X1 S2) (C3 : p_92 1 (zB + 22) S2 S3) (C4 : p_96 1 (Int32.ofInt 0) (Int32.ofInt 9) S3 X2 S4) (C5 : p_92 1 (zB + 23) S4 S5) (C6 : p_96 1 (Int32.ofInt 0) (Int32.ofInt 9) S5 X3 S6) (C7 : p_12 (q_r (S6.1 21 1)) X1 X2 X3 S6 X4 S7) : cDF σ S7 ∧ cQ S7 b E F := by
  obtain ⟨f1, K1⟩ := K.af C1 C2 zwk_21 (by decide)
  obtain ⟨f2, K2⟩ := K1.af C3 C4 zwk_22 (by decide)
  obtain ⟨f3, K3⟩ := K2.af C5 C6 zwk_23 (by decide)
  rw [K3.k.1] at C7
  obtain ⟨f4, K4⟩ := K3.fd C7
  exact ⟨((f1.tr f2).tr f3).tr f4, K4⟩
end FAM
section OPT
variable {σ S1 S2 S3 : zSg} {b : Nat → Int} {E : Nat} {x y f : Int32}
theorem oh_n {A nf nt w : Nat} {z : List Int} {H : Nat → Int32} (K : cR σ b A E nf nt H) (C1 : p_91 1 w σ x S1) (hw : zwk w) (hz : q_si w = z) (B : x.toInt = 0) : S1 = σ ∧ dOh b E z A = .inl (A, Int32.ofInt 0) := by
  obtain ⟨-, -, v⟩ := K.tk C1 hw hz
  obtain ⟨h1, h2⟩ := v B
  exact ⟨h2, by unfold dOh; rw [h1]; rfl⟩
theorem oh_y {A nf nt w : Nat} {z : List Int} {H : Nat → Int32} (K : cR σ b A E nf nt H) (C1 : p_91 1 w σ x S1) (C2 : p_6 1 S1 y S2) (hw : zwk w) (hz : q_si w = z) (B : x.toInt ≠ 0) : cDF σ S2 ∧ cOB S2 b E nf nt H y (dOh b E z A) := by
  obtain ⟨f1, u, -⟩ := K.tk C1 hw hz
  obtain ⟨A1, h1, K1⟩ := u B
  obtain ⟨f2, K2⟩ := (C2 rfl b E).1 A1 nf nt H K1
  refine ⟨f1.tr f2, ?_⟩
  unfold dOh
  rw [h1]
  exact K2
end OPT
theorem zJ_3 : zJ3 3 z_m3 z_c3 z_h3 := ⟨rfl, rfl, rfl⟩
noncomputable def p_3 (h a : Nat) (σ σ' : zSg) : Prop := h = 21 → a = 1 → ∀ b E, (∀ A nf nt H, cR σ b A E nf nt H → nf < 6 → cDF σ σ' ∧ cOL σ' b E nf nt H (dFam b E A)) ∧ (∀ F, cQ σ b E F → cDF σ σ' ∧ cQ σ' b E F)
theorem sp_3_ett (a0 : Nat) (a1 : Nat) (σ : zSg) (τ1 : zSg) (τ2 : zSg) (r2 : Int32) (τ3 : zSg) (τ4 : zSg) (r4 : Int32) (τ5 : zSg) (τ6 : zSg) (r6 : Int32) (τ7 : zSg) (r7 : Int32) (τ8 : zSg) (r8 : Int32) (τ10 : zSg) (r10 : Int32) (g1 : p_92 a1 (zB + 21) σ τ1) (g2 : p_96 a1 (Int32.ofInt (0)) (Int32.ofInt (999)) τ1 r2 τ2) (g3 : p_92 a1 (zB + 22) τ2 τ3) (g4 : p_96 a1 (Int32.ofInt (0)) (Int32.ofInt (9)) τ3 r4 τ4) (g5 : p_92 a1 (zB + 23) τ4 τ5) (g6 : p_96 a1 (Int32.ofInt (0)) (Int32.ofInt (9)) τ5 r6 τ6) (g7 : p_12 (q_r (τ6.1 a0 1)) r2 r4 r6 τ6 r7 τ7) (g8 : p_91 a1 (zB + 13) τ7 r8 τ8) (h9 : r8.toInt = (0 : Int)) (g10 : p_91 a1 (zB + 15) τ8 r10 τ10) (h11 : r10.toInt = (0 : Int)) :
    p_3 (a0) (a1) σ τ10 := by
  rintro rfl rfl b E
  refine ⟨fun A nf nt H K hn => ?_, fun F K => ?_⟩
  · rw [dFam_3]
    obtain ⟨f1, K1⟩ := fam7 K hn g1 g2 g3 g4 g5 g6 g7
    cases h1 : dP3 b E A with
    | inr F =>
      rw [h1] at K1
      obtain ⟨-, rfl⟩ := K1.tk g8 zwk_13
      obtain ⟨-, rfl⟩ := K1.tk g10 zwk_15
      exact ⟨f1, K1⟩
    | inl q =>
    obtain ⟨A3, p, d, s⟩ := q
    rw [h1] at K1
    obtain ⟨e4, K1⟩ := K1
    subst e4
    dsimp only
    obtain ⟨rfl, h2⟩ := oh_n K1 g8 zwk_13 qsi_13 h9
    rw [h2]
    have K3 := K1.cg (fun k _ => dG_0 (f := Int32.ofNat nf) k)
    have f3 := f1
    dsimp only
    obtain ⟨rfl, h3⟩ := oh_n K3 g10 zwk_15 qsi_15 h11
    rw [h3]
    exact ⟨f3, (K3.cg (fun k _ => wi_0 (i := 43 + 4 * nf) k)).cg (fun k _ => fam_eq hn k)⟩
  · obtain ⟨f1, K1⟩ := fam7q K g1 g2 g3 g4 g5 g6 g7
    obtain ⟨-, rfl⟩ := K1.tk g8 zwk_13
    obtain ⟨-, rfl⟩ := K1.tk g10 zwk_15
    exact ⟨f1, K1⟩
theorem sp_3_etf (a0 : Nat) (a1 : Nat) (σ : zSg) (τ1 : zSg) (τ2 : zSg) (r2 : Int32) (τ3 : zSg) (τ4 : zSg) (r4 : Int32) (τ5 : zSg) (τ6 : zSg) (r6 : Int32) (τ7 : zSg) (r7 : Int32) (τ8 : zSg) (r8 : Int32) (τ10 : zSg) (r10 : Int32) (τ12 : zSg) (r12 : Int32) (τ13 : zSg) (g1 : p_92 a1 (zB + 21) σ τ1) (g2 : p_96 a1 (Int32.ofInt (0)) (Int32.ofInt (999)) τ1 r2 τ2) (g3 : p_92 a1 (zB + 22) τ2 τ3) (g4 : p_96 a1 (Int32.ofInt (0)) (Int32.ofInt (9)) τ3 r4 τ4) (g5 : p_92 a1 (zB + 23) τ4 τ5) (g6 : p_96 a1 (Int32.ofInt (0)) (Int32.ofInt (9)) τ5 r6 τ6) (g7 : p_12 (q_r (τ6.1 a0 1)) r2 r4 r6 τ6 r7 τ7) (g8 : p_91 a1 (zB + 13) τ7 r8 τ8) (h9 : r8.toInt = (0 : Int)) (g10 : p_91 a1 (zB + 15) τ8 r10 τ10) (h11 : r10.toInt ≠ (0 : Int)) (g12 : p_6 a1 τ10 r12 τ12) (g13 : p_13 (q_r (τ10.1 a0 1)) r7 r12 τ12 τ13) :
    p_3 (a0) (a1) σ τ13 := by
  rintro rfl rfl b E
  refine ⟨fun A nf nt H K hn => ?_, fun F K => ?_⟩
  · rw [dFam_3]
    obtain ⟨f1, K1⟩ := fam7 K hn g1 g2 g3 g4 g5 g6 g7
    cases h1 : dP3 b E A with
    | inr F =>
      rw [h1] at K1
      obtain ⟨-, rfl⟩ := K1.tk g8 zwk_13
      exact absurd (K1.tk g10 zwk_15).1 h11
    | inl q =>
    obtain ⟨A3, p, d, s⟩ := q
    rw [h1] at K1
    obtain ⟨e4, K1⟩ := K1
    subst e4
    dsimp only
    obtain ⟨rfl, h2⟩ := oh_n K1 g8 zwk_13 qsi_13 h9
    rw [h2]
    have K3 := K1.cg (fun k _ => dG_0 (f := Int32.ofNat nf) k)
    have f3 := f1
    dsimp only
    have kS9 : q_r (τ10.1 21 1) = 23 := by
      obtain ⟨-, u9, -⟩ := K3.tk g10 zwk_15 qsi_15
      obtain ⟨A9, -, K9⟩ := u9 h11
      exact K9.k.1
    obtain ⟨f4, K4⟩ := oh_y K3 g10 g12 zwk_15 qsi_15 h11
    cases h3 : dOh b E wWishes A3 with
    | inr F =>
      rw [h3] at K4
      rw [kS9] at g13
      obtain ⟨f5, K5⟩ := K4.aw g13
      exact ⟨(f3.tr f4).tr f5, K5⟩
    | inl q =>
    obtain ⟨A5, w⟩ := q
    rw [h3] at K4
    obtain ⟨e6, K4⟩ := K4
    subst e6
    rw [kS9] at g13
    obtain ⟨f5, K5⟩ := K4.aw g13 (by omega)
    exact ⟨(f3.tr f4).tr f5, K5.cg (fun k _ => fam_eq hn k)⟩
  · obtain ⟨f1, K1⟩ := fam7q K g1 g2 g3 g4 g5 g6 g7
    obtain ⟨-, rfl⟩ := K1.tk g8 zwk_13
    exact absurd (K1.tk g10 zwk_15).1 h11
theorem sp_3_eft (a0 : Nat) (a1 : Nat) (σ : zSg) (τ1 : zSg) (τ2 : zSg) (r2 : Int32) (τ3 : zSg) (τ4 : zSg) (r4 : Int32) (τ5 : zSg) (τ6 : zSg) (r6 : Int32) (τ7 : zSg) (r7 : Int32) (τ8 : zSg) (r8 : Int32) (τ14 : zSg) (r14 : Int32) (τ15 : zSg) (τ16 : zSg) (r16 : Int32) (g1 : p_92 a1 (zB + 21) σ τ1) (g2 : p_96 a1 (Int32.ofInt (0)) (Int32.ofInt (999)) τ1 r2 τ2) (g3 : p_92 a1 (zB + 22) τ2 τ3) (g4 : p_96 a1 (Int32.ofInt (0)) (Int32.ofInt (9)) τ3 r4 τ4) (g5 : p_92 a1 (zB + 23) τ4 τ5) (g6 : p_96 a1 (Int32.ofInt (0)) (Int32.ofInt (9)) τ5 r6 τ6) (g7 : p_12 (q_r (τ6.1 a0 1)) r2 r4 r6 τ6 r7 τ7) (g8 : p_91 a1 (zB + 13) τ7 r8 τ8) (h9 : r8.toInt ≠ (0 : Int)) (g14 : p_6 a1 τ8 r14 τ14) (g15 : p_29 a0 r14 r7 τ14 τ15) (g16 : p_91 a1 (zB + 15) τ15 r16 τ16) (h17 : r16.toInt = (0 : Int)) :
    p_3 (a0) (a1) σ τ16 := by
  rintro rfl rfl b E
  refine ⟨fun A nf nt H K hn => ?_, fun F K => ?_⟩
  · rw [dFam_3]
    obtain ⟨f1, K1⟩ := fam7 K hn g1 g2 g3 g4 g5 g6 g7
    cases h1 : dP3 b E A with
    | inr F =>
      rw [h1] at K1
      exact absurd (K1.tk g8 zwk_13).1 h9
    | inl q =>
    obtain ⟨A3, p, d, s⟩ := q
    rw [h1] at K1
    obtain ⟨e4, K1⟩ := K1
    subst e4
    dsimp only
    obtain ⟨f2, K2⟩ := oh_y K1 g8 g14 zwk_13 qsi_13 h9
    cases h2 : dOh b E wHours A3 with
    | inr F =>
      rw [h2] at K2
      obtain ⟨f3, K3⟩ := K2.gh g15
      obtain ⟨-, rfl⟩ := K3.tk g16 zwk_15
      exact ⟨((f1.tr f2).tr f3), K3⟩
    | inl q =>
    obtain ⟨A4, q⟩ := q
    rw [h2] at K2
    obtain ⟨e5, K2⟩ := K2
    subst e5
    obtain ⟨f3, K3⟩ := K2.gh g15
    have f3 := (f1.tr f2).tr f3
    dsimp only
    obtain ⟨rfl, h3⟩ := oh_n K3 g16 zwk_15 qsi_15 h17
    rw [h3]
    exact ⟨f3, (K3.cg (fun k _ => wi_0 (i := 43 + 4 * nf) k)).cg (fun k _ => fam_eq hn k)⟩
  · obtain ⟨f1, K1⟩ := fam7q K g1 g2 g3 g4 g5 g6 g7
    exact absurd (K1.tk g8 zwk_13).1 h9
theorem sp_3_eff (a0 : Nat) (a1 : Nat) (σ : zSg) (τ1 : zSg) (τ2 : zSg) (r2 : Int32) (τ3 : zSg) (τ4 : zSg) (r4 : Int32) (τ5 : zSg) (τ6 : zSg) (r6 : Int32) (τ7 : zSg) (r7 : Int32) (τ8 : zSg) (r8 : Int32) (τ14 : zSg) (r14 : Int32) (τ15 : zSg) (τ16 : zSg) (r16 : Int32) (τ18 : zSg) (r18 : Int32) (τ19 : zSg) (g1 : p_92 a1 (zB + 21) σ τ1) (g2 : p_96 a1 (Int32.ofInt (0)) (Int32.ofInt (999)) τ1 r2 τ2) (g3 : p_92 a1 (zB + 22) τ2 τ3) (g4 : p_96 a1 (Int32.ofInt (0)) (Int32.ofInt (9)) τ3 r4 τ4) (g5 : p_92 a1 (zB + 23) τ4 τ5) (g6 : p_96 a1 (Int32.ofInt (0)) (Int32.ofInt (9)) τ5 r6 τ6) (g7 : p_12 (q_r (τ6.1 a0 1)) r2 r4 r6 τ6 r7 τ7) (g8 : p_91 a1 (zB + 13) τ7 r8 τ8) (h9 : r8.toInt ≠ (0 : Int)) (g14 : p_6 a1 τ8 r14 τ14) (g15 : p_29 a0 r14 r7 τ14 τ15) (g16 : p_91 a1 (zB + 15) τ15 r16 τ16) (h17 : r16.toInt ≠ (0 : Int)) (g18 : p_6 a1 τ16 r18 τ18) (g19 : p_13 (q_r (τ16.1 a0 1)) r7 r18 τ18 τ19) :
    p_3 (a0) (a1) σ τ19 := by
  rintro rfl rfl b E
  refine ⟨fun A nf nt H K hn => ?_, fun F K => ?_⟩
  · rw [dFam_3]
    obtain ⟨f1, K1⟩ := fam7 K hn g1 g2 g3 g4 g5 g6 g7
    cases h1 : dP3 b E A with
    | inr F =>
      rw [h1] at K1
      exact absurd (K1.tk g8 zwk_13).1 h9
    | inl q =>
    obtain ⟨A3, p, d, s⟩ := q
    rw [h1] at K1
    obtain ⟨e4, K1⟩ := K1
    subst e4
    dsimp only
    obtain ⟨f2, K2⟩ := oh_y K1 g8 g14 zwk_13 qsi_13 h9
    cases h2 : dOh b E wHours A3 with
    | inr F =>
      rw [h2] at K2
      obtain ⟨f3, K3⟩ := K2.gh g15
      exact absurd (K3.tk g16 zwk_15).1 h17
    | inl q =>
    obtain ⟨A4, q⟩ := q
    rw [h2] at K2
    obtain ⟨e5, K2⟩ := K2
    subst e5
    obtain ⟨f3, K3⟩ := K2.gh g15
    have f3 := (f1.tr f2).tr f3
    dsimp only
    have kS9 : q_r (τ16.1 21 1) = 23 := by
      obtain ⟨-, u9, -⟩ := K3.tk g16 zwk_15 qsi_15
      obtain ⟨A9, -, K9⟩ := u9 h17
      exact K9.k.1
    obtain ⟨f4, K4⟩ := oh_y K3 g16 g18 zwk_15 qsi_15 h17
    cases h3 : dOh b E wWishes A4 with
    | inr F =>
      rw [h3] at K4
      rw [kS9] at g19
      obtain ⟨f5, K5⟩ := K4.aw g19
      exact ⟨(f3.tr f4).tr f5, K5⟩
    | inl q =>
    obtain ⟨A5, w⟩ := q
    rw [h3] at K4
    obtain ⟨e6, K4⟩ := K4
    subst e6
    rw [kS9] at g19
    obtain ⟨f5, K5⟩ := K4.aw g19 (by omega)
    exact ⟨(f3.tr f4).tr f5, K5.cg (fun k _ => fam_eq hn k)⟩
  · obtain ⟨f1, K1⟩ := fam7q K g1 g2 g3 g4 g5 g6 g7
    exact absurd (K1.tk g8 zwk_13).1 h9
noncomputable def qP_3 : zPp := fun as σ o σ' => match as with
  | [a0, a1] => o = .inl none ∧ p_3 (q_r a0) (q_r a1) σ σ'
  | _ => True
set_option maxRecDepth 100000 in
theorem sp_3 {sx : zX} (S92 : zEe sx 92 2 qP_92) (S96 : zEe sx 96 3 qP_96) (S12 : zEe sx 12 4 qP_12) (S91 : zEe sx 91 2 qP_91) (S6 : zEe sx 6 1 qP_6) (S13 : zEe sx 13 3 qP_13) (S29 : zEe sx 29 3 qP_29) : zEe sx 3 2 qP_3 := by
  refine zfle zJ_3 (sps := [(92, 2, qP_92), (96, 3, qP_96), (12, 4, qP_12), (91, 2, qP_91), (6, 1, qP_6), (13, 3, qP_13), (29, 3, qP_29)]) (fun q hq => by
    simp only [List.mem_cons, List.not_mem_nil, or_false] at hq
    rcases hq with rfl | rfl | rfl | rfl | rfl | rfl | rfl
    · exact S92
    · exact S96
    · exact S12
    · exact S91
    · exact S6
    · exact S13
    · exact S29) (fun as σ hl => ?_)
  match as, hl with
  | [a0, a1], _ =>
  refine ⟨[], 400, ?_, ?_⟩
  · exact fun q hq => absurd hq List.not_mem_nil
  · refine fun o1 τ1 g1 => ?_
    obtain ⟨rfl, g1⟩ := g1
    refine fun o2 τ2 g2 => ?_
    obtain ⟨r2, rfl, g2⟩ := g2
    refine fun o3 τ3 g3 => ?_
    obtain ⟨rfl, g3⟩ := g3
    refine fun o4 τ4 g4 => ?_
    obtain ⟨r4, rfl, g4⟩ := g4
    refine fun o5 τ5 g5 => ?_
    obtain ⟨rfl, g5⟩ := g5
    refine fun o6 τ6 g6 => ?_
    obtain ⟨r6, rfl, g6⟩ := g6
    refine fun o7 τ7 g7 => ?_
    obtain ⟨r7, rfl, g7⟩ := g7
    refine fun o8 τ8 g8 => ?_
    obtain ⟨r8, rfl, g8⟩ := g8
    refine And.intro (fun h9 => ?_) (fun h9 => ?_)
    · refine fun o10 τ10 g10 => ?_
      obtain ⟨r10, rfl, g10⟩ := g10
      refine And.intro (fun h11 => ?_) (fun h11 => ?_)
      · exact ⟨rfl, sp_3_ett (q_r a0) (q_r a1) σ τ1 τ2 r2 τ3 τ4 r4 τ5 τ6 r6 τ7 r7 τ8 r8 τ10 r10 g1 g2 g3 g4 g5 g6 g7 g8 (cm0t h9) g10 (cm0t h11)⟩
      · refine fun o12 τ12 g12 => ?_
        obtain ⟨r12, rfl, g12⟩ := g12
        refine fun o13 τ13 g13 => ?_
        obtain ⟨rfl, g13⟩ := g13
        exact ⟨rfl, sp_3_etf (q_r a0) (q_r a1) σ τ1 τ2 r2 τ3 τ4 r4 τ5 τ6 r6 τ7 r7 τ8 r8 τ10 r10 τ12 r12 τ13 g1 g2 g3 g4 g5 g6 g7 g8 (cm0t h9) g10 (cm0f h11) g12 g13⟩
    · refine fun o14 τ14 g14 => ?_
      obtain ⟨r14, rfl, g14⟩ := g14
      refine fun o15 τ15 g15 => ?_
      obtain ⟨rfl, g15⟩ := g15
      refine fun o16 τ16 g16 => ?_
      obtain ⟨r16, rfl, g16⟩ := g16
      refine And.intro (fun h17 => ?_) (fun h17 => ?_)
      · exact ⟨rfl, sp_3_eft (q_r a0) (q_r a1) σ τ1 τ2 r2 τ3 τ4 r4 τ5 τ6 r6 τ7 r7 τ8 r8 τ14 r14 τ15 τ16 r16 g1 g2 g3 g4 g5 g6 g7 g8 (cm0f h9) g14 g15 g16 (cm0t h17)⟩
      · refine fun o18 τ18 g18 => ?_
        obtain ⟨r18, rfl, g18⟩ := g18
        refine fun o19 τ19 g19 => ?_
        obtain ⟨rfl, g19⟩ := g19
        exact ⟨rfl, sp_3_eff (q_r a0) (q_r a1) σ τ1 τ2 r2 τ3 τ4 r4 τ5 τ6 r6 τ7 r7 τ8 r8 τ14 r14 τ15 τ16 r16 τ18 r18 τ19 g1 g2 g3 g4 g5 g6 g7 g8 (cm0f h9) g14 g15 g16 (cm0f h17) g18 g19⟩
end
section
/-! the class's texts of a deed, exact; printed with wip/gen/gen_d6.py -/
theorem cR.w {σ : zSg} {b : Nat → Int} {A E nf nt k : Nat} {H : Nat → Int32} {v : Int32} (K : cR σ b A E nf nt H) (h1 : 4 ≤ k) (h2 : k ≤ 13) : cDF σ (q_w σ 21 (k + 3) (.int v)) ∧ cR (q_w σ 21 (k + 3) (.int v)) b A E nf nt (aU H k v) := ⟨cDF.of (hHF.w (hp_s h1 h2)), K.hs (hHF.w (hp_s h1 h2)) (K.2.2.2.2.1.ww (hp_s h1 h2)) (K.2.2.2.2.2.st ⟨h1, h2⟩)⟩
theorem cQ.w {σ : zSg} {b : Nat → Int} {E F k : Nat} {v : Int32} (K : cQ σ b E F) (h1 : 4 ≤ k) (h2 : k ≤ 13) : cDF σ (q_w σ 21 (k + 3) (.int v)) ∧ cQ (q_w σ 21 (k + 3) (.int v)) b E F := ⟨cDF.of (hHF.w (hp_s h1 h2)), K.hs (hHF.w (hp_s h1 h2)) (fun H nf nt h6 h7 => ⟨_, nf, nt, h6.ww (hp_s h1 h2), h7.st ⟨h1, h2⟩⟩)⟩
theorem zJ_2 : zJ3 2 z_m2 z_c2 z_h2 := ⟨rfl, rfl, rfl⟩
noncomputable def p_2 (h a : Nat) (σ σ' : zSg) : Prop := h = 21 → a = 1 → ∀ b E, (∀ A nf nt H, cR σ b A E nf nt H → cDF σ σ' ∧ ((∃ i s A1, 5 ≤ i ∧ i ≤ 9 ∧ dWs[i]? = some s ∧ tw b E s A = some A1 ∧ cOL σ' b E nf nt H (dLk b E nf nt A A1 i)) ∨ ((∀ s ∈ [wCold, wFine, wPrice, wGuests, wHour], tw b E s A = none) ∧ cQ σ' b E A))) ∧ (∀ F, cQ σ b E F → cDF σ σ' ∧ cQ σ' b E F)
theorem sp_2_ettttt (a0 : Nat) (a1 : Nat) (σ : zSg) (τ1 : zSg) (r1 : Int32) (τ3 : zSg) (r3 : Int32) (τ5 : zSg) (r5 : Int32) (τ7 : zSg) (r7 : Int32) (τ9 : zSg) (r9 : Int32) (τ11 : zSg) (g1 : p_91 a1 (zB + 16) σ r1 τ1) (h2 : r1.toInt = (0 : Int)) (g3 : p_91 a1 (zB + 17) τ1 r3 τ3) (h4 : r3.toInt = (0 : Int)) (g5 : p_91 a1 (zB + 18) τ3 r5 τ5) (h6 : r5.toInt = (0 : Int)) (g7 : p_91 a1 (zB + 19) τ5 r7 τ7) (h8 : r7.toInt = (0 : Int)) (g9 : p_91 a1 (zB + 20) τ7 r9 τ9) (h10 : r9.toInt = (0 : Int)) (g11 : p_90 a1 τ9 τ11) :
    p_2 (a0) (a1) σ τ11 := by
  rintro rfl rfl b E
  refine ⟨fun A nf nt H K => ?_, fun F K => ?_⟩
  · obtain ⟨-, -, v0⟩ := K.tk g1 zwk_16 qsi_16
    obtain ⟨e0, rfl⟩ := v0 h2
    obtain ⟨-, -, v1⟩ := K.tk g3 zwk_17 qsi_17
    obtain ⟨e1, rfl⟩ := v1 h4
    obtain ⟨-, -, v2⟩ := K.tk g5 zwk_18 qsi_18
    obtain ⟨e2, rfl⟩ := v2 h6
    obtain ⟨-, -, v3⟩ := K.tk g7 zwk_19 qsi_19
    obtain ⟨e3, rfl⟩ := v3 h8
    obtain ⟨-, -, v4⟩ := K.tk g9 zwk_20 qsi_20
    obtain ⟨e4, rfl⟩ := v4 h10
    obtain ⟨f1, K1⟩ := K.rf g11
    refine ⟨f1, Or.inr ⟨fun s hs => ?_, K1⟩⟩
    simp only [List.mem_cons, List.not_mem_nil, or_false] at hs
    rcases hs with rfl | rfl | rfl | rfl | rfl
    · exact e0
    · exact e1
    · exact e2
    · exact e3
    · exact e4
  · obtain ⟨-, rfl⟩ := K.tk g1 zwk_16
    obtain ⟨-, rfl⟩ := K.tk g3 zwk_17
    obtain ⟨-, rfl⟩ := K.tk g5 zwk_18
    obtain ⟨-, rfl⟩ := K.tk g7 zwk_19
    obtain ⟨-, rfl⟩ := K.tk g9 zwk_20
    obtain rfl := K.rf g11
    exact ⟨cDF.rf, K⟩
theorem sp_2_ettttf (a0 : Nat) (a1 : Nat) (σ : zSg) (τ1 : zSg) (r1 : Int32) (τ3 : zSg) (r3 : Int32) (τ5 : zSg) (r5 : Int32) (τ7 : zSg) (r7 : Int32) (τ9 : zSg) (r9 : Int32) (τ12 : zSg) (r12 : Int32) (g1 : p_91 a1 (zB + 16) σ r1 τ1) (h2 : r1.toInt = (0 : Int)) (g3 : p_91 a1 (zB + 17) τ1 r3 τ3) (h4 : r3.toInt = (0 : Int)) (g5 : p_91 a1 (zB + 18) τ3 r5 τ5) (h6 : r5.toInt = (0 : Int)) (g7 : p_91 a1 (zB + 19) τ5 r7 τ7) (h8 : r7.toInt = (0 : Int)) (g9 : p_91 a1 (zB + 20) τ7 r9 τ9) (h10 : r9.toInt ≠ (0 : Int)) (g12 : p_96 a1 (Int32.ofInt (0)) (Int32.ofInt (23)) τ9 r12 τ12) :
    p_2 (a0) (a1) σ (q_w τ12 a0 7 (.int r12)) := by
  rintro rfl rfl b E
  refine ⟨fun A nf nt H K => ?_, fun F K => ?_⟩
  · obtain ⟨-, -, v0⟩ := K.tk g1 zwk_16 qsi_16
    obtain ⟨e0, rfl⟩ := v0 h2
    obtain ⟨-, -, v1⟩ := K.tk g3 zwk_17 qsi_17
    obtain ⟨e1, rfl⟩ := v1 h4
    obtain ⟨-, -, v2⟩ := K.tk g5 zwk_18 qsi_18
    obtain ⟨e2, rfl⟩ := v2 h6
    obtain ⟨-, -, v3⟩ := K.tk g7 zwk_19 qsi_19
    obtain ⟨e3, rfl⟩ := v3 h8
    obtain ⟨f1, u, -⟩ := K.tk g9 zwk_20 qsi_20
    obtain ⟨A1, e4, K1⟩ := u h10
    obtain ⟨f2, u2, v2⟩ := K1.nb g12 (by decide)
    rw [show (Int32.ofInt 0).toInt = 0 from rfl, show (Int32.ofInt 23).toInt = 23 from rfl] at u2 v2
    cases h2 : tn b E 0 23 A1 with
    | none =>
      obtain ⟨f3, K3⟩ := (v2 h2).w (k := 4) (v := r12) (by omega) (by omega)
      exact ⟨(f1.tr f2).tr f3, Or.inl ⟨9, wHour, A1, by omega, by omega, rfl, e4, by rw [dLk_9]; unfold dSt; rw [h2]; exact K3⟩⟩
    | some q =>
      obtain ⟨A2, v⟩ := q
      obtain ⟨ev, K2⟩ := u2 A2 v h2
      obtain ⟨f3, K3⟩ := K2.w (k := 4) (v := r12) (by omega) (by omega)
      rw [ev] at K3 f3 ⊢
      exact ⟨(f1.tr f2).tr f3, Or.inl ⟨9, wHour, A1, by omega, by omega, rfl, e4, by rw [dLk_9]; unfold dSt; rw [h2]; exact K3⟩⟩
  · obtain ⟨-, rfl⟩ := K.tk g1 zwk_16
    obtain ⟨-, rfl⟩ := K.tk g3 zwk_17
    obtain ⟨-, rfl⟩ := K.tk g5 zwk_18
    obtain ⟨-, rfl⟩ := K.tk g7 zwk_19
    exact absurd (K.tk g9 zwk_20).1 h10
theorem sp_2_etttf (a0 : Nat) (a1 : Nat) (σ : zSg) (τ1 : zSg) (r1 : Int32) (τ3 : zSg) (r3 : Int32) (τ5 : zSg) (r5 : Int32) (τ7 : zSg) (r7 : Int32) (τ13 : zSg) (r13 : Int32) (g1 : p_91 a1 (zB + 16) σ r1 τ1) (h2 : r1.toInt = (0 : Int)) (g3 : p_91 a1 (zB + 17) τ1 r3 τ3) (h4 : r3.toInt = (0 : Int)) (g5 : p_91 a1 (zB + 18) τ3 r5 τ5) (h6 : r5.toInt = (0 : Int)) (g7 : p_91 a1 (zB + 19) τ5 r7 τ7) (h8 : r7.toInt ≠ (0 : Int)) (g13 : p_96 a1 (Int32.ofInt (0)) (Int32.ofInt (100)) τ7 r13 τ13) :
    p_2 (a0) (a1) σ (q_w τ13 a0 16 (.int r13)) := by
  rintro rfl rfl b E
  refine ⟨fun A nf nt H K => ?_, fun F K => ?_⟩
  · obtain ⟨-, -, v0⟩ := K.tk g1 zwk_16 qsi_16
    obtain ⟨e0, rfl⟩ := v0 h2
    obtain ⟨-, -, v1⟩ := K.tk g3 zwk_17 qsi_17
    obtain ⟨e1, rfl⟩ := v1 h4
    obtain ⟨-, -, v2⟩ := K.tk g5 zwk_18 qsi_18
    obtain ⟨e2, rfl⟩ := v2 h6
    obtain ⟨f1, u, -⟩ := K.tk g7 zwk_19 qsi_19
    obtain ⟨A1, e3, K1⟩ := u h8
    obtain ⟨f2, u2, v2⟩ := K1.nb g13 (by decide)
    rw [show (Int32.ofInt 0).toInt = 0 from rfl, show (Int32.ofInt 100).toInt = 100 from rfl] at u2 v2
    cases h2 : tn b E 0 100 A1 with
    | none =>
      obtain ⟨f3, K3⟩ := (v2 h2).w (k := 13) (v := r13) (by omega) (by omega)
      exact ⟨(f1.tr f2).tr f3, Or.inl ⟨8, wGuests, A1, by omega, by omega, rfl, e3, by rw [dLk_8]; unfold dSt; rw [h2]; exact K3⟩⟩
    | some q =>
      obtain ⟨A2, v⟩ := q
      obtain ⟨ev, K2⟩ := u2 A2 v h2
      obtain ⟨f3, K3⟩ := K2.w (k := 13) (v := r13) (by omega) (by omega)
      rw [ev] at K3 f3 ⊢
      exact ⟨(f1.tr f2).tr f3, Or.inl ⟨8, wGuests, A1, by omega, by omega, rfl, e3, by rw [dLk_8]; unfold dSt; rw [h2]; exact K3⟩⟩
  · obtain ⟨-, rfl⟩ := K.tk g1 zwk_16
    obtain ⟨-, rfl⟩ := K.tk g3 zwk_17
    obtain ⟨-, rfl⟩ := K.tk g5 zwk_18
    exact absurd (K.tk g7 zwk_19).1 h8
theorem sp_2_ettf (a0 : Nat) (a1 : Nat) (σ : zSg) (τ1 : zSg) (r1 : Int32) (τ3 : zSg) (r3 : Int32) (τ5 : zSg) (r5 : Int32) (τ14 : zSg) (r14 : Int32) (g1 : p_91 a1 (zB + 16) σ r1 τ1) (h2 : r1.toInt = (0 : Int)) (g3 : p_91 a1 (zB + 17) τ1 r3 τ3) (h4 : r3.toInt = (0 : Int)) (g5 : p_91 a1 (zB + 18) τ3 r5 τ5) (h6 : r5.toInt ≠ (0 : Int)) (g14 : p_96 a1 (Int32.ofInt (0)) (Int32.ofInt (99)) τ5 r14 τ14) :
    p_2 (a0) (a1) σ (q_w τ14 a0 15 (.int r14)) := by
  rintro rfl rfl b E
  refine ⟨fun A nf nt H K => ?_, fun F K => ?_⟩
  · obtain ⟨-, -, v0⟩ := K.tk g1 zwk_16 qsi_16
    obtain ⟨e0, rfl⟩ := v0 h2
    obtain ⟨-, -, v1⟩ := K.tk g3 zwk_17 qsi_17
    obtain ⟨e1, rfl⟩ := v1 h4
    obtain ⟨f1, u, -⟩ := K.tk g5 zwk_18 qsi_18
    obtain ⟨A1, e2, K1⟩ := u h6
    obtain ⟨f2, u2, v2⟩ := K1.nb g14 (by decide)
    rw [show (Int32.ofInt 0).toInt = 0 from rfl, show (Int32.ofInt 99).toInt = 99 from rfl] at u2 v2
    cases h2 : tn b E 0 99 A1 with
    | none =>
      obtain ⟨f3, K3⟩ := (v2 h2).w (k := 12) (v := r14) (by omega) (by omega)
      exact ⟨(f1.tr f2).tr f3, Or.inl ⟨7, wPrice, A1, by omega, by omega, rfl, e2, by rw [dLk_7]; unfold dSt; rw [h2]; exact K3⟩⟩
    | some q =>
      obtain ⟨A2, v⟩ := q
      obtain ⟨ev, K2⟩ := u2 A2 v h2
      obtain ⟨f3, K3⟩ := K2.w (k := 12) (v := r14) (by omega) (by omega)
      rw [ev] at K3 f3 ⊢
      exact ⟨(f1.tr f2).tr f3, Or.inl ⟨7, wPrice, A1, by omega, by omega, rfl, e2, by rw [dLk_7]; unfold dSt; rw [h2]; exact K3⟩⟩
  · obtain ⟨-, rfl⟩ := K.tk g1 zwk_16
    obtain ⟨-, rfl⟩ := K.tk g3 zwk_17
    exact absurd (K.tk g5 zwk_18).1 h6
theorem sp_2_etf (a0 : Nat) (a1 : Nat) (σ : zSg) (τ1 : zSg) (r1 : Int32) (τ3 : zSg) (r3 : Int32) (τ15 : zSg) (r15 : Int32) (g1 : p_91 a1 (zB + 16) σ r1 τ1) (h2 : r1.toInt = (0 : Int)) (g3 : p_91 a1 (zB + 17) τ1 r3 τ3) (h4 : r3.toInt ≠ (0 : Int)) (g15 : p_96 a1 (Int32.ofInt (0)) (Int32.ofInt (20)) τ3 r15 τ15) :
    p_2 (a0) (a1) σ (q_w τ15 a0 14 (.int r15)) := by
  rintro rfl rfl b E
  refine ⟨fun A nf nt H K => ?_, fun F K => ?_⟩
  · obtain ⟨-, -, v0⟩ := K.tk g1 zwk_16 qsi_16
    obtain ⟨e0, rfl⟩ := v0 h2
    obtain ⟨f1, u, -⟩ := K.tk g3 zwk_17 qsi_17
    obtain ⟨A1, e1, K1⟩ := u h4
    obtain ⟨f2, u2, v2⟩ := K1.nb g15 (by decide)
    rw [show (Int32.ofInt 0).toInt = 0 from rfl, show (Int32.ofInt 20).toInt = 20 from rfl] at u2 v2
    cases h2 : tn b E 0 20 A1 with
    | none =>
      obtain ⟨f3, K3⟩ := (v2 h2).w (k := 11) (v := r15) (by omega) (by omega)
      exact ⟨(f1.tr f2).tr f3, Or.inl ⟨6, wFine, A1, by omega, by omega, rfl, e1, by rw [dLk_6]; unfold dSt; rw [h2]; exact K3⟩⟩
    | some q =>
      obtain ⟨A2, v⟩ := q
      obtain ⟨ev, K2⟩ := u2 A2 v h2
      obtain ⟨f3, K3⟩ := K2.w (k := 11) (v := r15) (by omega) (by omega)
      rw [ev] at K3 f3 ⊢
      exact ⟨(f1.tr f2).tr f3, Or.inl ⟨6, wFine, A1, by omega, by omega, rfl, e1, by rw [dLk_6]; unfold dSt; rw [h2]; exact K3⟩⟩
  · obtain ⟨-, rfl⟩ := K.tk g1 zwk_16
    exact absurd (K.tk g3 zwk_17).1 h4
theorem sp_2_ef (a0 : Nat) (a1 : Nat) (σ : zSg) (τ1 : zSg) (r1 : Int32) (τ16 : zSg) (r16 : Int32) (g1 : p_91 a1 (zB + 16) σ r1 τ1) (h2 : r1.toInt ≠ (0 : Int)) (g16 : p_96 a1 (Int32.ofInt (0)) (Int32.ofInt (9)) τ1 r16 τ16) :
    p_2 (a0) (a1) σ (q_w τ16 a0 13 (.int r16)) := by
  rintro rfl rfl b E
  refine ⟨fun A nf nt H K => ?_, fun F K => ?_⟩
  · obtain ⟨f1, u, -⟩ := K.tk g1 zwk_16 qsi_16
    obtain ⟨A1, e0, K1⟩ := u h2
    obtain ⟨f2, u2, v2⟩ := K1.nb g16 (by decide)
    rw [show (Int32.ofInt 0).toInt = 0 from rfl, show (Int32.ofInt 9).toInt = 9 from rfl] at u2 v2
    cases h2 : tn b E 0 9 A1 with
    | none =>
      obtain ⟨f3, K3⟩ := (v2 h2).w (k := 10) (v := r16) (by omega) (by omega)
      exact ⟨(f1.tr f2).tr f3, Or.inl ⟨5, wCold, A1, by omega, by omega, rfl, e0, by rw [dLk_5]; unfold dSt; rw [h2]; exact K3⟩⟩
    | some q =>
      obtain ⟨A2, v⟩ := q
      obtain ⟨ev, K2⟩ := u2 A2 v h2
      obtain ⟨f3, K3⟩ := K2.w (k := 10) (v := r16) (by omega) (by omega)
      rw [ev] at K3 f3 ⊢
      exact ⟨(f1.tr f2).tr f3, Or.inl ⟨5, wCold, A1, by omega, by omega, rfl, e0, by rw [dLk_5]; unfold dSt; rw [h2]; exact K3⟩⟩
  · exact absurd (K.tk g1 zwk_16).1 h2
noncomputable def qP_2 : zPp := fun as σ o σ' => match as with
  | [a0, a1] => o = .inl none ∧ p_2 (q_r a0) (q_r a1) σ σ'
  | _ => True
set_option maxRecDepth 100000 in
theorem sp_2 {sx : zX} (S91 : zEe sx 91 2 qP_91) (S90 : zEe sx 90 1 qP_90) (S96 : zEe sx 96 3 qP_96) : zEe sx 2 2 qP_2 := by
  refine zfle zJ_2 (sps := [(91, 2, qP_91), (90, 1, qP_90), (96, 3, qP_96)]) (fun q hq => by
    simp only [List.mem_cons, List.not_mem_nil, or_false] at hq
    rcases hq with rfl | rfl | rfl
    · exact S91
    · exact S90
    · exact S96) (fun as σ hl => ?_)
  match as, hl with
  | [a0, a1], _ =>
  refine ⟨[], 400, ?_, ?_⟩
  · exact fun q hq => absurd hq List.not_mem_nil
  · refine fun o1 τ1 g1 => ?_
    obtain ⟨r1, rfl, g1⟩ := g1
    refine And.intro (fun h2 => ?_) (fun h2 => ?_)
    · refine fun o3 τ3 g3 => ?_
      obtain ⟨r3, rfl, g3⟩ := g3
      refine And.intro (fun h4 => ?_) (fun h4 => ?_)
      · refine fun o5 τ5 g5 => ?_
        obtain ⟨r5, rfl, g5⟩ := g5
        refine And.intro (fun h6 => ?_) (fun h6 => ?_)
        · refine fun o7 τ7 g7 => ?_
          obtain ⟨r7, rfl, g7⟩ := g7
          refine And.intro (fun h8 => ?_) (fun h8 => ?_)
          · refine fun o9 τ9 g9 => ?_
            obtain ⟨r9, rfl, g9⟩ := g9
            refine And.intro (fun h10 => ?_) (fun h10 => ?_)
            · refine fun o11 τ11 g11 => ?_
              obtain ⟨rfl, g11⟩ := g11
              exact ⟨rfl, sp_2_ettttt (q_r a0) (q_r a1) σ τ1 r1 τ3 r3 τ5 r5 τ7 r7 τ9 r9 τ11 g1 (cm0t h2) g3 (cm0t h4) g5 (cm0t h6) g7 (cm0t h8) g9 (cm0t h10) g11⟩
            · refine fun o12 τ12 g12 => ?_
              obtain ⟨r12, rfl, g12⟩ := g12
              exact ⟨rfl, sp_2_ettttf (q_r a0) (q_r a1) σ τ1 r1 τ3 r3 τ5 r5 τ7 r7 τ9 r9 τ12 r12 g1 (cm0t h2) g3 (cm0t h4) g5 (cm0t h6) g7 (cm0t h8) g9 (cm0f h10) g12⟩
          · refine fun o13 τ13 g13 => ?_
            obtain ⟨r13, rfl, g13⟩ := g13
            exact ⟨rfl, sp_2_etttf (q_r a0) (q_r a1) σ τ1 r1 τ3 r3 τ5 r5 τ7 r7 τ13 r13 g1 (cm0t h2) g3 (cm0t h4) g5 (cm0t h6) g7 (cm0f h8) g13⟩
        · refine fun o14 τ14 g14 => ?_
          obtain ⟨r14, rfl, g14⟩ := g14
          exact ⟨rfl, sp_2_ettf (q_r a0) (q_r a1) σ τ1 r1 τ3 r3 τ5 r5 τ14 r14 g1 (cm0t h2) g3 (cm0t h4) g5 (cm0f h6) g14⟩
      · refine fun o15 τ15 g15 => ?_
        obtain ⟨r15, rfl, g15⟩ := g15
        exact ⟨rfl, sp_2_etf (q_r a0) (q_r a1) σ τ1 r1 τ3 r3 τ15 r15 g1 (cm0t h2) g3 (cm0f h4) g15⟩
    · refine fun o16 τ16 g16 => ?_
      obtain ⟨r16, rfl, g16⟩ := g16
      exact ⟨rfl, sp_2_ef (q_r a0) (q_r a1) σ τ1 r1 τ16 r16 g1 (cm0f h2) g16⟩
theorem dWs_n : ∀ i, i ≤ 9 → ∀ s, dWs[i]? = some s → ∀ k, k < i → dWs[k]? ≠ some s := by decide
theorem hr_f {σ τ : zSg} {b : Nat → Int} {A E nf nt : Nat} {H : Nat → Int32} {x : Int32} (K : cR σ b A E nf nt H) (G : p_10 (q_r (σ.1 21 1)) σ x τ) : τ = σ ∧ (x.toInt ≠ 0 → nf < 6) ∧ (x.toInt = 0 → nf = 6) := by
  obtain ⟨g1, g2⟩ := G
  have p0 : q_i (σ.1 23 4) = H 0 := K.2.2.2.2.1.p hp_0
  have hc := K.2.2.2.2.2
  have h6 := hc.2.1
  rw [K.k.1, p0, hc.1, o32 (by omega)] at g2
  exact ⟨g1, fun h => by have := g2.mp h; omega, fun h => by
    rcases Nat.lt_or_ge nf 6 with q | q
    · exact absurd h (g2.mpr (by omega))
    · omega⟩
theorem hr_t {σ τ : zSg} {b : Nat → Int} {A E nf nt : Nat} {H : Nat → Int32} {x : Int32} (K : cR σ b A E nf nt H) (G : p_103 (q_r (σ.1 21 2)) σ x τ) : τ = σ ∧ (x.toInt ≠ 0 → nt < 8) ∧ (x.toInt = 0 → nt = 8) := by
  obtain ⟨g1, g2⟩ := G
  have p0 : q_i (σ.1 28 3) = H 1 := K.2.2.2.2.1.p hp_1
  have hc := K.2.2.2.2.2
  have h8 := hc.2.2.2.1
  rw [K.k.2, p0, hc.2.2.1, o32 (by omega)] at g2
  exact ⟨g1, fun h => by have := g2.mp h; omega, fun h => by
    rcases Nat.lt_or_ge nt 8 with q | q
    · exact absurd h (g2.mpr (by omega))
    · omega⟩
theorem zJ_1 : zJ3 1 z_m1 z_c1 z_h1 := ⟨rfl, rfl, rfl⟩
noncomputable def p_1 (h a : Nat) (σ σ' : zSg) : Prop := h = 21 → a = 1 → ∀ b E, (∀ A nf nt H, cR σ b A E nf nt H → cDF σ σ' ∧ cOL σ' b E nf nt H (dLine b E nf nt A)) ∧ (∀ F, cQ σ b E F → cDF σ σ' ∧ cQ σ' b E F)
theorem sp_1_ettttt (a0 : Nat) (a1 : Nat) (σ : zSg) (τ1 : zSg) (r1 : Int32) (τ3 : zSg) (r3 : Int32) (τ5 : zSg) (r5 : Int32) (τ7 : zSg) (r7 : Int32) (τ9 : zSg) (r9 : Int32) (τ11 : zSg) (g1 : p_10 (q_r (σ.1 a0 1)) σ r1 τ1) (h2 : r1.toInt = (0 : Int)) (g3 : p_103 (q_r (τ1.1 a0 2)) τ1 r3 τ3) (h4 : r3.toInt = (0 : Int)) (g5 : p_91 a1 (zB + 13) τ3 r5 τ5) (h6 : r5.toInt = (0 : Int)) (g7 : p_91 a1 (zB + 14) τ5 r7 τ7) (h8 : r7.toInt = (0 : Int)) (g9 : p_91 a1 (zB + 15) τ7 r9 τ9) (h10 : r9.toInt = (0 : Int)) (g11 : p_2 a0 a1 τ9 τ11) :
    p_1 (a0) (a1) σ τ11 := by
  rintro rfl rfl b E
  refine ⟨fun A nf nt H K => ?_, fun F K => ?_⟩
  · obtain ⟨rfl, r1, r2⟩ := hr_f K g1
    have n6 := r2 h2
    obtain ⟨rfl, r3, r4⟩ := hr_t K g3
    have n8 := r4 h4
    obtain ⟨-, -, v⟩ := K.tk g5 zwk_13 qsi_13
    obtain ⟨e1, rfl⟩ := v h6
    obtain ⟨-, -, v⟩ := K.tk g7 zwk_14 qsi_14
    obtain ⟨e2, rfl⟩ := v h8
    obtain ⟨-, -, v⟩ := K.tk g9 zwk_15 qsi_15
    obtain ⟨e4, rfl⟩ := v h10
    obtain ⟨f1, ⟨i, s, A1, i1, i2, i3, e, K1⟩ | ⟨hno, K1⟩⟩ := (g11 rfl rfl b E).1 A nf nt H K
    · rw [dLine_at i e i3 (dWs_n i i2 s i3)]
      exact ⟨f1, K1⟩
    · have hd : dLine b E nf nt A = .inr A := by
        cases q0 : tw b E wFamily A with
        | some A1 =>
          have hl : dLine b E nf nt A = dLk b E nf nt A A1 0 := dLine_at 0 q0 rfl (dWs_n 0 (by omega) _ rfl)
          rw [hl, dLk_0, if_pos n6]
        | none =>
        cases q3 : tw b E wThing A with
        | some A1 =>
          have hl : dLine b E nf nt A = dLk b E nf nt A A1 3 := dLine_at 3 q3 rfl (dWs_n 3 (by omega) _ rfl)
          rw [hl, dLk_3, if_pos n8]
        | none =>
        refine dLine_no (fun s hs => ?_)
        simp only [dWs, List.mem_cons, List.not_mem_nil, or_false] at hs
        rcases hs with rfl | rfl | rfl | rfl | rfl | rfl | rfl | rfl | rfl | rfl
        · exact q0
        · exact e1
        · exact e2
        · exact q3
        · exact e4
        · exact hno wCold (by simp only [List.mem_cons, true_or, or_true])
        · exact hno wFine (by simp only [List.mem_cons, true_or, or_true])
        · exact hno wPrice (by simp only [List.mem_cons, true_or, or_true])
        · exact hno wGuests (by simp only [List.mem_cons, true_or, or_true])
        · exact hno wHour (by simp only [List.mem_cons, true_or, or_true])
      rw [hd]
      exact ⟨f1, K1⟩
  · obtain ⟨rfl, -⟩ := g1
    obtain ⟨rfl, -⟩ := g3
    obtain ⟨-, rfl⟩ := K.tk g5 zwk_13
    obtain ⟨-, rfl⟩ := K.tk g7 zwk_14
    obtain ⟨-, rfl⟩ := K.tk g9 zwk_15
    exact (g11 rfl rfl b E).2 F K
theorem sp_1_ettttf (a0 : Nat) (a1 : Nat) (σ : zSg) (τ1 : zSg) (r1 : Int32) (τ3 : zSg) (r3 : Int32) (τ5 : zSg) (r5 : Int32) (τ7 : zSg) (r7 : Int32) (τ9 : zSg) (r9 : Int32) (τ12 : zSg) (r12 : Int32) (τ13 : zSg) (r13 : Int32) (τ14 : zSg) (g1 : p_10 (q_r (σ.1 a0 1)) σ r1 τ1) (h2 : r1.toInt = (0 : Int)) (g3 : p_103 (q_r (τ1.1 a0 2)) τ1 r3 τ3) (h4 : r3.toInt = (0 : Int)) (g5 : p_91 a1 (zB + 13) τ3 r5 τ5) (h6 : r5.toInt = (0 : Int)) (g7 : p_91 a1 (zB + 14) τ5 r7 τ7) (h8 : r7.toInt = (0 : Int)) (g9 : p_91 a1 (zB + 15) τ7 r9 τ9) (h10 : r9.toInt ≠ (0 : Int)) (g12 : p_5 a0 a1 τ9 r12 τ12) (g13 : p_6 a1 τ12 r13 τ13) (g14 : p_13 (q_r (τ12.1 a0 1)) r12 r13 τ13 τ14) :
    p_1 (a0) (a1) σ τ14 := by
  rintro rfl rfl b E
  refine ⟨fun A nf nt H K => ?_, fun F K => ?_⟩
  · obtain ⟨rfl, r1, r2⟩ := hr_f K g1
    have n6 := r2 h2
    obtain ⟨rfl, r3, r4⟩ := hr_t K g3
    have n8 := r4 h4
    obtain ⟨-, -, v⟩ := K.tk g5 zwk_13 qsi_13
    obtain ⟨e1, rfl⟩ := v h6
    obtain ⟨-, -, v⟩ := K.tk g7 zwk_14 qsi_14
    obtain ⟨e2, rfl⟩ := v h8
    obtain ⟨f1, u, -⟩ := K.tk g9 zwk_15 qsi_15
    obtain ⟨A1, e, K1⟩ := u h10
    have hl : dLine b E nf nt A = dLk b E nf nt A A1 4 := dLine_at 4 e rfl (dWs_n 4 (by omega) _ rfl)
    rw [hl]
    have k1 : q_r (τ12.1 21 1) = 23 := by
          rcases (g12 rfl rfl b E).1 A1 nf nt H K1 with ⟨-, ⟨A9, v9, -, -, K9⟩ | ⟨-, K9⟩⟩
          · exact K9.k.1
          · exact K9.k.1
    rw [k1] at g14
    obtain ⟨f2, ⟨A2, f, h2, e2, K2⟩ | ⟨h2, K2⟩⟩ := (g12 rfl rfl b E).1 A1 nf nt H K1
    · obtain ⟨f3, K3⟩ := (g13 rfl b E).1 A2 nf nt H K2
      unfold dLk dHf
      rw [h2]
      dsimp only
      cases h3 : dH b E A2 with
      | inr F =>
        rw [h3] at K3
        obtain ⟨f4, K4⟩ := K3.aw g14
        exact ⟨((f1.tr f2).tr f3).tr f4, K4⟩
      | inl q =>
        obtain ⟨A3, q⟩ := q
        rw [h3] at K3
        obtain ⟨eq, K3⟩ := K3
        subst eq
        subst e2
        have := tn_rg h2
        obtain ⟨f4, K4⟩ := K3.aw g14 (by omega)
        exact ⟨((f1.tr f2).tr f3).tr f4, K4⟩
    · obtain ⟨f3, K3⟩ := (g13 rfl b E).2 A1 K2
      obtain ⟨f4, K4⟩ := K3.aw g14
      unfold dLk dHf
      rw [h2]
      exact ⟨((f1.tr f2).tr f3).tr f4, K4⟩
  · obtain ⟨rfl, -⟩ := g1
    obtain ⟨rfl, -⟩ := g3
    obtain ⟨-, rfl⟩ := K.tk g5 zwk_13
    obtain ⟨-, rfl⟩ := K.tk g7 zwk_14
    exact absurd (K.tk g9 zwk_15).1 h10
theorem sp_1_etttf (a0 : Nat) (a1 : Nat) (σ : zSg) (τ1 : zSg) (r1 : Int32) (τ3 : zSg) (r3 : Int32) (τ5 : zSg) (r5 : Int32) (τ7 : zSg) (r7 : Int32) (τ15 : zSg) (r15 : Int32) (τ16 : zSg) (g1 : p_10 (q_r (σ.1 a0 1)) σ r1 τ1) (h2 : r1.toInt = (0 : Int)) (g3 : p_103 (q_r (τ1.1 a0 2)) τ1 r3 τ3) (h4 : r3.toInt = (0 : Int)) (g5 : p_91 a1 (zB + 13) τ3 r5 τ5) (h6 : r5.toInt = (0 : Int)) (g7 : p_91 a1 (zB + 14) τ5 r7 τ7) (h8 : r7.toInt ≠ (0 : Int)) (g15 : p_6 a1 τ7 r15 τ15) (g16 : p_29 a0 r15 (Int32.ofInt (-1)) τ15 τ16) :
    p_1 (a0) (a1) σ τ16 := by
  rintro rfl rfl b E
  refine ⟨fun A nf nt H K => ?_, fun F K => ?_⟩
  · obtain ⟨rfl, r1, r2⟩ := hr_f K g1
    have n6 := r2 h2
    obtain ⟨rfl, r3, r4⟩ := hr_t K g3
    have n8 := r4 h4
    obtain ⟨-, -, v⟩ := K.tk g5 zwk_13 qsi_13
    obtain ⟨e1, rfl⟩ := v h6
    obtain ⟨f1, u, -⟩ := K.tk g7 zwk_14 qsi_14
    obtain ⟨A1, e, K1⟩ := u h8
    have hl : dLine b E nf nt A = dLk b E nf nt A A1 2 := dLine_at 2 e rfl (dWs_n 2 (by omega) _ rfl)
    rw [hl]
    obtain ⟨f2, K2⟩ := (g15 rfl b E).1 A1 nf nt H K1
    unfold dLk
    cases h2 : dH b E A1 with
    | inr F =>
      rw [h2] at K2
      obtain ⟨f3, K3⟩ := K2.gh g16
      exact ⟨(f1.tr f2).tr f3, K3⟩
    | inl q =>
      obtain ⟨A2, q⟩ := q
      rw [h2] at K2
      obtain ⟨eq, K2⟩ := K2
      subst eq
      obtain ⟨f3, K3⟩ := K2.gh g16
      exact ⟨(f1.tr f2).tr f3, K3⟩
  · obtain ⟨rfl, -⟩ := g1
    obtain ⟨rfl, -⟩ := g3
    obtain ⟨-, rfl⟩ := K.tk g5 zwk_13
    exact absurd (K.tk g7 zwk_14).1 h8
theorem sp_1_ettf (a0 : Nat) (a1 : Nat) (σ : zSg) (τ1 : zSg) (r1 : Int32) (τ3 : zSg) (r3 : Int32) (τ5 : zSg) (r5 : Int32) (τ17 : zSg) (r17 : Int32) (τ18 : zSg) (r18 : Int32) (τ19 : zSg) (g1 : p_10 (q_r (σ.1 a0 1)) σ r1 τ1) (h2 : r1.toInt = (0 : Int)) (g3 : p_103 (q_r (τ1.1 a0 2)) τ1 r3 τ3) (h4 : r3.toInt = (0 : Int)) (g5 : p_91 a1 (zB + 13) τ3 r5 τ5) (h6 : r5.toInt ≠ (0 : Int)) (g17 : p_5 a0 a1 τ5 r17 τ17) (g18 : p_6 a1 τ17 r18 τ18) (g19 : p_29 a0 r18 r17 τ18 τ19) :
    p_1 (a0) (a1) σ τ19 := by
  rintro rfl rfl b E
  refine ⟨fun A nf nt H K => ?_, fun F K => ?_⟩
  · obtain ⟨rfl, r1, r2⟩ := hr_f K g1
    have n6 := r2 h2
    obtain ⟨rfl, r3, r4⟩ := hr_t K g3
    have n8 := r4 h4
    obtain ⟨f1, u, -⟩ := K.tk g5 zwk_13 qsi_13
    obtain ⟨A1, e, K1⟩ := u h6
    have hl : dLine b E nf nt A = dLk b E nf nt A A1 1 := dLine_at 1 e rfl (dWs_n 1 (by omega) _ rfl)
    rw [hl]
    obtain ⟨f2, ⟨A2, f, h2, e2, K2⟩ | ⟨h2, K2⟩⟩ := (g17 rfl rfl b E).1 A1 nf nt H K1
    · obtain ⟨f3, K3⟩ := (g18 rfl b E).1 A2 nf nt H K2
      unfold dLk dHf
      rw [h2]
      dsimp only
      cases h3 : dH b E A2 with
      | inr F =>
        rw [h3] at K3
        obtain ⟨f4, K4⟩ := K3.gh g19
        exact ⟨((f1.tr f2).tr f3).tr f4, K4⟩
      | inl q =>
        obtain ⟨A3, q⟩ := q
        rw [h3] at K3
        obtain ⟨eq, K3⟩ := K3
        subst eq
        subst e2
        have := tn_rg h2
        obtain ⟨f4, K4⟩ := K3.gh g19
        exact ⟨((f1.tr f2).tr f3).tr f4, K4⟩
    · obtain ⟨f3, K3⟩ := (g18 rfl b E).2 A1 K2
      obtain ⟨f4, K4⟩ := K3.gh g19
      unfold dLk dHf
      rw [h2]
      exact ⟨((f1.tr f2).tr f3).tr f4, K4⟩
  · obtain ⟨rfl, -⟩ := g1
    obtain ⟨rfl, -⟩ := g3
    exact absurd (K.tk g5 zwk_13).1 h6
theorem sp_1_etftttt (a0 : Nat) (a1 : Nat) (σ : zSg) (τ1 : zSg) (r1 : Int32) (τ3 : zSg) (r3 : Int32) (τ20 : zSg) (r20 : Int32) (τ22 : zSg) (r22 : Int32) (τ24 : zSg) (r24 : Int32) (τ26 : zSg) (r26 : Int32) (τ28 : zSg) (g1 : p_10 (q_r (σ.1 a0 1)) σ r1 τ1) (h2 : r1.toInt = (0 : Int)) (g3 : p_103 (q_r (τ1.1 a0 2)) τ1 r3 τ3) (h4 : r3.toInt ≠ (0 : Int)) (g20 : p_91 a1 (zB + 12) τ3 r20 τ20) (h21 : r20.toInt = (0 : Int)) (g22 : p_91 a1 (zB + 13) τ20 r22 τ22) (h23 : r22.toInt = (0 : Int)) (g24 : p_91 a1 (zB + 14) τ22 r24 τ24) (h25 : r24.toInt = (0 : Int)) (g26 : p_91 a1 (zB + 15) τ24 r26 τ26) (h27 : r26.toInt = (0 : Int)) (g28 : p_2 a0 a1 τ26 τ28) :
    p_1 (a0) (a1) σ τ28 := by
  rintro rfl rfl b E
  refine ⟨fun A nf nt H K => ?_, fun F K => ?_⟩
  · obtain ⟨rfl, r1, r2⟩ := hr_f K g1
    have n6 := r2 h2
    obtain ⟨rfl, r3, r4⟩ := hr_t K g3
    obtain ⟨-, -, v⟩ := K.tk g20 zwk_12 qsi_12
    obtain ⟨e3, rfl⟩ := v h21
    obtain ⟨-, -, v⟩ := K.tk g22 zwk_13 qsi_13
    obtain ⟨e1, rfl⟩ := v h23
    obtain ⟨-, -, v⟩ := K.tk g24 zwk_14 qsi_14
    obtain ⟨e2, rfl⟩ := v h25
    obtain ⟨-, -, v⟩ := K.tk g26 zwk_15 qsi_15
    obtain ⟨e4, rfl⟩ := v h27
    obtain ⟨f1, ⟨i, s, A1, i1, i2, i3, e, K1⟩ | ⟨hno, K1⟩⟩ := (g28 rfl rfl b E).1 A nf nt H K
    · rw [dLine_at i e i3 (dWs_n i i2 s i3)]
      exact ⟨f1, K1⟩
    · have hd : dLine b E nf nt A = .inr A := by
        cases q0 : tw b E wFamily A with
        | some A1 =>
          have hl : dLine b E nf nt A = dLk b E nf nt A A1 0 := dLine_at 0 q0 rfl (dWs_n 0 (by omega) _ rfl)
          rw [hl, dLk_0, if_pos n6]
        | none =>
        refine dLine_no (fun s hs => ?_)
        simp only [dWs, List.mem_cons, List.not_mem_nil, or_false] at hs
        rcases hs with rfl | rfl | rfl | rfl | rfl | rfl | rfl | rfl | rfl | rfl
        · exact q0
        · exact e1
        · exact e2
        · exact e3
        · exact e4
        · exact hno wCold (by simp only [List.mem_cons, true_or, or_true])
        · exact hno wFine (by simp only [List.mem_cons, true_or, or_true])
        · exact hno wPrice (by simp only [List.mem_cons, true_or, or_true])
        · exact hno wGuests (by simp only [List.mem_cons, true_or, or_true])
        · exact hno wHour (by simp only [List.mem_cons, true_or, or_true])
      rw [hd]
      exact ⟨f1, K1⟩
  · obtain ⟨rfl, -⟩ := g1
    obtain ⟨rfl, -⟩ := g3
    obtain ⟨-, rfl⟩ := K.tk g20 zwk_12
    obtain ⟨-, rfl⟩ := K.tk g22 zwk_13
    obtain ⟨-, rfl⟩ := K.tk g24 zwk_14
    obtain ⟨-, rfl⟩ := K.tk g26 zwk_15
    exact (g28 rfl rfl b E).2 F K
theorem sp_1_etftttf (a0 : Nat) (a1 : Nat) (σ : zSg) (τ1 : zSg) (r1 : Int32) (τ3 : zSg) (r3 : Int32) (τ20 : zSg) (r20 : Int32) (τ22 : zSg) (r22 : Int32) (τ24 : zSg) (r24 : Int32) (τ26 : zSg) (r26 : Int32) (τ29 : zSg) (r29 : Int32) (τ30 : zSg) (r30 : Int32) (τ31 : zSg) (g1 : p_10 (q_r (σ.1 a0 1)) σ r1 τ1) (h2 : r1.toInt = (0 : Int)) (g3 : p_103 (q_r (τ1.1 a0 2)) τ1 r3 τ3) (h4 : r3.toInt ≠ (0 : Int)) (g20 : p_91 a1 (zB + 12) τ3 r20 τ20) (h21 : r20.toInt = (0 : Int)) (g22 : p_91 a1 (zB + 13) τ20 r22 τ22) (h23 : r22.toInt = (0 : Int)) (g24 : p_91 a1 (zB + 14) τ22 r24 τ24) (h25 : r24.toInt = (0 : Int)) (g26 : p_91 a1 (zB + 15) τ24 r26 τ26) (h27 : r26.toInt ≠ (0 : Int)) (g29 : p_5 a0 a1 τ26 r29 τ29) (g30 : p_6 a1 τ29 r30 τ30) (g31 : p_13 (q_r (τ29.1 a0 1)) r29 r30 τ30 τ31) :
    p_1 (a0) (a1) σ τ31 := by
  rintro rfl rfl b E
  refine ⟨fun A nf nt H K => ?_, fun F K => ?_⟩
  · obtain ⟨rfl, r1, r2⟩ := hr_f K g1
    have n6 := r2 h2
    obtain ⟨rfl, r3, r4⟩ := hr_t K g3
    obtain ⟨-, -, v⟩ := K.tk g20 zwk_12 qsi_12
    obtain ⟨e3, rfl⟩ := v h21
    obtain ⟨-, -, v⟩ := K.tk g22 zwk_13 qsi_13
    obtain ⟨e1, rfl⟩ := v h23
    obtain ⟨-, -, v⟩ := K.tk g24 zwk_14 qsi_14
    obtain ⟨e2, rfl⟩ := v h25
    obtain ⟨f1, u, -⟩ := K.tk g26 zwk_15 qsi_15
    obtain ⟨A1, e, K1⟩ := u h27
    have hl : dLine b E nf nt A = dLk b E nf nt A A1 4 := dLine_at 4 e rfl (dWs_n 4 (by omega) _ rfl)
    rw [hl]
    have k1 : q_r (τ29.1 21 1) = 23 := by
          rcases (g29 rfl rfl b E).1 A1 nf nt H K1 with ⟨-, ⟨A9, v9, -, -, K9⟩ | ⟨-, K9⟩⟩
          · exact K9.k.1
          · exact K9.k.1
    rw [k1] at g31
    obtain ⟨f2, ⟨A2, f, h2, e2, K2⟩ | ⟨h2, K2⟩⟩ := (g29 rfl rfl b E).1 A1 nf nt H K1
    · obtain ⟨f3, K3⟩ := (g30 rfl b E).1 A2 nf nt H K2
      unfold dLk dHf
      rw [h2]
      dsimp only
      cases h3 : dH b E A2 with
      | inr F =>
        rw [h3] at K3
        obtain ⟨f4, K4⟩ := K3.aw g31
        exact ⟨((f1.tr f2).tr f3).tr f4, K4⟩
      | inl q =>
        obtain ⟨A3, q⟩ := q
        rw [h3] at K3
        obtain ⟨eq, K3⟩ := K3
        subst eq
        subst e2
        have := tn_rg h2
        obtain ⟨f4, K4⟩ := K3.aw g31 (by omega)
        exact ⟨((f1.tr f2).tr f3).tr f4, K4⟩
    · obtain ⟨f3, K3⟩ := (g30 rfl b E).2 A1 K2
      obtain ⟨f4, K4⟩ := K3.aw g31
      unfold dLk dHf
      rw [h2]
      exact ⟨((f1.tr f2).tr f3).tr f4, K4⟩
  · obtain ⟨rfl, -⟩ := g1
    obtain ⟨rfl, -⟩ := g3
    obtain ⟨-, rfl⟩ := K.tk g20 zwk_12
    obtain ⟨-, rfl⟩ := K.tk g22 zwk_13
    obtain ⟨-, rfl⟩ := K.tk g24 zwk_14
    exact absurd (K.tk g26 zwk_15).1 h27
theorem sp_1_etfttf (a0 : Nat) (a1 : Nat) (σ : zSg) (τ1 : zSg) (r1 : Int32) (τ3 : zSg) (r3 : Int32) (τ20 : zSg) (r20 : Int32) (τ22 : zSg) (r22 : Int32) (τ24 : zSg) (r24 : Int32) (τ32 : zSg) (r32 : Int32) (τ33 : zSg) (g1 : p_10 (q_r (σ.1 a0 1)) σ r1 τ1) (h2 : r1.toInt = (0 : Int)) (g3 : p_103 (q_r (τ1.1 a0 2)) τ1 r3 τ3) (h4 : r3.toInt ≠ (0 : Int)) (g20 : p_91 a1 (zB + 12) τ3 r20 τ20) (h21 : r20.toInt = (0 : Int)) (g22 : p_91 a1 (zB + 13) τ20 r22 τ22) (h23 : r22.toInt = (0 : Int)) (g24 : p_91 a1 (zB + 14) τ22 r24 τ24) (h25 : r24.toInt ≠ (0 : Int)) (g32 : p_6 a1 τ24 r32 τ32) (g33 : p_29 a0 r32 (Int32.ofInt (-1)) τ32 τ33) :
    p_1 (a0) (a1) σ τ33 := by
  rintro rfl rfl b E
  refine ⟨fun A nf nt H K => ?_, fun F K => ?_⟩
  · obtain ⟨rfl, r1, r2⟩ := hr_f K g1
    have n6 := r2 h2
    obtain ⟨rfl, r3, r4⟩ := hr_t K g3
    obtain ⟨-, -, v⟩ := K.tk g20 zwk_12 qsi_12
    obtain ⟨e3, rfl⟩ := v h21
    obtain ⟨-, -, v⟩ := K.tk g22 zwk_13 qsi_13
    obtain ⟨e1, rfl⟩ := v h23
    obtain ⟨f1, u, -⟩ := K.tk g24 zwk_14 qsi_14
    obtain ⟨A1, e, K1⟩ := u h25
    have hl : dLine b E nf nt A = dLk b E nf nt A A1 2 := dLine_at 2 e rfl (dWs_n 2 (by omega) _ rfl)
    rw [hl]
    obtain ⟨f2, K2⟩ := (g32 rfl b E).1 A1 nf nt H K1
    unfold dLk
    cases h2 : dH b E A1 with
    | inr F =>
      rw [h2] at K2
      obtain ⟨f3, K3⟩ := K2.gh g33
      exact ⟨(f1.tr f2).tr f3, K3⟩
    | inl q =>
      obtain ⟨A2, q⟩ := q
      rw [h2] at K2
      obtain ⟨eq, K2⟩ := K2
      subst eq
      obtain ⟨f3, K3⟩ := K2.gh g33
      exact ⟨(f1.tr f2).tr f3, K3⟩
  · obtain ⟨rfl, -⟩ := g1
    obtain ⟨rfl, -⟩ := g3
    obtain ⟨-, rfl⟩ := K.tk g20 zwk_12
    obtain ⟨-, rfl⟩ := K.tk g22 zwk_13
    exact absurd (K.tk g24 zwk_14).1 h25
theorem sp_1_etftf (a0 : Nat) (a1 : Nat) (σ : zSg) (τ1 : zSg) (r1 : Int32) (τ3 : zSg) (r3 : Int32) (τ20 : zSg) (r20 : Int32) (τ22 : zSg) (r22 : Int32) (τ34 : zSg) (r34 : Int32) (τ35 : zSg) (r35 : Int32) (τ36 : zSg) (g1 : p_10 (q_r (σ.1 a0 1)) σ r1 τ1) (h2 : r1.toInt = (0 : Int)) (g3 : p_103 (q_r (τ1.1 a0 2)) τ1 r3 τ3) (h4 : r3.toInt ≠ (0 : Int)) (g20 : p_91 a1 (zB + 12) τ3 r20 τ20) (h21 : r20.toInt = (0 : Int)) (g22 : p_91 a1 (zB + 13) τ20 r22 τ22) (h23 : r22.toInt ≠ (0 : Int)) (g34 : p_5 a0 a1 τ22 r34 τ34) (g35 : p_6 a1 τ34 r35 τ35) (g36 : p_29 a0 r35 r34 τ35 τ36) :
    p_1 (a0) (a1) σ τ36 := by
  rintro rfl rfl b E
  refine ⟨fun A nf nt H K => ?_, fun F K => ?_⟩
  · obtain ⟨rfl, r1, r2⟩ := hr_f K g1
    have n6 := r2 h2
    obtain ⟨rfl, r3, r4⟩ := hr_t K g3
    obtain ⟨-, -, v⟩ := K.tk g20 zwk_12 qsi_12
    obtain ⟨e3, rfl⟩ := v h21
    obtain ⟨f1, u, -⟩ := K.tk g22 zwk_13 qsi_13
    obtain ⟨A1, e, K1⟩ := u h23
    have hl : dLine b E nf nt A = dLk b E nf nt A A1 1 := dLine_at 1 e rfl (dWs_n 1 (by omega) _ rfl)
    rw [hl]
    obtain ⟨f2, ⟨A2, f, h2, e2, K2⟩ | ⟨h2, K2⟩⟩ := (g34 rfl rfl b E).1 A1 nf nt H K1
    · obtain ⟨f3, K3⟩ := (g35 rfl b E).1 A2 nf nt H K2
      unfold dLk dHf
      rw [h2]
      dsimp only
      cases h3 : dH b E A2 with
      | inr F =>
        rw [h3] at K3
        obtain ⟨f4, K4⟩ := K3.gh g36
        exact ⟨((f1.tr f2).tr f3).tr f4, K4⟩
      | inl q =>
        obtain ⟨A3, q⟩ := q
        rw [h3] at K3
        obtain ⟨eq, K3⟩ := K3
        subst eq
        subst e2
        have := tn_rg h2
        obtain ⟨f4, K4⟩ := K3.gh g36
        exact ⟨((f1.tr f2).tr f3).tr f4, K4⟩
    · obtain ⟨f3, K3⟩ := (g35 rfl b E).2 A1 K2
      obtain ⟨f4, K4⟩ := K3.gh g36
      unfold dLk dHf
      rw [h2]
      exact ⟨((f1.tr f2).tr f3).tr f4, K4⟩
  · obtain ⟨rfl, -⟩ := g1
    obtain ⟨rfl, -⟩ := g3
    obtain ⟨-, rfl⟩ := K.tk g20 zwk_12
    exact absurd (K.tk g22 zwk_13).1 h23
theorem sp_1_etff (a0 : Nat) (a1 : Nat) (σ : zSg) (τ1 : zSg) (r1 : Int32) (τ3 : zSg) (r3 : Int32) (τ20 : zSg) (r20 : Int32) (τ37 : zSg) (g1 : p_10 (q_r (σ.1 a0 1)) σ r1 τ1) (h2 : r1.toInt = (0 : Int)) (g3 : p_103 (q_r (τ1.1 a0 2)) τ1 r3 τ3) (h4 : r3.toInt ≠ (0 : Int)) (g20 : p_91 a1 (zB + 12) τ3 r20 τ20) (h21 : r20.toInt ≠ (0 : Int)) (g37 : p_4 a0 a1 τ20 τ37) :
    p_1 (a0) (a1) σ τ37 := by
  rintro rfl rfl b E
  refine ⟨fun A nf nt H K => ?_, fun F K => ?_⟩
  · obtain ⟨rfl, r1, r2⟩ := hr_f K g1
    have n6 := r2 h2
    obtain ⟨rfl, r3, r4⟩ := hr_t K g3
    have n8 := r3 h4
    obtain ⟨f1, u, -⟩ := K.tk g20 zwk_12 qsi_12
    obtain ⟨A1, e, K1⟩ := u h21
    have hl : dLine b E nf nt A = dLk b E nf nt A A1 3 := dLine_at 3 e rfl (dWs_n 3 (by omega) _ rfl)
    rw [hl, dLk_3, if_neg (by omega)]
    obtain ⟨f2, K2⟩ := (g37 rfl rfl b E).1 A1 nf nt H K1 n8
    exact ⟨f1.tr f2, K2⟩
  · obtain ⟨rfl, -⟩ := g1
    obtain ⟨rfl, -⟩ := g3
    exact absurd (K.tk g20 zwk_12).1 h21
theorem sp_1_efttttt (a0 : Nat) (a1 : Nat) (σ : zSg) (τ1 : zSg) (r1 : Int32) (τ38 : zSg) (r38 : Int32) (τ40 : zSg) (r40 : Int32) (τ42 : zSg) (r42 : Int32) (τ44 : zSg) (r44 : Int32) (τ46 : zSg) (r46 : Int32) (τ48 : zSg) (g1 : p_10 (q_r (σ.1 a0 1)) σ r1 τ1) (h2 : r1.toInt ≠ (0 : Int)) (g38 : p_91 a1 (zB + 11) τ1 r38 τ38) (h39 : r38.toInt = (0 : Int)) (g40 : p_103 (q_r (τ38.1 a0 2)) τ38 r40 τ40) (h41 : r40.toInt = (0 : Int)) (g42 : p_91 a1 (zB + 13) τ40 r42 τ42) (h43 : r42.toInt = (0 : Int)) (g44 : p_91 a1 (zB + 14) τ42 r44 τ44) (h45 : r44.toInt = (0 : Int)) (g46 : p_91 a1 (zB + 15) τ44 r46 τ46) (h47 : r46.toInt = (0 : Int)) (g48 : p_2 a0 a1 τ46 τ48) :
    p_1 (a0) (a1) σ τ48 := by
  rintro rfl rfl b E
  refine ⟨fun A nf nt H K => ?_, fun F K => ?_⟩
  · obtain ⟨rfl, r1, r2⟩ := hr_f K g1
    obtain ⟨-, -, v⟩ := K.tk g38 zwk_11 qsi_11
    obtain ⟨e0, rfl⟩ := v h39
    obtain ⟨rfl, r3, r4⟩ := hr_t K g40
    have n8 := r4 h41
    obtain ⟨-, -, v⟩ := K.tk g42 zwk_13 qsi_13
    obtain ⟨e1, rfl⟩ := v h43
    obtain ⟨-, -, v⟩ := K.tk g44 zwk_14 qsi_14
    obtain ⟨e2, rfl⟩ := v h45
    obtain ⟨-, -, v⟩ := K.tk g46 zwk_15 qsi_15
    obtain ⟨e4, rfl⟩ := v h47
    obtain ⟨f1, ⟨i, s, A1, i1, i2, i3, e, K1⟩ | ⟨hno, K1⟩⟩ := (g48 rfl rfl b E).1 A nf nt H K
    · rw [dLine_at i e i3 (dWs_n i i2 s i3)]
      exact ⟨f1, K1⟩
    · have hd : dLine b E nf nt A = .inr A := by
        cases q3 : tw b E wThing A with
        | some A1 =>
          have hl : dLine b E nf nt A = dLk b E nf nt A A1 3 := dLine_at 3 q3 rfl (dWs_n 3 (by omega) _ rfl)
          rw [hl, dLk_3, if_pos n8]
        | none =>
        refine dLine_no (fun s hs => ?_)
        simp only [dWs, List.mem_cons, List.not_mem_nil, or_false] at hs
        rcases hs with rfl | rfl | rfl | rfl | rfl | rfl | rfl | rfl | rfl | rfl
        · exact e0
        · exact e1
        · exact e2
        · exact q3
        · exact e4
        · exact hno wCold (by simp only [List.mem_cons, true_or, or_true])
        · exact hno wFine (by simp only [List.mem_cons, true_or, or_true])
        · exact hno wPrice (by simp only [List.mem_cons, true_or, or_true])
        · exact hno wGuests (by simp only [List.mem_cons, true_or, or_true])
        · exact hno wHour (by simp only [List.mem_cons, true_or, or_true])
      rw [hd]
      exact ⟨f1, K1⟩
  · obtain ⟨rfl, -⟩ := g1
    obtain ⟨-, rfl⟩ := K.tk g38 zwk_11
    obtain ⟨rfl, -⟩ := g40
    obtain ⟨-, rfl⟩ := K.tk g42 zwk_13
    obtain ⟨-, rfl⟩ := K.tk g44 zwk_14
    obtain ⟨-, rfl⟩ := K.tk g46 zwk_15
    exact (g48 rfl rfl b E).2 F K
theorem sp_1_efttttf (a0 : Nat) (a1 : Nat) (σ : zSg) (τ1 : zSg) (r1 : Int32) (τ38 : zSg) (r38 : Int32) (τ40 : zSg) (r40 : Int32) (τ42 : zSg) (r42 : Int32) (τ44 : zSg) (r44 : Int32) (τ46 : zSg) (r46 : Int32) (τ49 : zSg) (r49 : Int32) (τ50 : zSg) (r50 : Int32) (τ51 : zSg) (g1 : p_10 (q_r (σ.1 a0 1)) σ r1 τ1) (h2 : r1.toInt ≠ (0 : Int)) (g38 : p_91 a1 (zB + 11) τ1 r38 τ38) (h39 : r38.toInt = (0 : Int)) (g40 : p_103 (q_r (τ38.1 a0 2)) τ38 r40 τ40) (h41 : r40.toInt = (0 : Int)) (g42 : p_91 a1 (zB + 13) τ40 r42 τ42) (h43 : r42.toInt = (0 : Int)) (g44 : p_91 a1 (zB + 14) τ42 r44 τ44) (h45 : r44.toInt = (0 : Int)) (g46 : p_91 a1 (zB + 15) τ44 r46 τ46) (h47 : r46.toInt ≠ (0 : Int)) (g49 : p_5 a0 a1 τ46 r49 τ49) (g50 : p_6 a1 τ49 r50 τ50) (g51 : p_13 (q_r (τ49.1 a0 1)) r49 r50 τ50 τ51) :
    p_1 (a0) (a1) σ τ51 := by
  rintro rfl rfl b E
  refine ⟨fun A nf nt H K => ?_, fun F K => ?_⟩
  · obtain ⟨rfl, r1, r2⟩ := hr_f K g1
    obtain ⟨-, -, v⟩ := K.tk g38 zwk_11 qsi_11
    obtain ⟨e0, rfl⟩ := v h39
    obtain ⟨rfl, r3, r4⟩ := hr_t K g40
    have n8 := r4 h41
    obtain ⟨-, -, v⟩ := K.tk g42 zwk_13 qsi_13
    obtain ⟨e1, rfl⟩ := v h43
    obtain ⟨-, -, v⟩ := K.tk g44 zwk_14 qsi_14
    obtain ⟨e2, rfl⟩ := v h45
    obtain ⟨f1, u, -⟩ := K.tk g46 zwk_15 qsi_15
    obtain ⟨A1, e, K1⟩ := u h47
    have hl : dLine b E nf nt A = dLk b E nf nt A A1 4 := dLine_at 4 e rfl (dWs_n 4 (by omega) _ rfl)
    rw [hl]
    have k1 : q_r (τ49.1 21 1) = 23 := by
          rcases (g49 rfl rfl b E).1 A1 nf nt H K1 with ⟨-, ⟨A9, v9, -, -, K9⟩ | ⟨-, K9⟩⟩
          · exact K9.k.1
          · exact K9.k.1
    rw [k1] at g51
    obtain ⟨f2, ⟨A2, f, h2, e2, K2⟩ | ⟨h2, K2⟩⟩ := (g49 rfl rfl b E).1 A1 nf nt H K1
    · obtain ⟨f3, K3⟩ := (g50 rfl b E).1 A2 nf nt H K2
      unfold dLk dHf
      rw [h2]
      dsimp only
      cases h3 : dH b E A2 with
      | inr F =>
        rw [h3] at K3
        obtain ⟨f4, K4⟩ := K3.aw g51
        exact ⟨((f1.tr f2).tr f3).tr f4, K4⟩
      | inl q =>
        obtain ⟨A3, q⟩ := q
        rw [h3] at K3
        obtain ⟨eq, K3⟩ := K3
        subst eq
        subst e2
        have := tn_rg h2
        obtain ⟨f4, K4⟩ := K3.aw g51 (by omega)
        exact ⟨((f1.tr f2).tr f3).tr f4, K4⟩
    · obtain ⟨f3, K3⟩ := (g50 rfl b E).2 A1 K2
      obtain ⟨f4, K4⟩ := K3.aw g51
      unfold dLk dHf
      rw [h2]
      exact ⟨((f1.tr f2).tr f3).tr f4, K4⟩
  · obtain ⟨rfl, -⟩ := g1
    obtain ⟨-, rfl⟩ := K.tk g38 zwk_11
    obtain ⟨rfl, -⟩ := g40
    obtain ⟨-, rfl⟩ := K.tk g42 zwk_13
    obtain ⟨-, rfl⟩ := K.tk g44 zwk_14
    exact absurd (K.tk g46 zwk_15).1 h47
theorem sp_1_eftttf (a0 : Nat) (a1 : Nat) (σ : zSg) (τ1 : zSg) (r1 : Int32) (τ38 : zSg) (r38 : Int32) (τ40 : zSg) (r40 : Int32) (τ42 : zSg) (r42 : Int32) (τ44 : zSg) (r44 : Int32) (τ52 : zSg) (r52 : Int32) (τ53 : zSg) (g1 : p_10 (q_r (σ.1 a0 1)) σ r1 τ1) (h2 : r1.toInt ≠ (0 : Int)) (g38 : p_91 a1 (zB + 11) τ1 r38 τ38) (h39 : r38.toInt = (0 : Int)) (g40 : p_103 (q_r (τ38.1 a0 2)) τ38 r40 τ40) (h41 : r40.toInt = (0 : Int)) (g42 : p_91 a1 (zB + 13) τ40 r42 τ42) (h43 : r42.toInt = (0 : Int)) (g44 : p_91 a1 (zB + 14) τ42 r44 τ44) (h45 : r44.toInt ≠ (0 : Int)) (g52 : p_6 a1 τ44 r52 τ52) (g53 : p_29 a0 r52 (Int32.ofInt (-1)) τ52 τ53) :
    p_1 (a0) (a1) σ τ53 := by
  rintro rfl rfl b E
  refine ⟨fun A nf nt H K => ?_, fun F K => ?_⟩
  · obtain ⟨rfl, r1, r2⟩ := hr_f K g1
    obtain ⟨-, -, v⟩ := K.tk g38 zwk_11 qsi_11
    obtain ⟨e0, rfl⟩ := v h39
    obtain ⟨rfl, r3, r4⟩ := hr_t K g40
    have n8 := r4 h41
    obtain ⟨-, -, v⟩ := K.tk g42 zwk_13 qsi_13
    obtain ⟨e1, rfl⟩ := v h43
    obtain ⟨f1, u, -⟩ := K.tk g44 zwk_14 qsi_14
    obtain ⟨A1, e, K1⟩ := u h45
    have hl : dLine b E nf nt A = dLk b E nf nt A A1 2 := dLine_at 2 e rfl (dWs_n 2 (by omega) _ rfl)
    rw [hl]
    obtain ⟨f2, K2⟩ := (g52 rfl b E).1 A1 nf nt H K1
    unfold dLk
    cases h2 : dH b E A1 with
    | inr F =>
      rw [h2] at K2
      obtain ⟨f3, K3⟩ := K2.gh g53
      exact ⟨(f1.tr f2).tr f3, K3⟩
    | inl q =>
      obtain ⟨A2, q⟩ := q
      rw [h2] at K2
      obtain ⟨eq, K2⟩ := K2
      subst eq
      obtain ⟨f3, K3⟩ := K2.gh g53
      exact ⟨(f1.tr f2).tr f3, K3⟩
  · obtain ⟨rfl, -⟩ := g1
    obtain ⟨-, rfl⟩ := K.tk g38 zwk_11
    obtain ⟨rfl, -⟩ := g40
    obtain ⟨-, rfl⟩ := K.tk g42 zwk_13
    exact absurd (K.tk g44 zwk_14).1 h45
theorem sp_1_efttf (a0 : Nat) (a1 : Nat) (σ : zSg) (τ1 : zSg) (r1 : Int32) (τ38 : zSg) (r38 : Int32) (τ40 : zSg) (r40 : Int32) (τ42 : zSg) (r42 : Int32) (τ54 : zSg) (r54 : Int32) (τ55 : zSg) (r55 : Int32) (τ56 : zSg) (g1 : p_10 (q_r (σ.1 a0 1)) σ r1 τ1) (h2 : r1.toInt ≠ (0 : Int)) (g38 : p_91 a1 (zB + 11) τ1 r38 τ38) (h39 : r38.toInt = (0 : Int)) (g40 : p_103 (q_r (τ38.1 a0 2)) τ38 r40 τ40) (h41 : r40.toInt = (0 : Int)) (g42 : p_91 a1 (zB + 13) τ40 r42 τ42) (h43 : r42.toInt ≠ (0 : Int)) (g54 : p_5 a0 a1 τ42 r54 τ54) (g55 : p_6 a1 τ54 r55 τ55) (g56 : p_29 a0 r55 r54 τ55 τ56) :
    p_1 (a0) (a1) σ τ56 := by
  rintro rfl rfl b E
  refine ⟨fun A nf nt H K => ?_, fun F K => ?_⟩
  · obtain ⟨rfl, r1, r2⟩ := hr_f K g1
    obtain ⟨-, -, v⟩ := K.tk g38 zwk_11 qsi_11
    obtain ⟨e0, rfl⟩ := v h39
    obtain ⟨rfl, r3, r4⟩ := hr_t K g40
    have n8 := r4 h41
    obtain ⟨f1, u, -⟩ := K.tk g42 zwk_13 qsi_13
    obtain ⟨A1, e, K1⟩ := u h43
    have hl : dLine b E nf nt A = dLk b E nf nt A A1 1 := dLine_at 1 e rfl (dWs_n 1 (by omega) _ rfl)
    rw [hl]
    obtain ⟨f2, ⟨A2, f, h2, e2, K2⟩ | ⟨h2, K2⟩⟩ := (g54 rfl rfl b E).1 A1 nf nt H K1
    · obtain ⟨f3, K3⟩ := (g55 rfl b E).1 A2 nf nt H K2
      unfold dLk dHf
      rw [h2]
      dsimp only
      cases h3 : dH b E A2 with
      | inr F =>
        rw [h3] at K3
        obtain ⟨f4, K4⟩ := K3.gh g56
        exact ⟨((f1.tr f2).tr f3).tr f4, K4⟩
      | inl q =>
        obtain ⟨A3, q⟩ := q
        rw [h3] at K3
        obtain ⟨eq, K3⟩ := K3
        subst eq
        subst e2
        have := tn_rg h2
        obtain ⟨f4, K4⟩ := K3.gh g56
        exact ⟨((f1.tr f2).tr f3).tr f4, K4⟩
    · obtain ⟨f3, K3⟩ := (g55 rfl b E).2 A1 K2
      obtain ⟨f4, K4⟩ := K3.gh g56
      unfold dLk dHf
      rw [h2]
      exact ⟨((f1.tr f2).tr f3).tr f4, K4⟩
  · obtain ⟨rfl, -⟩ := g1
    obtain ⟨-, rfl⟩ := K.tk g38 zwk_11
    obtain ⟨rfl, -⟩ := g40
    exact absurd (K.tk g42 zwk_13).1 h43
theorem sp_1_eftftttt (a0 : Nat) (a1 : Nat) (σ : zSg) (τ1 : zSg) (r1 : Int32) (τ38 : zSg) (r38 : Int32) (τ40 : zSg) (r40 : Int32) (τ57 : zSg) (r57 : Int32) (τ59 : zSg) (r59 : Int32) (τ61 : zSg) (r61 : Int32) (τ63 : zSg) (r63 : Int32) (τ65 : zSg) (g1 : p_10 (q_r (σ.1 a0 1)) σ r1 τ1) (h2 : r1.toInt ≠ (0 : Int)) (g38 : p_91 a1 (zB + 11) τ1 r38 τ38) (h39 : r38.toInt = (0 : Int)) (g40 : p_103 (q_r (τ38.1 a0 2)) τ38 r40 τ40) (h41 : r40.toInt ≠ (0 : Int)) (g57 : p_91 a1 (zB + 12) τ40 r57 τ57) (h58 : r57.toInt = (0 : Int)) (g59 : p_91 a1 (zB + 13) τ57 r59 τ59) (h60 : r59.toInt = (0 : Int)) (g61 : p_91 a1 (zB + 14) τ59 r61 τ61) (h62 : r61.toInt = (0 : Int)) (g63 : p_91 a1 (zB + 15) τ61 r63 τ63) (h64 : r63.toInt = (0 : Int)) (g65 : p_2 a0 a1 τ63 τ65) :
    p_1 (a0) (a1) σ τ65 := by
  rintro rfl rfl b E
  refine ⟨fun A nf nt H K => ?_, fun F K => ?_⟩
  · obtain ⟨rfl, r1, r2⟩ := hr_f K g1
    obtain ⟨-, -, v⟩ := K.tk g38 zwk_11 qsi_11
    obtain ⟨e0, rfl⟩ := v h39
    obtain ⟨rfl, r3, r4⟩ := hr_t K g40
    obtain ⟨-, -, v⟩ := K.tk g57 zwk_12 qsi_12
    obtain ⟨e3, rfl⟩ := v h58
    obtain ⟨-, -, v⟩ := K.tk g59 zwk_13 qsi_13
    obtain ⟨e1, rfl⟩ := v h60
    obtain ⟨-, -, v⟩ := K.tk g61 zwk_14 qsi_14
    obtain ⟨e2, rfl⟩ := v h62
    obtain ⟨-, -, v⟩ := K.tk g63 zwk_15 qsi_15
    obtain ⟨e4, rfl⟩ := v h64
    obtain ⟨f1, ⟨i, s, A1, i1, i2, i3, e, K1⟩ | ⟨hno, K1⟩⟩ := (g65 rfl rfl b E).1 A nf nt H K
    · rw [dLine_at i e i3 (dWs_n i i2 s i3)]
      exact ⟨f1, K1⟩
    · have hd : dLine b E nf nt A = .inr A := by
        refine dLine_no (fun s hs => ?_)
        simp only [dWs, List.mem_cons, List.not_mem_nil, or_false] at hs
        rcases hs with rfl | rfl | rfl | rfl | rfl | rfl | rfl | rfl | rfl | rfl
        · exact e0
        · exact e1
        · exact e2
        · exact e3
        · exact e4
        · exact hno wCold (by simp only [List.mem_cons, true_or, or_true])
        · exact hno wFine (by simp only [List.mem_cons, true_or, or_true])
        · exact hno wPrice (by simp only [List.mem_cons, true_or, or_true])
        · exact hno wGuests (by simp only [List.mem_cons, true_or, or_true])
        · exact hno wHour (by simp only [List.mem_cons, true_or, or_true])
      rw [hd]
      exact ⟨f1, K1⟩
  · obtain ⟨rfl, -⟩ := g1
    obtain ⟨-, rfl⟩ := K.tk g38 zwk_11
    obtain ⟨rfl, -⟩ := g40
    obtain ⟨-, rfl⟩ := K.tk g57 zwk_12
    obtain ⟨-, rfl⟩ := K.tk g59 zwk_13
    obtain ⟨-, rfl⟩ := K.tk g61 zwk_14
    obtain ⟨-, rfl⟩ := K.tk g63 zwk_15
    exact (g65 rfl rfl b E).2 F K
theorem sp_1_eftftttf (a0 : Nat) (a1 : Nat) (σ : zSg) (τ1 : zSg) (r1 : Int32) (τ38 : zSg) (r38 : Int32) (τ40 : zSg) (r40 : Int32) (τ57 : zSg) (r57 : Int32) (τ59 : zSg) (r59 : Int32) (τ61 : zSg) (r61 : Int32) (τ63 : zSg) (r63 : Int32) (τ66 : zSg) (r66 : Int32) (τ67 : zSg) (r67 : Int32) (τ68 : zSg) (g1 : p_10 (q_r (σ.1 a0 1)) σ r1 τ1) (h2 : r1.toInt ≠ (0 : Int)) (g38 : p_91 a1 (zB + 11) τ1 r38 τ38) (h39 : r38.toInt = (0 : Int)) (g40 : p_103 (q_r (τ38.1 a0 2)) τ38 r40 τ40) (h41 : r40.toInt ≠ (0 : Int)) (g57 : p_91 a1 (zB + 12) τ40 r57 τ57) (h58 : r57.toInt = (0 : Int)) (g59 : p_91 a1 (zB + 13) τ57 r59 τ59) (h60 : r59.toInt = (0 : Int)) (g61 : p_91 a1 (zB + 14) τ59 r61 τ61) (h62 : r61.toInt = (0 : Int)) (g63 : p_91 a1 (zB + 15) τ61 r63 τ63) (h64 : r63.toInt ≠ (0 : Int)) (g66 : p_5 a0 a1 τ63 r66 τ66) (g67 : p_6 a1 τ66 r67 τ67) (g68 : p_13 (q_r (τ66.1 a0 1)) r66 r67 τ67 τ68) :
    p_1 (a0) (a1) σ τ68 := by
  rintro rfl rfl b E
  refine ⟨fun A nf nt H K => ?_, fun F K => ?_⟩
  · obtain ⟨rfl, r1, r2⟩ := hr_f K g1
    obtain ⟨-, -, v⟩ := K.tk g38 zwk_11 qsi_11
    obtain ⟨e0, rfl⟩ := v h39
    obtain ⟨rfl, r3, r4⟩ := hr_t K g40
    obtain ⟨-, -, v⟩ := K.tk g57 zwk_12 qsi_12
    obtain ⟨e3, rfl⟩ := v h58
    obtain ⟨-, -, v⟩ := K.tk g59 zwk_13 qsi_13
    obtain ⟨e1, rfl⟩ := v h60
    obtain ⟨-, -, v⟩ := K.tk g61 zwk_14 qsi_14
    obtain ⟨e2, rfl⟩ := v h62
    obtain ⟨f1, u, -⟩ := K.tk g63 zwk_15 qsi_15
    obtain ⟨A1, e, K1⟩ := u h64
    have hl : dLine b E nf nt A = dLk b E nf nt A A1 4 := dLine_at 4 e rfl (dWs_n 4 (by omega) _ rfl)
    rw [hl]
    have k1 : q_r (τ66.1 21 1) = 23 := by
          rcases (g66 rfl rfl b E).1 A1 nf nt H K1 with ⟨-, ⟨A9, v9, -, -, K9⟩ | ⟨-, K9⟩⟩
          · exact K9.k.1
          · exact K9.k.1
    rw [k1] at g68
    obtain ⟨f2, ⟨A2, f, h2, e2, K2⟩ | ⟨h2, K2⟩⟩ := (g66 rfl rfl b E).1 A1 nf nt H K1
    · obtain ⟨f3, K3⟩ := (g67 rfl b E).1 A2 nf nt H K2
      unfold dLk dHf
      rw [h2]
      dsimp only
      cases h3 : dH b E A2 with
      | inr F =>
        rw [h3] at K3
        obtain ⟨f4, K4⟩ := K3.aw g68
        exact ⟨((f1.tr f2).tr f3).tr f4, K4⟩
      | inl q =>
        obtain ⟨A3, q⟩ := q
        rw [h3] at K3
        obtain ⟨eq, K3⟩ := K3
        subst eq
        subst e2
        have := tn_rg h2
        obtain ⟨f4, K4⟩ := K3.aw g68 (by omega)
        exact ⟨((f1.tr f2).tr f3).tr f4, K4⟩
    · obtain ⟨f3, K3⟩ := (g67 rfl b E).2 A1 K2
      obtain ⟨f4, K4⟩ := K3.aw g68
      unfold dLk dHf
      rw [h2]
      exact ⟨((f1.tr f2).tr f3).tr f4, K4⟩
  · obtain ⟨rfl, -⟩ := g1
    obtain ⟨-, rfl⟩ := K.tk g38 zwk_11
    obtain ⟨rfl, -⟩ := g40
    obtain ⟨-, rfl⟩ := K.tk g57 zwk_12
    obtain ⟨-, rfl⟩ := K.tk g59 zwk_13
    obtain ⟨-, rfl⟩ := K.tk g61 zwk_14
    exact absurd (K.tk g63 zwk_15).1 h64
theorem sp_1_eftfttf (a0 : Nat) (a1 : Nat) (σ : zSg) (τ1 : zSg) (r1 : Int32) (τ38 : zSg) (r38 : Int32) (τ40 : zSg) (r40 : Int32) (τ57 : zSg) (r57 : Int32) (τ59 : zSg) (r59 : Int32) (τ61 : zSg) (r61 : Int32) (τ69 : zSg) (r69 : Int32) (τ70 : zSg) (g1 : p_10 (q_r (σ.1 a0 1)) σ r1 τ1) (h2 : r1.toInt ≠ (0 : Int)) (g38 : p_91 a1 (zB + 11) τ1 r38 τ38) (h39 : r38.toInt = (0 : Int)) (g40 : p_103 (q_r (τ38.1 a0 2)) τ38 r40 τ40) (h41 : r40.toInt ≠ (0 : Int)) (g57 : p_91 a1 (zB + 12) τ40 r57 τ57) (h58 : r57.toInt = (0 : Int)) (g59 : p_91 a1 (zB + 13) τ57 r59 τ59) (h60 : r59.toInt = (0 : Int)) (g61 : p_91 a1 (zB + 14) τ59 r61 τ61) (h62 : r61.toInt ≠ (0 : Int)) (g69 : p_6 a1 τ61 r69 τ69) (g70 : p_29 a0 r69 (Int32.ofInt (-1)) τ69 τ70) :
    p_1 (a0) (a1) σ τ70 := by
  rintro rfl rfl b E
  refine ⟨fun A nf nt H K => ?_, fun F K => ?_⟩
  · obtain ⟨rfl, r1, r2⟩ := hr_f K g1
    obtain ⟨-, -, v⟩ := K.tk g38 zwk_11 qsi_11
    obtain ⟨e0, rfl⟩ := v h39
    obtain ⟨rfl, r3, r4⟩ := hr_t K g40
    obtain ⟨-, -, v⟩ := K.tk g57 zwk_12 qsi_12
    obtain ⟨e3, rfl⟩ := v h58
    obtain ⟨-, -, v⟩ := K.tk g59 zwk_13 qsi_13
    obtain ⟨e1, rfl⟩ := v h60
    obtain ⟨f1, u, -⟩ := K.tk g61 zwk_14 qsi_14
    obtain ⟨A1, e, K1⟩ := u h62
    have hl : dLine b E nf nt A = dLk b E nf nt A A1 2 := dLine_at 2 e rfl (dWs_n 2 (by omega) _ rfl)
    rw [hl]
    obtain ⟨f2, K2⟩ := (g69 rfl b E).1 A1 nf nt H K1
    unfold dLk
    cases h2 : dH b E A1 with
    | inr F =>
      rw [h2] at K2
      obtain ⟨f3, K3⟩ := K2.gh g70
      exact ⟨(f1.tr f2).tr f3, K3⟩
    | inl q =>
      obtain ⟨A2, q⟩ := q
      rw [h2] at K2
      obtain ⟨eq, K2⟩ := K2
      subst eq
      obtain ⟨f3, K3⟩ := K2.gh g70
      exact ⟨(f1.tr f2).tr f3, K3⟩
  · obtain ⟨rfl, -⟩ := g1
    obtain ⟨-, rfl⟩ := K.tk g38 zwk_11
    obtain ⟨rfl, -⟩ := g40
    obtain ⟨-, rfl⟩ := K.tk g57 zwk_12
    obtain ⟨-, rfl⟩ := K.tk g59 zwk_13
    exact absurd (K.tk g61 zwk_14).1 h62
theorem sp_1_eftftf (a0 : Nat) (a1 : Nat) (σ : zSg) (τ1 : zSg) (r1 : Int32) (τ38 : zSg) (r38 : Int32) (τ40 : zSg) (r40 : Int32) (τ57 : zSg) (r57 : Int32) (τ59 : zSg) (r59 : Int32) (τ71 : zSg) (r71 : Int32) (τ72 : zSg) (r72 : Int32) (τ73 : zSg) (g1 : p_10 (q_r (σ.1 a0 1)) σ r1 τ1) (h2 : r1.toInt ≠ (0 : Int)) (g38 : p_91 a1 (zB + 11) τ1 r38 τ38) (h39 : r38.toInt = (0 : Int)) (g40 : p_103 (q_r (τ38.1 a0 2)) τ38 r40 τ40) (h41 : r40.toInt ≠ (0 : Int)) (g57 : p_91 a1 (zB + 12) τ40 r57 τ57) (h58 : r57.toInt = (0 : Int)) (g59 : p_91 a1 (zB + 13) τ57 r59 τ59) (h60 : r59.toInt ≠ (0 : Int)) (g71 : p_5 a0 a1 τ59 r71 τ71) (g72 : p_6 a1 τ71 r72 τ72) (g73 : p_29 a0 r72 r71 τ72 τ73) :
    p_1 (a0) (a1) σ τ73 := by
  rintro rfl rfl b E
  refine ⟨fun A nf nt H K => ?_, fun F K => ?_⟩
  · obtain ⟨rfl, r1, r2⟩ := hr_f K g1
    obtain ⟨-, -, v⟩ := K.tk g38 zwk_11 qsi_11
    obtain ⟨e0, rfl⟩ := v h39
    obtain ⟨rfl, r3, r4⟩ := hr_t K g40
    obtain ⟨-, -, v⟩ := K.tk g57 zwk_12 qsi_12
    obtain ⟨e3, rfl⟩ := v h58
    obtain ⟨f1, u, -⟩ := K.tk g59 zwk_13 qsi_13
    obtain ⟨A1, e, K1⟩ := u h60
    have hl : dLine b E nf nt A = dLk b E nf nt A A1 1 := dLine_at 1 e rfl (dWs_n 1 (by omega) _ rfl)
    rw [hl]
    obtain ⟨f2, ⟨A2, f, h2, e2, K2⟩ | ⟨h2, K2⟩⟩ := (g71 rfl rfl b E).1 A1 nf nt H K1
    · obtain ⟨f3, K3⟩ := (g72 rfl b E).1 A2 nf nt H K2
      unfold dLk dHf
      rw [h2]
      dsimp only
      cases h3 : dH b E A2 with
      | inr F =>
        rw [h3] at K3
        obtain ⟨f4, K4⟩ := K3.gh g73
        exact ⟨((f1.tr f2).tr f3).tr f4, K4⟩
      | inl q =>
        obtain ⟨A3, q⟩ := q
        rw [h3] at K3
        obtain ⟨eq, K3⟩ := K3
        subst eq
        subst e2
        have := tn_rg h2
        obtain ⟨f4, K4⟩ := K3.gh g73
        exact ⟨((f1.tr f2).tr f3).tr f4, K4⟩
    · obtain ⟨f3, K3⟩ := (g72 rfl b E).2 A1 K2
      obtain ⟨f4, K4⟩ := K3.gh g73
      unfold dLk dHf
      rw [h2]
      exact ⟨((f1.tr f2).tr f3).tr f4, K4⟩
  · obtain ⟨rfl, -⟩ := g1
    obtain ⟨-, rfl⟩ := K.tk g38 zwk_11
    obtain ⟨rfl, -⟩ := g40
    obtain ⟨-, rfl⟩ := K.tk g57 zwk_12
    exact absurd (K.tk g59 zwk_13).1 h60
theorem sp_1_eftff (a0 : Nat) (a1 : Nat) (σ : zSg) (τ1 : zSg) (r1 : Int32) (τ38 : zSg) (r38 : Int32) (τ40 : zSg) (r40 : Int32) (τ57 : zSg) (r57 : Int32) (τ74 : zSg) (g1 : p_10 (q_r (σ.1 a0 1)) σ r1 τ1) (h2 : r1.toInt ≠ (0 : Int)) (g38 : p_91 a1 (zB + 11) τ1 r38 τ38) (h39 : r38.toInt = (0 : Int)) (g40 : p_103 (q_r (τ38.1 a0 2)) τ38 r40 τ40) (h41 : r40.toInt ≠ (0 : Int)) (g57 : p_91 a1 (zB + 12) τ40 r57 τ57) (h58 : r57.toInt ≠ (0 : Int)) (g74 : p_4 a0 a1 τ57 τ74) :
    p_1 (a0) (a1) σ τ74 := by
  rintro rfl rfl b E
  refine ⟨fun A nf nt H K => ?_, fun F K => ?_⟩
  · obtain ⟨rfl, r1, r2⟩ := hr_f K g1
    obtain ⟨-, -, v⟩ := K.tk g38 zwk_11 qsi_11
    obtain ⟨e0, rfl⟩ := v h39
    obtain ⟨rfl, r3, r4⟩ := hr_t K g40
    have n8 := r3 h41
    obtain ⟨f1, u, -⟩ := K.tk g57 zwk_12 qsi_12
    obtain ⟨A1, e, K1⟩ := u h58
    have hl : dLine b E nf nt A = dLk b E nf nt A A1 3 := dLine_at 3 e rfl (dWs_n 3 (by omega) _ rfl)
    rw [hl, dLk_3, if_neg (by omega)]
    obtain ⟨f2, K2⟩ := (g74 rfl rfl b E).1 A1 nf nt H K1 n8
    exact ⟨f1.tr f2, K2⟩
  · obtain ⟨rfl, -⟩ := g1
    obtain ⟨-, rfl⟩ := K.tk g38 zwk_11
    obtain ⟨rfl, -⟩ := g40
    exact absurd (K.tk g57 zwk_12).1 h58
theorem sp_1_eff (a0 : Nat) (a1 : Nat) (σ : zSg) (τ1 : zSg) (r1 : Int32) (τ38 : zSg) (r38 : Int32) (τ75 : zSg) (g1 : p_10 (q_r (σ.1 a0 1)) σ r1 τ1) (h2 : r1.toInt ≠ (0 : Int)) (g38 : p_91 a1 (zB + 11) τ1 r38 τ38) (h39 : r38.toInt ≠ (0 : Int)) (g75 : p_3 a0 a1 τ38 τ75) :
    p_1 (a0) (a1) σ τ75 := by
  rintro rfl rfl b E
  refine ⟨fun A nf nt H K => ?_, fun F K => ?_⟩
  · obtain ⟨rfl, r1, r2⟩ := hr_f K g1
    have n6 := r1 h2
    obtain ⟨f1, u, -⟩ := K.tk g38 zwk_11 qsi_11
    obtain ⟨A1, e, K1⟩ := u h39
    have hl : dLine b E nf nt A = dLk b E nf nt A A1 0 := dLine_at 0 e rfl (dWs_n 0 (by omega) _ rfl)
    rw [hl, dLk_0, if_neg (by omega)]
    obtain ⟨f2, K2⟩ := (g75 rfl rfl b E).1 A1 nf nt H K1 n6
    exact ⟨f1.tr f2, K2⟩
  · obtain ⟨rfl, -⟩ := g1
    exact absurd (K.tk g38 zwk_11).1 h39
noncomputable def qP_1 : zPp := fun as σ o σ' => match as with
  | [a0, a1] => o = .inl none ∧ p_1 (q_r a0) (q_r a1) σ σ'
  | _ => True
set_option maxRecDepth 100000 in
theorem sp_1 {sx : zX} (S10 : zEe sx 10 1 qP_10) (S103 : zEe sx 103 1 qP_103) (S91 : zEe sx 91 2 qP_91) (S2 : zEe sx 2 2 qP_2) (S5 : zEe sx 5 2 qP_5) (S6 : zEe sx 6 1 qP_6) (S13 : zEe sx 13 3 qP_13) (S29 : zEe sx 29 3 qP_29) (S4 : zEe sx 4 2 qP_4) (S3 : zEe sx 3 2 qP_3) : zEe sx 1 2 qP_1 := by
  refine zfle zJ_1 (sps := [(10, 1, qP_10), (103, 1, qP_103), (91, 2, qP_91), (2, 2, qP_2), (5, 2, qP_5), (6, 1, qP_6), (13, 3, qP_13), (29, 3, qP_29), (4, 2, qP_4), (3, 2, qP_3)]) (fun q hq => by
    simp only [List.mem_cons, List.not_mem_nil, or_false] at hq
    rcases hq with rfl | rfl | rfl | rfl | rfl | rfl | rfl | rfl | rfl | rfl
    · exact S10
    · exact S103
    · exact S91
    · exact S2
    · exact S5
    · exact S6
    · exact S13
    · exact S29
    · exact S4
    · exact S3) (fun as σ hl => ?_)
  match as, hl with
  | [a0, a1], _ =>
  refine ⟨[], 400, ?_, ?_⟩
  · exact fun q hq => absurd hq List.not_mem_nil
  · refine fun o1 τ1 g1 => ?_
    obtain ⟨r1, rfl, g1⟩ := g1
    refine And.intro (fun h2 => ?_) (fun h2 => ?_)
    · refine fun o3 τ3 g3 => ?_
      obtain ⟨r3, rfl, g3⟩ := g3
      refine And.intro (fun h4 => ?_) (fun h4 => ?_)
      · refine fun o5 τ5 g5 => ?_
        obtain ⟨r5, rfl, g5⟩ := g5
        refine And.intro (fun h6 => ?_) (fun h6 => ?_)
        · refine fun o7 τ7 g7 => ?_
          obtain ⟨r7, rfl, g7⟩ := g7
          refine And.intro (fun h8 => ?_) (fun h8 => ?_)
          · refine fun o9 τ9 g9 => ?_
            obtain ⟨r9, rfl, g9⟩ := g9
            refine And.intro (fun h10 => ?_) (fun h10 => ?_)
            · refine fun o11 τ11 g11 => ?_
              obtain ⟨rfl, g11⟩ := g11
              exact ⟨rfl, sp_1_ettttt (q_r a0) (q_r a1) σ τ1 r1 τ3 r3 τ5 r5 τ7 r7 τ9 r9 τ11 g1 (cm0t h2) g3 (cm0t h4) g5 (cm0t h6) g7 (cm0t h8) g9 (cm0t h10) g11⟩
            · refine fun o12 τ12 g12 => ?_
              obtain ⟨r12, rfl, g12⟩ := g12
              refine fun o13 τ13 g13 => ?_
              obtain ⟨r13, rfl, g13⟩ := g13
              refine fun o14 τ14 g14 => ?_
              obtain ⟨rfl, g14⟩ := g14
              exact ⟨rfl, sp_1_ettttf (q_r a0) (q_r a1) σ τ1 r1 τ3 r3 τ5 r5 τ7 r7 τ9 r9 τ12 r12 τ13 r13 τ14 g1 (cm0t h2) g3 (cm0t h4) g5 (cm0t h6) g7 (cm0t h8) g9 (cm0f h10) g12 g13 g14⟩
          · refine fun o15 τ15 g15 => ?_
            obtain ⟨r15, rfl, g15⟩ := g15
            refine fun o16 τ16 g16 => ?_
            obtain ⟨rfl, g16⟩ := g16
            exact ⟨rfl, sp_1_etttf (q_r a0) (q_r a1) σ τ1 r1 τ3 r3 τ5 r5 τ7 r7 τ15 r15 τ16 g1 (cm0t h2) g3 (cm0t h4) g5 (cm0t h6) g7 (cm0f h8) g15 g16⟩
        · refine fun o17 τ17 g17 => ?_
          obtain ⟨r17, rfl, g17⟩ := g17
          refine fun o18 τ18 g18 => ?_
          obtain ⟨r18, rfl, g18⟩ := g18
          refine fun o19 τ19 g19 => ?_
          obtain ⟨rfl, g19⟩ := g19
          exact ⟨rfl, sp_1_ettf (q_r a0) (q_r a1) σ τ1 r1 τ3 r3 τ5 r5 τ17 r17 τ18 r18 τ19 g1 (cm0t h2) g3 (cm0t h4) g5 (cm0f h6) g17 g18 g19⟩
      · refine fun o20 τ20 g20 => ?_
        obtain ⟨r20, rfl, g20⟩ := g20
        refine And.intro (fun h21 => ?_) (fun h21 => ?_)
        · refine fun o22 τ22 g22 => ?_
          obtain ⟨r22, rfl, g22⟩ := g22
          refine And.intro (fun h23 => ?_) (fun h23 => ?_)
          · refine fun o24 τ24 g24 => ?_
            obtain ⟨r24, rfl, g24⟩ := g24
            refine And.intro (fun h25 => ?_) (fun h25 => ?_)
            · refine fun o26 τ26 g26 => ?_
              obtain ⟨r26, rfl, g26⟩ := g26
              refine And.intro (fun h27 => ?_) (fun h27 => ?_)
              · refine fun o28 τ28 g28 => ?_
                obtain ⟨rfl, g28⟩ := g28
                exact ⟨rfl, sp_1_etftttt (q_r a0) (q_r a1) σ τ1 r1 τ3 r3 τ20 r20 τ22 r22 τ24 r24 τ26 r26 τ28 g1 (cm0t h2) g3 (cm0f h4) g20 (cm0t h21) g22 (cm0t h23) g24 (cm0t h25) g26 (cm0t h27) g28⟩
              · refine fun o29 τ29 g29 => ?_
                obtain ⟨r29, rfl, g29⟩ := g29
                refine fun o30 τ30 g30 => ?_
                obtain ⟨r30, rfl, g30⟩ := g30
                refine fun o31 τ31 g31 => ?_
                obtain ⟨rfl, g31⟩ := g31
                exact ⟨rfl, sp_1_etftttf (q_r a0) (q_r a1) σ τ1 r1 τ3 r3 τ20 r20 τ22 r22 τ24 r24 τ26 r26 τ29 r29 τ30 r30 τ31 g1 (cm0t h2) g3 (cm0f h4) g20 (cm0t h21) g22 (cm0t h23) g24 (cm0t h25) g26 (cm0f h27) g29 g30 g31⟩
            · refine fun o32 τ32 g32 => ?_
              obtain ⟨r32, rfl, g32⟩ := g32
              refine fun o33 τ33 g33 => ?_
              obtain ⟨rfl, g33⟩ := g33
              exact ⟨rfl, sp_1_etfttf (q_r a0) (q_r a1) σ τ1 r1 τ3 r3 τ20 r20 τ22 r22 τ24 r24 τ32 r32 τ33 g1 (cm0t h2) g3 (cm0f h4) g20 (cm0t h21) g22 (cm0t h23) g24 (cm0f h25) g32 g33⟩
          · refine fun o34 τ34 g34 => ?_
            obtain ⟨r34, rfl, g34⟩ := g34
            refine fun o35 τ35 g35 => ?_
            obtain ⟨r35, rfl, g35⟩ := g35
            refine fun o36 τ36 g36 => ?_
            obtain ⟨rfl, g36⟩ := g36
            exact ⟨rfl, sp_1_etftf (q_r a0) (q_r a1) σ τ1 r1 τ3 r3 τ20 r20 τ22 r22 τ34 r34 τ35 r35 τ36 g1 (cm0t h2) g3 (cm0f h4) g20 (cm0t h21) g22 (cm0f h23) g34 g35 g36⟩
        · refine fun o37 τ37 g37 => ?_
          obtain ⟨rfl, g37⟩ := g37
          exact ⟨rfl, sp_1_etff (q_r a0) (q_r a1) σ τ1 r1 τ3 r3 τ20 r20 τ37 g1 (cm0t h2) g3 (cm0f h4) g20 (cm0f h21) g37⟩
    · refine fun o38 τ38 g38 => ?_
      obtain ⟨r38, rfl, g38⟩ := g38
      refine And.intro (fun h39 => ?_) (fun h39 => ?_)
      · refine fun o40 τ40 g40 => ?_
        obtain ⟨r40, rfl, g40⟩ := g40
        refine And.intro (fun h41 => ?_) (fun h41 => ?_)
        · refine fun o42 τ42 g42 => ?_
          obtain ⟨r42, rfl, g42⟩ := g42
          refine And.intro (fun h43 => ?_) (fun h43 => ?_)
          · refine fun o44 τ44 g44 => ?_
            obtain ⟨r44, rfl, g44⟩ := g44
            refine And.intro (fun h45 => ?_) (fun h45 => ?_)
            · refine fun o46 τ46 g46 => ?_
              obtain ⟨r46, rfl, g46⟩ := g46
              refine And.intro (fun h47 => ?_) (fun h47 => ?_)
              · refine fun o48 τ48 g48 => ?_
                obtain ⟨rfl, g48⟩ := g48
                exact ⟨rfl, sp_1_efttttt (q_r a0) (q_r a1) σ τ1 r1 τ38 r38 τ40 r40 τ42 r42 τ44 r44 τ46 r46 τ48 g1 (cm0f h2) g38 (cm0t h39) g40 (cm0t h41) g42 (cm0t h43) g44 (cm0t h45) g46 (cm0t h47) g48⟩
              · refine fun o49 τ49 g49 => ?_
                obtain ⟨r49, rfl, g49⟩ := g49
                refine fun o50 τ50 g50 => ?_
                obtain ⟨r50, rfl, g50⟩ := g50
                refine fun o51 τ51 g51 => ?_
                obtain ⟨rfl, g51⟩ := g51
                exact ⟨rfl, sp_1_efttttf (q_r a0) (q_r a1) σ τ1 r1 τ38 r38 τ40 r40 τ42 r42 τ44 r44 τ46 r46 τ49 r49 τ50 r50 τ51 g1 (cm0f h2) g38 (cm0t h39) g40 (cm0t h41) g42 (cm0t h43) g44 (cm0t h45) g46 (cm0f h47) g49 g50 g51⟩
            · refine fun o52 τ52 g52 => ?_
              obtain ⟨r52, rfl, g52⟩ := g52
              refine fun o53 τ53 g53 => ?_
              obtain ⟨rfl, g53⟩ := g53
              exact ⟨rfl, sp_1_eftttf (q_r a0) (q_r a1) σ τ1 r1 τ38 r38 τ40 r40 τ42 r42 τ44 r44 τ52 r52 τ53 g1 (cm0f h2) g38 (cm0t h39) g40 (cm0t h41) g42 (cm0t h43) g44 (cm0f h45) g52 g53⟩
          · refine fun o54 τ54 g54 => ?_
            obtain ⟨r54, rfl, g54⟩ := g54
            refine fun o55 τ55 g55 => ?_
            obtain ⟨r55, rfl, g55⟩ := g55
            refine fun o56 τ56 g56 => ?_
            obtain ⟨rfl, g56⟩ := g56
            exact ⟨rfl, sp_1_efttf (q_r a0) (q_r a1) σ τ1 r1 τ38 r38 τ40 r40 τ42 r42 τ54 r54 τ55 r55 τ56 g1 (cm0f h2) g38 (cm0t h39) g40 (cm0t h41) g42 (cm0f h43) g54 g55 g56⟩
        · refine fun o57 τ57 g57 => ?_
          obtain ⟨r57, rfl, g57⟩ := g57
          refine And.intro (fun h58 => ?_) (fun h58 => ?_)
          · refine fun o59 τ59 g59 => ?_
            obtain ⟨r59, rfl, g59⟩ := g59
            refine And.intro (fun h60 => ?_) (fun h60 => ?_)
            · refine fun o61 τ61 g61 => ?_
              obtain ⟨r61, rfl, g61⟩ := g61
              refine And.intro (fun h62 => ?_) (fun h62 => ?_)
              · refine fun o63 τ63 g63 => ?_
                obtain ⟨r63, rfl, g63⟩ := g63
                refine And.intro (fun h64 => ?_) (fun h64 => ?_)
                · refine fun o65 τ65 g65 => ?_
                  obtain ⟨rfl, g65⟩ := g65
                  exact ⟨rfl, sp_1_eftftttt (q_r a0) (q_r a1) σ τ1 r1 τ38 r38 τ40 r40 τ57 r57 τ59 r59 τ61 r61 τ63 r63 τ65 g1 (cm0f h2) g38 (cm0t h39) g40 (cm0f h41) g57 (cm0t h58) g59 (cm0t h60) g61 (cm0t h62) g63 (cm0t h64) g65⟩
                · refine fun o66 τ66 g66 => ?_
                  obtain ⟨r66, rfl, g66⟩ := g66
                  refine fun o67 τ67 g67 => ?_
                  obtain ⟨r67, rfl, g67⟩ := g67
                  refine fun o68 τ68 g68 => ?_
                  obtain ⟨rfl, g68⟩ := g68
                  exact ⟨rfl, sp_1_eftftttf (q_r a0) (q_r a1) σ τ1 r1 τ38 r38 τ40 r40 τ57 r57 τ59 r59 τ61 r61 τ63 r63 τ66 r66 τ67 r67 τ68 g1 (cm0f h2) g38 (cm0t h39) g40 (cm0f h41) g57 (cm0t h58) g59 (cm0t h60) g61 (cm0t h62) g63 (cm0f h64) g66 g67 g68⟩
              · refine fun o69 τ69 g69 => ?_
                obtain ⟨r69, rfl, g69⟩ := g69
                refine fun o70 τ70 g70 => ?_
                obtain ⟨rfl, g70⟩ := g70
                exact ⟨rfl, sp_1_eftfttf (q_r a0) (q_r a1) σ τ1 r1 τ38 r38 τ40 r40 τ57 r57 τ59 r59 τ61 r61 τ69 r69 τ70 g1 (cm0f h2) g38 (cm0t h39) g40 (cm0f h41) g57 (cm0t h58) g59 (cm0t h60) g61 (cm0f h62) g69 g70⟩
            · refine fun o71 τ71 g71 => ?_
              obtain ⟨r71, rfl, g71⟩ := g71
              refine fun o72 τ72 g72 => ?_
              obtain ⟨r72, rfl, g72⟩ := g72
              refine fun o73 τ73 g73 => ?_
              obtain ⟨rfl, g73⟩ := g73
              exact ⟨rfl, sp_1_eftftf (q_r a0) (q_r a1) σ τ1 r1 τ38 r38 τ40 r40 τ57 r57 τ59 r59 τ71 r71 τ72 r72 τ73 g1 (cm0f h2) g38 (cm0t h39) g40 (cm0f h41) g57 (cm0t h58) g59 (cm0f h60) g71 g72 g73⟩
          · refine fun o74 τ74 g74 => ?_
            obtain ⟨rfl, g74⟩ := g74
            exact ⟨rfl, sp_1_eftff (q_r a0) (q_r a1) σ τ1 r1 τ38 r38 τ40 r40 τ57 r57 τ74 g1 (cm0f h2) g38 (cm0t h39) g40 (cm0f h41) g57 (cm0f h58) g74⟩
      · refine fun o75 τ75 g75 => ?_
        obtain ⟨rfl, g75⟩ := g75
        exact ⟨rfl, sp_1_eff (q_r a0) (q_r a1) σ τ1 r1 τ38 r38 τ75 g1 (cm0f h2) g38 (cm0f h39) g75⟩
/-- ahead of a text -/
noncomputable def cI (σ : zSg) (b : Nat → Int) (E nf nt : Nat) (H : Nat → Int32) : Prop := cS0 σ 1 E ∧ cb σ 1 = b ∧ σ.1 1 0 = .ref 2 ∧ hH σ 21 H ∧ dC nf nt H
theorem cI.go {σ τ : zSg} {b : Nat → Int} {E nf nt : Nat} {H : Nat → Int32} (K : cI σ b E nf nt H) (G : p_87 1 σ τ) : cDF σ τ ∧ cR τ b (zBl b E 0) E nf nt H := by
  obtain ⟨h1, h2, h3, h4, h5⟩ := K
  have e := G E h1
  rw [h2] at e
  subst e
  obtain ⟨g1, g2⟩ := h1.mk (w := .int (Int32.ofInt (-1))) (K := zBl b E 0) (zBl_le (by omega))
  refine ⟨(cDF.tp (by omega)).tr (cDF.tp (by omega)), g1, g2.trans h2, ?_, ?_, h4.tp.tp, h5⟩
  · rw [q_w_ne (fun _ q => by omega), q_w_at]; rfl
  · rw [q_w_ne (fun _ q => by omega), q_w_ne (fun _ q => by omega)]; exact h3
theorem cR.go {σ τ : zSg} {b : Nat → Int} {A E nf nt : Nat} {H : Nat → Int32} {x : Int32} (K : cR σ b A E nf nt H) (G : p_89 1 σ x τ) : τ = σ ∧ (x.toInt ≠ 0 → A ≠ E) ∧ (x.toInt = 0 → A = E) := by
  obtain ⟨g1, g2⟩ := G
  have g3 := g2 A E K.1
  have hl := K.le
  refine ⟨g1, fun h => by have := g3.mp h; omega, fun h => ?_⟩
  rcases Nat.lt_or_ge A E with q | q
  · exact absurd h (g3.mpr ⟨K.2.2.1, q⟩)
  · omega
theorem cQ.go {σ τ : zSg} {b : Nat → Int} {E F : Nat} {x : Int32} (K : cQ σ b E F) (G : p_89 1 σ x τ) : τ = σ ∧ x.toInt = 0 := by
  obtain ⟨g1, g2⟩ := G
  obtain ⟨A, h1⟩ := K.1
  have g3 := g2 A E h1
  refine ⟨g1, Decidable.byContradiction fun h => K.no (g3.mp h).1⟩
abbrev cDo (σ' : zSg) (nf nt : Nat) (H : Nat → Int32) (r : Int32) (R : List dOp ⊕ Nat) : Prop := match R with
  | .inl os => r.toInt = -1 ∧ hH σ' 21 (dApps os nf nt H) ∧ dC (nf + dFs os) (nt + dTs os) (dApps os nf nt H)
  | .inr F => r = Int32.ofNat F ∧ F ≤ 400 ∧ ∃ D', hH σ' 21 D'
theorem zJ_0 : zJ3 0 z_m0 z_c0 z_h0 := ⟨rfl, rfl, rfl⟩
noncomputable def p_0 (h a : Nat) (σ : zSg) (r : Int32) (σ' : zSg) : Prop := h = 21 → a = 1 → ∀ b E nf nt H, cI σ b E nf nt H → cDF σ σ' ∧ cDo σ' nf nt H r (dDeed b E nf nt)
noncomputable def i_0 (h a : Nat) (σ : zSg) (l0 l1 : Nat) (l2 l3 : Int32) (τ : zSg) : Prop := l0 = h ∧ l1 = a ∧ (h = 21 → a = 1 → ∀ b E nf nt H, cI σ b E nf nt H → cDF σ τ ∧ ((∃ A os N, l3 = Int32.ofNat N ∧ N ≤ 14 ∧ cR τ b A E (nf + dFs os) (nt + dTs os) (dApps os nf nt H) ∧ ((l2.toInt ≠ 0 ∧ dDeed b E nf nt = dText b E (14 - N) (nf + dFs os) (nt + dTs os) A os) ∨ (l2.toInt = 0 ∧ dDeed b E nf nt = .inl os))) ∨ ∃ F, dDeed b E nf nt = .inr F ∧ cQ τ b E F))
theorem sp_0_e (a0 : Nat) (a1 : Nat) (σ : zSg) (τ1 : zSg) (τ2 : zSg) (r2 : Int32) (g1 : p_87 a1 σ τ1) (g2 : p_89 a1 τ1 r2 τ2) :
    i_0 a0 a1 σ a0 a1 r2 (Int32.ofInt (0)) τ2 := by
  refine ⟨rfl, rfl, ?_⟩
  rintro rfl rfl b E nf nt H K
  obtain ⟨f1, K1⟩ := K.go g1
  obtain ⟨rfl, g1, g2⟩ := K1.go g2
  refine ⟨f1, Or.inl ⟨zBl b E 0, [], 0, rfl, by omega, K1, ?_⟩⟩
  unfold dDeed
  by_cases h : r2.toInt = 0
  · exact Or.inr ⟨h, by rw [if_pos (g2 h)]⟩
  · exact Or.inl ⟨h, by rw [if_neg (g1 h)]; rfl⟩
theorem sp_0_c7_tt (a0 : Nat) (a1 : Nat) (σ : zSg) (l0 : Nat) (l1 : Nat) (l2 : Int32) (l3 : Int32) (τ : zSg) (τ5 : zSg) (r5 : Int32) (hI : i_0 a0 a1 σ l0 l1 l2 l3 τ) (h3 : l2.toInt = (0 : Int)) (h4 : l2.toInt = (0 : Int)) (g5 : p_88 l1 τ r5 τ5) :
    p_0 (a0) (a1) σ r5 τ5 := by
  obtain ⟨rfl, rfl, hI⟩ := hI
  rintro rfl rfl b E nf nt H K
  obtain ⟨rfl, rfl⟩ := g5
  obtain ⟨f1, ⟨A, os, N, rfl, hN, K1, h | ⟨h, hd⟩⟩ | ⟨F, hd, K1⟩⟩ := hI rfl rfl b E nf nt H K
  · exact absurd h3 h.1
  · rw [hd]
    exact ⟨f1, K1.2.2.1, K1.2.2.2.2.1, K1.2.2.2.2.2⟩
  · rw [hd]
    refine ⟨f1, ?_, K1.2.2.2.1, by obtain ⟨D', _, _, h9, _⟩ := K1.2.2.2.2.2; exact ⟨D', h9⟩⟩
    rw [K1.2.2.1]
    rfl
theorem sp_0_c7_tf (a0 : Nat) (a1 : Nat) (σ : zSg) (l0 : Nat) (l1 : Nat) (l2 : Int32) (l3 : Int32) (τ : zSg) (τ6 : zSg) (τ7 : zSg) (r7 : Int32) (hI : i_0 a0 a1 σ l0 l1 l2 l3 τ) (h3 : l2.toInt = (0 : Int)) (h4 : l2.toInt ≠ (0 : Int)) (g6 : p_90 l1 τ τ6) (g7 : p_88 l1 τ6 r7 τ7) :
    p_0 (a0) (a1) σ r7 τ7 := by
  exact absurd h3 h4
theorem sp_0_c7_ftt (a0 : Nat) (a1 : Nat) (σ : zSg) (l0 : Nat) (l1 : Nat) (l2 : Int32) (l3 : Int32) (τ : zSg) (τ10 : zSg) (r10 : Int32) (hI : i_0 a0 a1 σ l0 l1 l2 l3 τ) (h3 : l2.toInt ≠ (0 : Int)) (h8 : l3.toInt ≥ (14 : Int)) (h9 : l2.toInt = (0 : Int)) (g10 : p_88 l1 τ r10 τ10) :
    p_0 (a0) (a1) σ r10 τ10 := by
  exact absurd h9 h3
theorem sp_0_c7_ftf (a0 : Nat) (a1 : Nat) (σ : zSg) (l0 : Nat) (l1 : Nat) (l2 : Int32) (l3 : Int32) (τ : zSg) (τ11 : zSg) (τ12 : zSg) (r12 : Int32) (hI : i_0 a0 a1 σ l0 l1 l2 l3 τ) (h3 : l2.toInt ≠ (0 : Int)) (h8 : l3.toInt ≥ (14 : Int)) (h9 : l2.toInt ≠ (0 : Int)) (g11 : p_90 l1 τ τ11) (g12 : p_88 l1 τ11 r12 τ12) :
    p_0 (a0) (a1) σ r12 τ12 := by
  obtain ⟨rfl, rfl, hI⟩ := hI
  rintro rfl rfl b E nf nt H K
  obtain ⟨f1, ⟨A, os, N, rfl, hN, K1, ⟨h, hd⟩ | h⟩ | ⟨F, hd, K1⟩⟩ := hI rfl rfl b E nf nt H K
  · rw [o32 (by omega)] at h8
    obtain ⟨f2, K2⟩ := K1.rf g11
    obtain ⟨rfl, rfl⟩ := g12
    rw [hd, show 14 - N = 0 by omega]
    refine ⟨f1.tr f2, ?_, K2.2.2.2.1, by obtain ⟨D', _, _, h9, _⟩ := K2.2.2.2.2.2; exact ⟨D', h9⟩⟩
    rw [K2.2.2.1]
    rfl
  · exact absurd h.1 h3
  · obtain rfl := K1.rf g11
    obtain ⟨rfl, rfl⟩ := g12
    rw [hd]
    refine ⟨f1, ?_, K1.2.2.2.1, by obtain ⟨D', _, _, h9, _⟩ := K1.2.2.2.2.2; exact ⟨D', h9⟩⟩
    rw [K1.2.2.1]
    rfl
theorem sp_0_c7_fft (a0 : Nat) (a1 : Nat) (σ : zSg) (l0 : Nat) (l1 : Nat) (l2 : Int32) (l3 : Int32) (τ : zSg) (τ13 : zSg) (τ14 : zSg) (r14 : Int32) (hI : i_0 a0 a1 σ l0 l1 l2 l3 τ) (h3 : l2.toInt ≠ (0 : Int)) (h8 : l3.toInt < (14 : Int)) (g13 : p_1 l0 l1 τ τ13) (g14 : p_89 l1 τ13 r14 τ14) (h15 : r14.toInt = (0 : Int)) :
    i_0 a0 a1 σ l0 l1 r14 (l3 + Int32.ofInt (1)) τ14 := by
  obtain ⟨rfl, rfl, hI⟩ := hI
  refine ⟨rfl, rfl, ?_⟩
  rintro rfl rfl b E nf nt H K
  obtain ⟨f1, ⟨A, os, N, rfl, hN, K1, ⟨h, hd⟩ | h⟩ | ⟨F, hd, K1⟩⟩ := hI rfl rfl b E nf nt H K
  · rw [o32 (by omega)] at h8
    obtain ⟨k, hk⟩ : ∃ k, 14 - N = k + 1 := ⟨13 - N, by omega⟩
    rw [hk] at hd
    unfold dText at hd
    obtain ⟨f2, K2⟩ := (g13 rfl rfl b E).1 A _ _ _ K1
    cases hR : dLine b E (nf + dFs os) (nt + dTs os) A with
    | inr F =>
      rw [hR] at K2 hd
      obtain ⟨rfl, -⟩ := K2.go g14
      exact ⟨f1.tr f2, Or.inr ⟨F, hd, K2⟩⟩
    | inl q =>
      obtain ⟨A1, o⟩ := q
      rw [hR] at K2 hd
      obtain ⟨rfl, -, g2⟩ := K2.go g14
      dsimp only at hd
      rw [if_pos (g2 h15)] at hd
      have hap : dApp (nf + dFs os) (nt + dTs os) (dApps os nf nt H) o = dApps (os ++ [o]) nf nt H := (dApps_app os [o] nf nt H).symm
      have d1 : nf + dFs os + dF1 o = nf + dFs (os ++ [o]) := by rw [dFs_app, Nat.add_assoc]; rfl
      have d2 : nt + dTs os + dT1 o = nt + dTs (os ++ [o]) := by rw [dTs_app, Nat.add_assoc]; rfl
      have K3 : cR τ14 b A1 E (nf + dFs os + dF1 o) (nt + dTs os + dT1 o) (dApp (nf + dFs os) (nt + dTs os) (dApps os nf nt H) o) := K2
      rw [hap, d1, d2] at K3
      exact ⟨f1.tr f2, Or.inl ⟨A1, os ++ [o], N + 1, o32i (by omega), by omega, K3, Or.inr ⟨h15, hd⟩⟩⟩
  · exact absurd h.1 h3
  · obtain ⟨f2, K2⟩ := (g13 rfl rfl b E).2 F K1
    obtain ⟨rfl, -⟩ := K2.go g14
    exact ⟨f1.tr f2, Or.inr ⟨F, hd, K2⟩⟩
theorem sp_0_c7_fff (a0 : Nat) (a1 : Nat) (σ : zSg) (l0 : Nat) (l1 : Nat) (l2 : Int32) (l3 : Int32) (τ : zSg) (τ13 : zSg) (τ14 : zSg) (r14 : Int32) (τ16 : zSg) (hI : i_0 a0 a1 σ l0 l1 l2 l3 τ) (h3 : l2.toInt ≠ (0 : Int)) (h8 : l3.toInt < (14 : Int)) (g13 : p_1 l0 l1 τ τ13) (g14 : p_89 l1 τ13 r14 τ14) (h15 : r14.toInt ≠ (0 : Int)) (g16 : p_94 l1 (Int32.ofInt (59)) τ14 τ16) :
    i_0 a0 a1 σ l0 l1 r14 (l3 + Int32.ofInt (1)) τ16 := by
  obtain ⟨rfl, rfl, hI⟩ := hI
  refine ⟨rfl, rfl, ?_⟩
  rintro rfl rfl b E nf nt H K
  obtain ⟨f1, ⟨A, os, N, rfl, hN, K1, ⟨h, hd⟩ | h⟩ | ⟨F, hd, K1⟩⟩ := hI rfl rfl b E nf nt H K
  · rw [o32 (by omega)] at h8
    obtain ⟨k, hk⟩ : ∃ k, 14 - N = k + 1 := ⟨13 - N, by omega⟩
    rw [hk] at hd
    unfold dText at hd
    obtain ⟨f2, K2⟩ := (g13 rfl rfl b E).1 A _ _ _ K1
    cases hR : dLine b E (nf + dFs os) (nt + dTs os) A with
    | inr F =>
      rw [hR] at K2 hd
      exact absurd (K2.go g14).2 h15
    | inl q =>
      obtain ⟨A1, o⟩ := q
      rw [hR] at K2 hd
      obtain ⟨rfl, g1, -⟩ := K2.go g14
      dsimp only at hd
      rw [if_neg (g1 h15)] at hd
      have hap : dApp (nf + dFs os) (nt + dTs os) (dApps os nf nt H) o = dApps (os ++ [o]) nf nt H := (dApps_app os [o] nf nt H).symm
      have d1 : nf + dFs os + dF1 o = nf + dFs (os ++ [o]) := by rw [dFs_app, Nat.add_assoc]; rfl
      have d2 : nt + dTs os + dT1 o = nt + dTs (os ++ [o]) := by rw [dTs_app, Nat.add_assoc]; rfl
      have K3 : cR τ14 b A1 E (nf + dFs os + dF1 o) (nt + dTs os + dT1 o) (dApp (nf + dFs os) (nt + dTs os) (dApps os nf nt H) o) := K2
      rw [hap, d1, d2] at K3
      obtain ⟨f3, u3, v3⟩ := K3.ns g16 (by decide) (by decide)
      rw [show (Int32.ofInt 59).toInt = 59 from rfl] at u3 v3
      cases hs : ts b E 59 A1 with
      | none =>
        rw [hs] at hd
        exact ⟨(f1.tr f2).tr f3, Or.inr ⟨A1, hd, v3 hs⟩⟩
      | some A2 =>
        rw [hs] at hd
        dsimp only at hd
        rw [d1, d2] at hd
        exact ⟨(f1.tr f2).tr f3, Or.inl ⟨A2, os ++ [o], N + 1, o32i (by omega), by omega, u3 A2 hs, Or.inl ⟨h15, by rw [hd, show 14 - (N + 1) = k by omega]⟩⟩⟩
  · exact absurd h.1 h3
  · obtain ⟨f2, K2⟩ := (g13 rfl rfl b E).2 F K1
    exact absurd (K2.go g14).2 h15
noncomputable def qP_0 : zPp := fun as σ o σ' => match as with
  | [a0, a1] => ∃ r, o = .inl (some (.int r)) ∧ p_0 (q_r a0) (q_r a1) σ r σ'
  | _ => True
set_option maxRecDepth 100000 in
theorem sp_0 {sx : zX} (S87 : zEe sx 87 1 qP_87) (S89 : zEe sx 89 1 qP_89) (S88 : zEe sx 88 1 qP_88) (S90 : zEe sx 90 1 qP_90) (S1 : zEe sx 1 2 qP_1) (S94 : zEe sx 94 2 qP_94) : zEe sx 0 2 qP_0 := by
  refine zfle zJ_0 (sps := [(87, 1, qP_87), (89, 1, qP_89), (88, 1, qP_88), (90, 1, qP_90), (1, 2, qP_1), (94, 2, qP_94)]) (fun q hq => by
    simp only [List.mem_cons, List.not_mem_nil, or_false] at hq
    rcases hq with rfl | rfl | rfl | rfl | rfl | rfl
    · exact S87
    · exact S89
    · exact S88
    · exact S90
    · exact S1
    · exact S94) (fun as σ hl => ?_)
  match as, hl with
  | [a0, a1], _ =>
  refine ⟨[(7, fun lo st τ => st = [] ∧ i_0 (q_r a0) (q_r a1) σ (q_r (lo 0)) (q_r (lo 1)) (q_i (lo 2)) (q_i (lo 3)) τ)], 400, ?_, ?_⟩
  · intro q hq
    simp only [List.mem_cons, List.not_mem_nil, or_false] at hq
    rcases hq with rfl
    · rintro lo st τ ⟨rfl, hI⟩
      refine ⟨400, ?_⟩
      refine And.intro (fun h3 => ?_) (fun h3 => ?_)
      · refine And.intro (fun h4 => ?_) (fun h4 => ?_)
        · refine fun o5 τ5 g5 => ?_
          obtain ⟨r5, rfl, g5⟩ := g5
          exact ⟨_, rfl, sp_0_c7_tt (q_r a0) (q_r a1) σ (q_r (lo 0)) (q_r (lo 1)) (q_i (lo 2)) (q_i (lo 3)) τ τ5 r5 hI (cm0t h3) (cm0t h4) g5⟩
        · refine fun o6 τ6 g6 => ?_
          obtain ⟨rfl, g6⟩ := g6
          refine fun o7 τ7 g7 => ?_
          obtain ⟨r7, rfl, g7⟩ := g7
          exact ⟨_, rfl, sp_0_c7_tf (q_r a0) (q_r a1) σ (q_r (lo 0)) (q_r (lo 1)) (q_i (lo 2)) (q_i (lo 3)) τ τ6 τ7 r7 hI (cm0t h3) (cm0f h4) g6 g7⟩
      · refine And.intro (fun h8 => ?_) (fun h8 => ?_)
        · refine And.intro (fun h9 => ?_) (fun h9 => ?_)
          · refine fun o10 τ10 g10 => ?_
            obtain ⟨r10, rfl, g10⟩ := g10
            exact ⟨_, rfl, sp_0_c7_ftt (q_r a0) (q_r a1) σ (q_r (lo 0)) (q_r (lo 1)) (q_i (lo 2)) (q_i (lo 3)) τ τ10 r10 hI (cm0f h3) (cm3t h8) (cm0t h9) g10⟩
          · refine fun o11 τ11 g11 => ?_
            obtain ⟨rfl, g11⟩ := g11
            refine fun o12 τ12 g12 => ?_
            obtain ⟨r12, rfl, g12⟩ := g12
            exact ⟨_, rfl, sp_0_c7_ftf (q_r a0) (q_r a1) σ (q_r (lo 0)) (q_r (lo 1)) (q_i (lo 2)) (q_i (lo 3)) τ τ11 τ12 r12 hI (cm0f h3) (cm3t h8) (cm0f h9) g11 g12⟩
        · refine fun o13 τ13 g13 => ?_
          obtain ⟨rfl, g13⟩ := g13
          refine fun o14 τ14 g14 => ?_
          obtain ⟨r14, rfl, g14⟩ := g14
          refine And.intro (fun h15 => ?_) (fun h15 => ?_)
          · exact ⟨rfl, sp_0_c7_fft (q_r a0) (q_r a1) σ (q_r (lo 0)) (q_r (lo 1)) (q_i (lo 2)) (q_i (lo 3)) τ τ13 τ14 r14 hI (cm0f h3) (cm3f h8) g13 g14 (cm0t h15)⟩
          · refine fun o16 τ16 g16 => ?_
            obtain ⟨rfl, g16⟩ := g16
            exact ⟨rfl, sp_0_c7_fff (q_r a0) (q_r a1) σ (q_r (lo 0)) (q_r (lo 1)) (q_i (lo 2)) (q_i (lo 3)) τ τ13 τ14 r14 τ16 hI (cm0f h3) (cm3f h8) g13 g14 (cm0f h15) g16⟩
  · refine fun o1 τ1 g1 => ?_
    obtain ⟨rfl, g1⟩ := g1
    refine fun o2 τ2 g2 => ?_
    obtain ⟨r2, rfl, g2⟩ := g2
    exact ⟨rfl, sp_0_e (q_r a0) (q_r a1) σ τ1 τ2 r2 g1 g2⟩
end
