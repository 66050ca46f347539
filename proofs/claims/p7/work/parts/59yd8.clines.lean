/-! the class's lines of a deed, exact; printed with wip/gen/gen_d5.py -/
theorem cR.cg {σ : zSg} {b : Nat → Int} {A E nf nt : Nat} {H H' : Nat → Int32} (K : cR σ b A E nf nt H) (h : ∀ k, k < 388 → H k = H' k) : cR σ b A E nf nt H' := ⟨K.1, K.2.1, K.2.2.1, K.2.2.2.1, K.2.2.2.2.1.cg h, K.2.2.2.2.2.cg (h 0 (by omega)).symm (h 1 (by omega)).symm (fun t _ => (h _ (by omega)).symm)⟩
theorem zJ_4 : zJ3 4 z_m4 z_c4 z_h4 := ⟨rfl, rfl, rfl⟩
noncomputable def p_4 (h a : Nat) (σ σ' : zSg) : Prop := h = 21 → a = 1 → ∀ b E, (∀ A nf nt H, cR σ b A E nf nt H → nt < 8 → cDF σ σ' ∧ cOL σ' b E nf nt H (dTh b E nf A)) ∧ (∀ F, cQ σ b E F → cDF σ σ' ∧ cQ σ' b E F)
theorem sp_4_e (a0 : Nat) (a1 : Nat) (σ : zSg) (τ1 : zSg) (r1 : Int32) (τ2 : zSg) (τ3 : zSg) (r3 : Int32) (τ4 : zSg) (r4 : Int32) (τ5 : zSg) (g1 : p_5 a0 a1 σ r1 τ1) (g2 : p_92 a1 (zB + 24) τ1 τ2) (g3 : p_96 a1 (Int32.ofInt (1)) (Int32.ofInt (9)) τ2 r3 τ3) (g4 : p_91 a1 (zB + 25) τ3 r4 τ4) (g5 : p_104 (q_r (τ3.1 a0 2)) r1 r3 r4 τ4 τ5) :
    p_4 (a0) (a1) σ τ5 := by
  rintro rfl rfl b E
  obtain ⟨gR, gQ⟩ := g1 rfl rfl b E
  refine ⟨fun A nf nt H K hn => ?_, fun F K => ?_⟩
  · unfold dTh
    obtain ⟨f1, ⟨A1, f, h1, e1, K1⟩ | ⟨h1, K1⟩⟩ := gR A nf nt H K
    · rw [h1]
      dsimp only
      obtain ⟨f2, K2⟩ := K1.af g2 g3 zwk_24 qsi_24 (by decide)
      rw [show (Int32.ofInt 1).toInt = 1 from rfl, show (Int32.ofInt 9).toInt = 9 from rfl] at K2
      cases h2 : dAf b E wBulk 1 9 A1 with
      | inr F =>
        rw [h2] at K2
        obtain ⟨-, rfl⟩ := K2.tk g4 zwk_25
        rw [K2.k.2] at g5
        obtain ⟨f3, K3⟩ := K2.br g5
        exact ⟨(f1.tr f2).tr f3, K3⟩
      | inl q =>
        obtain ⟨A2, v⟩ := q
        rw [h2] at K2
        obtain ⟨e2, K2⟩ := K2
        dsimp only
        rw [K2.k.2] at g5
        obtain ⟨f3, u3, v3⟩ := K2.tk g4 zwk_25 qsi_25
        by_cases hx : r4.toInt = 0
        · obtain ⟨h3, rfl⟩ := v3 hx
          rw [h3]
          have hc := K2.2.2.2.2.2
          obtain ⟨g1, -, g2⟩ := g5 21 H nt rfl K2.2.2.2.2.1 hc.2.2.1 hc.2.2.2.1
          have g3 := (g2 hn).2 hx
          rw [hc.2.2.2.2 nt (by omega) hn, e1, e2] at g3
          have K4 := K2.hs g1 g3 (hc.br hn)
          exact ⟨(f1.tr f2).tr (cDF.of g1), K4⟩
        · obtain ⟨A3, h3, K3⟩ := u3 hx
          rw [h3]
          have hc := K3.2.2.2.2.2
          obtain ⟨g1, -, g2⟩ := g5 21 H nt rfl K3.2.2.2.2.1 hc.2.2.1 hc.2.2.2.1
          have g3 := (g2 hn).1 hx
          rw [e1, e2] at g3
          have K4 := K3.hs g1 g3 (hc.br hn)
          exact ⟨((f1.tr f2).tr f3).tr (cDF.of g1), K4⟩
    · rw [h1]
      dsimp only
      obtain ⟨f2, K2⟩ := K1.af g2 g3 zwk_24 (by decide)
      obtain ⟨-, rfl⟩ := K2.tk g4 zwk_25
      rw [K2.k.2] at g5
      obtain ⟨f3, K3⟩ := K2.br g5
      exact ⟨(f1.tr f2).tr f3, K3⟩
  · obtain ⟨f1, K1⟩ := gQ F K
    obtain ⟨f2, K2⟩ := K1.af g2 g3 zwk_24 (by decide)
    obtain ⟨-, rfl⟩ := K2.tk g4 zwk_25
    rw [K2.k.2] at g5
    obtain ⟨f3, K3⟩ := K2.br g5
    exact ⟨(f1.tr f2).tr f3, K3⟩
noncomputable def qP_4 : zPp := fun as σ o σ' => match as with
  | [a0, a1] => o = .inl none ∧ p_4 (q_r a0) (q_r a1) σ σ'
  | _ => True
set_option maxRecDepth 100000 in
theorem sp_4 {sx : zX} (S5 : zEe sx 5 2 qP_5) (S92 : zEe sx 92 2 qP_92) (S96 : zEe sx 96 3 qP_96) (S91 : zEe sx 91 2 qP_91) (S104 : zEe sx 104 4 qP_104) : zEe sx 4 2 qP_4 := by
  refine zfle zJ_4 (sps := [(5, 2, qP_5), (92, 2, qP_92), (96, 3, qP_96), (91, 2, qP_91), (104, 4, qP_104)]) (fun q hq => by
    simp only [List.mem_cons, List.not_mem_nil, or_false] at hq
    rcases hq with rfl | rfl | rfl | rfl | rfl
    · exact S5
    · exact S92
    · exact S96
    · exact S91
    · exact S104) (fun as σ hl => ?_)
  match as, hl with
  | [a0, a1], _ =>
  refine ⟨[], 400, ?_, ?_⟩
  · exact fun q hq => absurd hq List.not_mem_nil
  · refine fun o1 τ1 g1 => ?_
    obtain ⟨r1, rfl, g1⟩ := g1
    refine fun o2 τ2 g2 => ?_
    obtain ⟨rfl, g2⟩ := g2
    refine fun o3 τ3 g3 => ?_
    obtain ⟨r3, rfl, g3⟩ := g3
    refine fun o4 τ4 g4 => ?_
    obtain ⟨r4, rfl, g4⟩ := g4
    refine fun o5 τ5 g5 => ?_
    obtain ⟨rfl, g5⟩ := g5
    exact ⟨rfl, sp_4_e (q_r a0) (q_r a1) σ τ1 r1 τ2 τ3 r3 τ4 r4 τ5 g1 g2 g3 g4 g5⟩
noncomputable def dP3 (b : Nat → Int) (E A : Nat) : (Nat × Nat × Nat × Nat) ⊕ Nat := match dAf b E wPurse 0 999 A with
  | .inr F => .inr F
  | .inl (A1, p) => (match dAf b E wDust 0 9 A1 with
    | .inr F => .inr F
    | .inl (A2, d) => (match dAf b E wStove 0 9 A2 with
      | .inr F => .inr F
      | .inl (A3, s) => .inl (A3, p, d, s)))
theorem dFam_3 {b : Nat → Int} {E A : Nat} : dFam b E A = match dP3 b E A with
  | .inr F => .inr F
  | .inl (A3, p, d, s) => (match dOh b E wHours A3 with
    | .inr F => .inr F
    | .inl (A4, q) => (match dOh b E wWishes A4 with
      | .inr F => .inr F
      | .inl (A5, w) => .inl (A5, (0, (p, d, s), q, w)))) := by
  unfold dFam dP3
  cases dAf b E wPurse 0 999 A with
  | inr F => rfl
  | inl q =>
    dsimp only
    cases dAf b E wDust 0 9 q.1 with
    | inr F => rfl
    | inl r =>
      dsimp only
      cases dAf b E wStove 0 9 r.1 with
      | inr F => rfl
      | inl s => rfl
theorem dG_0 {H : Nat → Int32} {f : Int32} (k : Nat) : H k = dG H (Int32.ofInt 0) f k := by
  unfold dG
  rw [if_neg]
  rintro ⟨h1, h2, h3⟩
  have : (List.range 24).all (fun n => !btb (Int32.ofInt 0) (Int32.ofNat n)) = true := by decide +kernel
  have h4 := List.all_eq_true.mp this (k - 16) (List.mem_range.mpr (by omega))
  rw [h3] at h4
  cases h4
theorem fam_eq {H : Nat → Int32} {nf nt p d s : Nat} {q w : Int32} (hn : nf < 6) (k : Nat) : aU (dG (dFd H nf (Int32.ofNat p) (Int32.ofNat d) (Int32.ofNat s)) q (Int32.ofNat nf)) (43 + 4 * nf) (dG (dFd H nf (Int32.ofNat p) (Int32.ofNat d) (Int32.ofNat s)) q (Int32.ofNat nf) (43 + 4 * nf) ||| w) k = dApp nf nt H (0, (p, d, s), q, w) k := by
  show _ = aU (dG (aU (aU (aU (aU H (40 + 4 * nf) (Int32.ofNat p)) (41 + 4 * nf) (Int32.ofNat d)) (42 + 4 * nf) (Int32.ofNat s)) (43 + 4 * nf) w) q (Int32.ofNat nf)) 0 (Int32.ofNat (nf + 1)) k
  by_cases h : k = 43 + 4 * nf
  · rw [h, aU_at, aU_ne (by omega), dG_ne (by omega), dG_ne (by omega), aU_at]
    unfold dFd
    rw [aU_ne (by omega), aU_at]
    exact Int32.zero_or
  · rw [aU_ne h]
    by_cases h0 : k = 0
    · rw [h0, aU_at, dG_ne (by omega)]
      exact aU_at
    · rw [aU_ne h0]
      unfold dG
      by_cases hc : 16 ≤ k ∧ k < 40 ∧ btb q (Int32.ofNat (k - 16)) = true
      · rw [if_pos hc, if_pos hc]
      · rw [if_neg hc, if_neg hc]
        unfold dFd
        rw [aU_ne h0, aU_ne h, aU_ne h]
theorem wi_0 {H : Nat → Int32} {i : Nat} (k : Nat) : H k = aU H i (H i ||| Int32.ofInt 0) k := by
  by_cases h : k = i
  · rw [h, aU_at]
    exact Int32.or_zero.symm
  · rw [aU_ne h]
section FAM
variable {σ S1 S2 S3 S4 S5 S6 S7 : zSg} {b : Nat → Int} {E : Nat} {X1 X2 X3 X4 : Int32}
theorem fam7 {A nf nt : Nat} {H : Nat → Int32} (K : cR σ b A E nf nt H) (hn : nf < 6) (C1 : p_92 1 (zB + 21) σ S1) (C2 : p_96 1 (Int32.ofInt 0) (Int32.ofInt 999) S1 X1 S2) (C3 : p_92 1 (zB + 22) S2 S3) (C4 : p_96 1 (Int32.ofInt 0) (Int32.ofInt 9) S3 X2 S4) (C5 : p_92 1 (zB + 23) S4 S5) (C6 : p_96 1 (Int32.ofInt 0) (Int32.ofInt 9) S5 X3 S6) (C7 : p_12 (q_r (S6.1 21 1)) X1 X2 X3 S6 X4 S7) : cDF σ S7 ∧ (match dP3 b E A with
    | .inl (A3, p, d, s) => X4 = Int32.ofNat nf ∧ cR S7 b A3 E (nf + 1) nt (dFd H nf (Int32.ofNat p) (Int32.ofNat d) (Int32.ofNat s))
    | .inr F => cQ S7 b E F) := by
  obtain ⟨f1, K1⟩ := K.af C1 C2 zwk_21 qsi_21 (by decide)
  rw [show (Int32.ofInt 0).toInt = 0 from rfl, show (Int32.ofInt 999).toInt = 999 from rfl] at K1
  unfold dP3
  cases h1 : dAf b E wPurse 0 999 A with
  | inr F =>
    rw [h1] at K1
    obtain ⟨f2, K2⟩ := K1.af C3 C4 zwk_22 (by decide)
    obtain ⟨f3, K3⟩ := K2.af C5 C6 zwk_23 (by decide)
    rw [K3.k.1] at C7
    obtain ⟨f4, K4⟩ := K3.fd C7
    exact ⟨((f1.tr f2).tr f3).tr f4, K4⟩
  | inl q =>
  obtain ⟨A1, p⟩ := q
  rw [h1] at K1
  obtain ⟨e1, K1⟩ := K1
  dsimp only
  obtain ⟨f2, K2⟩ := K1.af C3 C4 zwk_22 qsi_22 (by decide)
  rw [show (Int32.ofInt 0).toInt = 0 from rfl, show (Int32.ofInt 9).toInt = 9 from rfl] at K2
  cases h2 : dAf b E wDust 0 9 A1 with
  | inr F =>
    rw [h2] at K2
    obtain ⟨f3, K3⟩ := K2.af C5 C6 zwk_23 (by decide)
    rw [K3.k.1] at C7
    obtain ⟨f4, K4⟩ := K3.fd C7
    exact ⟨((f1.tr f2).tr f3).tr f4, K4⟩
  | inl q =>
  obtain ⟨A2, d⟩ := q
  rw [h2] at K2
  obtain ⟨e2, K2⟩ := K2
  dsimp only
  obtain ⟨f3, K3⟩ := K2.af C5 C6 zwk_23 qsi_23 (by decide)
  rw [show (Int32.ofInt 0).toInt = 0 from rfl, show (Int32.ofInt 9).toInt = 9 from rfl] at K3
  cases h3 : dAf b E wStove 0 9 A2 with
  | inr F =>
    rw [h3] at K3
    rw [K3.k.1] at C7
    obtain ⟨f4, K4⟩ := K3.fd C7
    exact ⟨((f1.tr f2).tr f3).tr f4, K4⟩
  | inl q =>
  obtain ⟨A3, s⟩ := q
  rw [h3] at K3
  obtain ⟨e3, K3⟩ := K3
  rw [K3.k.1] at C7
  have hc := K3.2.2.2.2.2
  obtain ⟨g1, -, g2⟩ := C7 21 H nf rfl K3.2.2.2.2.1 hc.1 hc.2.1
  obtain ⟨g3, g4⟩ := g2 hn
  rw [e1, e2, e3] at g4
  exact ⟨((f1.tr f2).tr f3).tr (cDF.of g1), g3, K3.hs g1 g4 (hc.fd hn)⟩
theorem fam7q {F : Nat} (K : cQ σ b E F) (C1 : p_92 1 (zB + 21) σ S1) (C2 : p_96 1 (Int32.ofInt 0) (Int32.ofInt 999) S1 X1 S2) (C3 : p_92 1 (zB + 22) S2 S3) (C4 : p_96 1 (Int32.ofInt 0) (Int32.ofInt 9) S3 X2 S4) (C5 : p_92 1 (zB + 23) S4 S5) (C6 : p_96 1 (Int32.ofInt 0) (Int32.ofInt 9) S5 X3 S6) (C7 : p_12 (q_r (S6.1 21 1)) X1 X2 X3 S6 X4 S7) : cDF σ S7 ∧ cQ S7 b E F := by
  obtain ⟨f1, K1⟩ := K.af C1 C2 zwk_21 (by decide)
  obtain ⟨f2, K2⟩ := K1.af C3 C4 zwk_22 (by decide)
  obtain ⟨f3, K3⟩ := K2.af C5 C6 zwk_23 (by decide)
  rw [K3.k.1] at C7
  obtain ⟨f4, K4⟩ := K3.fd C7
  exact ⟨((f1.tr f2).tr f3).tr f4, K4⟩
end FAM
section OPT
variable {σ S1 S2 S3 : zSg} {b : Nat → Int} {E : Nat} {x y f : Int32}
theorem oh_n {A nf nt w : Nat} {z : List Int} {H : Nat → Int32} (K : cR σ b A E nf nt H) (C1 : p_91 1 w σ x S1) (hw : zwk w) (hz : q_si w = z) (B : x.toInt = 0) : S1 = σ ∧ dOh b E z A = .inl (A, Int32.ofInt 0) := by
  obtain ⟨-, -, v⟩ := K.tk C1 hw hz
  obtain ⟨h1, h2⟩ := v B
  exact ⟨h2, by unfold dOh; rw [h1]; rfl⟩
theorem oh_y {A nf nt w : Nat} {z : List Int} {H : Nat → Int32} (K : cR σ b A E nf nt H) (C1 : p_91 1 w σ x S1) (C2 : p_6 1 S1 y S2) (hw : zwk w) (hz : q_si w = z) (B : x.toInt ≠ 0) : cDF σ S2 ∧ cOB S2 b E nf nt H y (dOh b E z A) := by
  obtain ⟨f1, u, -⟩ := K.tk C1 hw hz
  obtain ⟨A1, h1, K1⟩ := u B
  obtain ⟨f2, K2⟩ := (C2 rfl b E).1 A1 nf nt H K1
  refine ⟨f1.tr f2, ?_⟩
  unfold dOh
  rw [h1]
  exact K2
end OPT
theorem zJ_3 : zJ3 3 z_m3 z_c3 z_h3 := ⟨rfl, rfl, rfl⟩
noncomputable def p_3 (h a : Nat) (σ σ' : zSg) : Prop := h = 21 → a = 1 → ∀ b E, (∀ A nf nt H, cR σ b A E nf nt H → nf < 6 → cDF σ σ' ∧ cOL σ' b E nf nt H (dFam b E A)) ∧ (∀ F, cQ σ b E F → cDF σ σ' ∧ cQ σ' b E F)
theorem sp_3_ett (a0 : Nat) (a1 : Nat) (σ : zSg) (τ1 : zSg) (τ2 : zSg) (r2 : Int32) (τ3 : zSg) (τ4 : zSg) (r4 : Int32) (τ5 : zSg) (τ6 : zSg) (r6 : Int32) (τ7 : zSg) (r7 : Int32) (τ8 : zSg) (r8 : Int32) (τ10 : zSg) (r10 : Int32) (g1 : p_92 a1 (zB + 21) σ τ1) (g2 : p_96 a1 (Int32.ofInt (0)) (Int32.ofInt (999)) τ1 r2 τ2) (g3 : p_92 a1 (zB + 22) τ2 τ3) (g4 : p_96 a1 (Int32.ofInt (0)) (Int32.ofInt (9)) τ3 r4 τ4) (g5 : p_92 a1 (zB + 23) τ4 τ5) (g6 : p_96 a1 (Int32.ofInt (0)) (Int32.ofInt (9)) τ5 r6 τ6) (g7 : p_12 (q_r (τ6.1 a0 1)) r2 r4 r6 τ6 r7 τ7) (g8 : p_91 a1 (zB + 13) τ7 r8 τ8) (h9 : r8.toInt = (0 : Int)) (g10 : p_91 a1 (zB + 15) τ8 r10 τ10) (h11 : r10.toInt = (0 : Int)) :
    p_3 (a0) (a1) σ τ10 := by
  rintro rfl rfl b E
  refine ⟨fun A nf nt H K hn => ?_, fun F K => ?_⟩
  · rw [dFam_3]
    obtain ⟨f1, K1⟩ := fam7 K hn g1 g2 g3 g4 g5 g6 g7
    cases h1 : dP3 b E A with
    | inr F =>
      rw [h1] at K1
      obtain ⟨-, rfl⟩ := K1.tk g8 zwk_13
      obtain ⟨-, rfl⟩ := K1.tk g10 zwk_15
      exact ⟨f1, K1⟩
    | inl q =>
    obtain ⟨A3, p, d, s⟩ := q
    rw [h1] at K1
    obtain ⟨e4, K1⟩ := K1
    subst e4
    dsimp only
    obtain ⟨rfl, h2⟩ := oh_n K1 g8 zwk_13 qsi_13 h9
    rw [h2]
    have K3 := K1.cg (fun k _ => dG_0 (f := Int32.ofNat nf) k)
    have f3 := f1
    dsimp only
    obtain ⟨rfl, h3⟩ := oh_n K3 g10 zwk_15 qsi_15 h11
    rw [h3]
    exact ⟨f3, (K3.cg (fun k _ => wi_0 (i := 43 + 4 * nf) k)).cg (fun k _ => fam_eq hn k)⟩
  · obtain ⟨f1, K1⟩ := fam7q K g1 g2 g3 g4 g5 g6 g7
    obtain ⟨-, rfl⟩ := K1.tk g8 zwk_13
    obtain ⟨-, rfl⟩ := K1.tk g10 zwk_15
    exact ⟨f1, K1⟩
theorem sp_3_etf (a0 : Nat) (a1 : Nat) (σ : zSg) (τ1 : zSg) (τ2 : zSg) (r2 : Int32) (τ3 : zSg) (τ4 : zSg) (r4 : Int32) (τ5 : zSg) (τ6 : zSg) (r6 : Int32) (τ7 : zSg) (r7 : Int32) (τ8 : zSg) (r8 : Int32) (τ10 : zSg) (r10 : Int32) (τ12 : zSg) (r12 : Int32) (τ13 : zSg) (g1 : p_92 a1 (zB + 21) σ τ1) (g2 : p_96 a1 (Int32.ofInt (0)) (Int32.ofInt (999)) τ1 r2 τ2) (g3 : p_92 a1 (zB + 22) τ2 τ3) (g4 : p_96 a1 (Int32.ofInt (0)) (Int32.ofInt (9)) τ3 r4 τ4) (g5 : p_92 a1 (zB + 23) τ4 τ5) (g6 : p_96 a1 (Int32.ofInt (0)) (Int32.ofInt (9)) τ5 r6 τ6) (g7 : p_12 (q_r (τ6.1 a0 1)) r2 r4 r6 τ6 r7 τ7) (g8 : p_91 a1 (zB + 13) τ7 r8 τ8) (h9 : r8.toInt = (0 : Int)) (g10 : p_91 a1 (zB + 15) τ8 r10 τ10) (h11 : r10.toInt ≠ (0 : Int)) (g12 : p_6 a1 τ10 r12 τ12) (g13 : p_13 (q_r (τ10.1 a0 1)) r7 r12 τ12 τ13) :
    p_3 (a0) (a1) σ τ13 := by
  rintro rfl rfl b E
  refine ⟨fun A nf nt H K hn => ?_, fun F K => ?_⟩
  · rw [dFam_3]
    obtain ⟨f1, K1⟩ := fam7 K hn g1 g2 g3 g4 g5 g6 g7
    cases h1 : dP3 b E A with
    | inr F =>
      rw [h1] at K1
      obtain ⟨-, rfl⟩ := K1.tk g8 zwk_13
      exact absurd (K1.tk g10 zwk_15).1 h11
    | inl q =>
    obtain ⟨A3, p, d, s⟩ := q
    rw [h1] at K1
    obtain ⟨e4, K1⟩ := K1
    subst e4
    dsimp only
    obtain ⟨rfl, h2⟩ := oh_n K1 g8 zwk_13 qsi_13 h9
    rw [h2]
    have K3 := K1.cg (fun k _ => dG_0 (f := Int32.ofNat nf) k)
    have f3 := f1
    dsimp only
    have kS9 : q_r (τ10.1 21 1) = 23 := by
      obtain ⟨-, u9, -⟩ := K3.tk g10 zwk_15 qsi_15
      obtain ⟨A9, -, K9⟩ := u9 h11
      exact K9.k.1
    obtain ⟨f4, K4⟩ := oh_y K3 g10 g12 zwk_15 qsi_15 h11
    cases h3 : dOh b E wWishes A3 with
    | inr F =>
      rw [h3] at K4
      rw [kS9] at g13
      obtain ⟨f5, K5⟩ := K4.aw g13
      exact ⟨(f3.tr f4).tr f5, K5⟩
    | inl q =>
    obtain ⟨A5, w⟩ := q
    rw [h3] at K4
    obtain ⟨e6, K4⟩ := K4
    subst e6
    rw [kS9] at g13
    obtain ⟨f5, K5⟩ := K4.aw g13 (by omega)
    exact ⟨(f3.tr f4).tr f5, K5.cg (fun k _ => fam_eq hn k)⟩
  · obtain ⟨f1, K1⟩ := fam7q K g1 g2 g3 g4 g5 g6 g7
    obtain ⟨-, rfl⟩ := K1.tk g8 zwk_13
    exact absurd (K1.tk g10 zwk_15).1 h11
theorem sp_3_eft (a0 : Nat) (a1 : Nat) (σ : zSg) (τ1 : zSg) (τ2 : zSg) (r2 : Int32) (τ3 : zSg) (τ4 : zSg) (r4 : Int32) (τ5 : zSg) (τ6 : zSg) (r6 : Int32) (τ7 : zSg) (r7 : Int32) (τ8 : zSg) (r8 : Int32) (τ14 : zSg) (r14 : Int32) (τ15 : zSg) (τ16 : zSg) (r16 : Int32) (g1 : p_92 a1 (zB + 21) σ τ1) (g2 : p_96 a1 (Int32.ofInt (0)) (Int32.ofInt (999)) τ1 r2 τ2) (g3 : p_92 a1 (zB + 22) τ2 τ3) (g4 : p_96 a1 (Int32.ofInt (0)) (Int32.ofInt (9)) τ3 r4 τ4) (g5 : p_92 a1 (zB + 23) τ4 τ5) (g6 : p_96 a1 (Int32.ofInt (0)) (Int32.ofInt (9)) τ5 r6 τ6) (g7 : p_12 (q_r (τ6.1 a0 1)) r2 r4 r6 τ6 r7 τ7) (g8 : p_91 a1 (zB + 13) τ7 r8 τ8) (h9 : r8.toInt ≠ (0 : Int)) (g14 : p_6 a1 τ8 r14 τ14) (g15 : p_29 a0 r14 r7 τ14 τ15) (g16 : p_91 a1 (zB + 15) τ15 r16 τ16) (h17 : r16.toInt = (0 : Int)) :
    p_3 (a0) (a1) σ τ16 := by
  rintro rfl rfl b E
  refine ⟨fun A nf nt H K hn => ?_, fun F K => ?_⟩
  · rw [dFam_3]
    obtain ⟨f1, K1⟩ := fam7 K hn g1 g2 g3 g4 g5 g6 g7
    cases h1 : dP3 b E A with
    | inr F =>
      rw [h1] at K1
      exact absurd (K1.tk g8 zwk_13).1 h9
    | inl q =>
    obtain ⟨A3, p, d, s⟩ := q
    rw [h1] at K1
    obtain ⟨e4, K1⟩ := K1
    subst e4
    dsimp only
    obtain ⟨f2, K2⟩ := oh_y K1 g8 g14 zwk_13 qsi_13 h9
    cases h2 : dOh b E wHours A3 with
    | inr F =>
      rw [h2] at K2
      obtain ⟨f3, K3⟩ := K2.gh g15
      obtain ⟨-, rfl⟩ := K3.tk g16 zwk_15
      exact ⟨((f1.tr f2).tr f3), K3⟩
    | inl q =>
    obtain ⟨A4, q⟩ := q
    rw [h2] at K2
    obtain ⟨e5, K2⟩ := K2
    subst e5
    obtain ⟨f3, K3⟩ := K2.gh g15
    have f3 := (f1.tr f2).tr f3
    dsimp only
    obtain ⟨rfl, h3⟩ := oh_n K3 g16 zwk_15 qsi_15 h17
    rw [h3]
    exact ⟨f3, (K3.cg (fun k _ => wi_0 (i := 43 + 4 * nf) k)).cg (fun k _ => fam_eq hn k)⟩
  · obtain ⟨f1, K1⟩ := fam7q K g1 g2 g3 g4 g5 g6 g7
    exact absurd (K1.tk g8 zwk_13).1 h9
theorem sp_3_eff (a0 : Nat) (a1 : Nat) (σ : zSg) (τ1 : zSg) (τ2 : zSg) (r2 : Int32) (τ3 : zSg) (τ4 : zSg) (r4 : Int32) (τ5 : zSg) (τ6 : zSg) (r6 : Int32) (τ7 : zSg) (r7 : Int32) (τ8 : zSg) (r8 : Int32) (τ14 : zSg) (r14 : Int32) (τ15 : zSg) (τ16 : zSg) (r16 : Int32) (τ18 : zSg) (r18 : Int32) (τ19 : zSg) (g1 : p_92 a1 (zB + 21) σ τ1) (g2 : p_96 a1 (Int32.ofInt (0)) (Int32.ofInt (999)) τ1 r2 τ2) (g3 : p_92 a1 (zB + 22) τ2 τ3) (g4 : p_96 a1 (Int32.ofInt (0)) (Int32.ofInt (9)) τ3 r4 τ4) (g5 : p_92 a1 (zB + 23) τ4 τ5) (g6 : p_96 a1 (Int32.ofInt (0)) (Int32.ofInt (9)) τ5 r6 τ6) (g7 : p_12 (q_r (τ6.1 a0 1)) r2 r4 r6 τ6 r7 τ7) (g8 : p_91 a1 (zB + 13) τ7 r8 τ8) (h9 : r8.toInt ≠ (0 : Int)) (g14 : p_6 a1 τ8 r14 τ14) (g15 : p_29 a0 r14 r7 τ14 τ15) (g16 : p_91 a1 (zB + 15) τ15 r16 τ16) (h17 : r16.toInt ≠ (0 : Int)) (g18 : p_6 a1 τ16 r18 τ18) (g19 : p_13 (q_r (τ16.1 a0 1)) r7 r18 τ18 τ19) :
    p_3 (a0) (a1) σ τ19 := by
  rintro rfl rfl b E
  refine ⟨fun A nf nt H K hn => ?_, fun F K => ?_⟩
  · rw [dFam_3]
    obtain ⟨f1, K1⟩ := fam7 K hn g1 g2 g3 g4 g5 g6 g7
    cases h1 : dP3 b E A with
    | inr F =>
      rw [h1] at K1
      exact absurd (K1.tk g8 zwk_13).1 h9
    | inl q =>
    obtain ⟨A3, p, d, s⟩ := q
    rw [h1] at K1
    obtain ⟨e4, K1⟩ := K1
    subst e4
    dsimp only
    obtain ⟨f2, K2⟩ := oh_y K1 g8 g14 zwk_13 qsi_13 h9
    cases h2 : dOh b E wHours A3 with
    | inr F =>
      rw [h2] at K2
      obtain ⟨f3, K3⟩ := K2.gh g15
      exact absurd (K3.tk g16 zwk_15).1 h17
    | inl q =>
    obtain ⟨A4, q⟩ := q
    rw [h2] at K2
    obtain ⟨e5, K2⟩ := K2
    subst e5
    obtain ⟨f3, K3⟩ := K2.gh g15
    have f3 := (f1.tr f2).tr f3
    dsimp only
    have kS9 : q_r (τ16.1 21 1) = 23 := by
      obtain ⟨-, u9, -⟩ := K3.tk g16 zwk_15 qsi_15
      obtain ⟨A9, -, K9⟩ := u9 h17
      exact K9.k.1
    obtain ⟨f4, K4⟩ := oh_y K3 g16 g18 zwk_15 qsi_15 h17
    cases h3 : dOh b E wWishes A4 with
    | inr F =>
      rw [h3] at K4
      rw [kS9] at g19
      obtain ⟨f5, K5⟩ := K4.aw g19
      exact ⟨(f3.tr f4).tr f5, K5⟩
    | inl q =>
    obtain ⟨A5, w⟩ := q
    rw [h3] at K4
    obtain ⟨e6, K4⟩ := K4
    subst e6
    rw [kS9] at g19
    obtain ⟨f5, K5⟩ := K4.aw g19 (by omega)
    exact ⟨(f3.tr f4).tr f5, K5.cg (fun k _ => fam_eq hn k)⟩
  · obtain ⟨f1, K1⟩ := fam7q K g1 g2 g3 g4 g5 g6 g7
    exact absurd (K1.tk g8 zwk_13).1 h9
noncomputable def qP_3 : zPp := fun as σ o σ' => match as with
  | [a0, a1] => o = .inl none ∧ p_3 (q_r a0) (q_r a1) σ σ'
  | _ => True
set_option maxRecDepth 100000 in
theorem sp_3 {sx : zX} (S92 : zEe sx 92 2 qP_92) (S96 : zEe sx 96 3 qP_96) (S12 : zEe sx 12 4 qP_12) (S91 : zEe sx 91 2 qP_91) (S6 : zEe sx 6 1 qP_6) (S13 : zEe sx 13 3 qP_13) (S29 : zEe sx 29 3 qP_29) : zEe sx 3 2 qP_3 := by
  refine zfle zJ_3 (sps := [(92, 2, qP_92), (96, 3, qP_96), (12, 4, qP_12), (91, 2, qP_91), (6, 1, qP_6), (13, 3, qP_13), (29, 3, qP_29)]) (fun q hq => by
    simp only [List.mem_cons, List.not_mem_nil, or_false] at hq
    rcases hq with rfl | rfl | rfl | rfl | rfl | rfl | rfl
    · exact S92
    · exact S96
    · exact S12
    · exact S91
    · exact S6
    · exact S13
    · exact S29) (fun as σ hl => ?_)
  match as, hl with
  | [a0, a1], _ =>
  refine ⟨[], 400, ?_, ?_⟩
  · exact fun q hq => absurd hq List.not_mem_nil
  · refine fun o1 τ1 g1 => ?_
    obtain ⟨rfl, g1⟩ := g1
    refine fun o2 τ2 g2 => ?_
    obtain ⟨r2, rfl, g2⟩ := g2
    refine fun o3 τ3 g3 => ?_
    obtain ⟨rfl, g3⟩ := g3
    refine fun o4 τ4 g4 => ?_
    obtain ⟨r4, rfl, g4⟩ := g4
    refine fun o5 τ5 g5 => ?_
    obtain ⟨rfl, g5⟩ := g5
    refine fun o6 τ6 g6 => ?_
    obtain ⟨r6, rfl, g6⟩ := g6
    refine fun o7 τ7 g7 => ?_
    obtain ⟨r7, rfl, g7⟩ := g7
    refine fun o8 τ8 g8 => ?_
    obtain ⟨r8, rfl, g8⟩ := g8
    refine And.intro (fun h9 => ?_) (fun h9 => ?_)
    · refine fun o10 τ10 g10 => ?_
      obtain ⟨r10, rfl, g10⟩ := g10
      refine And.intro (fun h11 => ?_) (fun h11 => ?_)
      · exact ⟨rfl, sp_3_ett (q_r a0) (q_r a1) σ τ1 τ2 r2 τ3 τ4 r4 τ5 τ6 r6 τ7 r7 τ8 r8 τ10 r10 g1 g2 g3 g4 g5 g6 g7 g8 (cm0t h9) g10 (cm0t h11)⟩
      · refine fun o12 τ12 g12 => ?_
        obtain ⟨r12, rfl, g12⟩ := g12
        refine fun o13 τ13 g13 => ?_
        obtain ⟨rfl, g13⟩ := g13
        exact ⟨rfl, sp_3_etf (q_r a0) (q_r a1) σ τ1 τ2 r2 τ3 τ4 r4 τ5 τ6 r6 τ7 r7 τ8 r8 τ10 r10 τ12 r12 τ13 g1 g2 g3 g4 g5 g6 g7 g8 (cm0t h9) g10 (cm0f h11) g12 g13⟩
    · refine fun o14 τ14 g14 => ?_
      obtain ⟨r14, rfl, g14⟩ := g14
      refine fun o15 τ15 g15 => ?_
      obtain ⟨rfl, g15⟩ := g15
      refine fun o16 τ16 g16 => ?_
      obtain ⟨r16, rfl, g16⟩ := g16
      refine And.intro (fun h17 => ?_) (fun h17 => ?_)
      · exact ⟨rfl, sp_3_eft (q_r a0) (q_r a1) σ τ1 τ2 r2 τ3 τ4 r4 τ5 τ6 r6 τ7 r7 τ8 r8 τ14 r14 τ15 τ16 r16 g1 g2 g3 g4 g5 g6 g7 g8 (cm0f h9) g14 g15 g16 (cm0t h17)⟩
      · refine fun o18 τ18 g18 => ?_
        obtain ⟨r18, rfl, g18⟩ := g18
        refine fun o19 τ19 g19 => ?_
        obtain ⟨rfl, g19⟩ := g19
        exact ⟨rfl, sp_3_eff (q_r a0) (q_r a1) σ τ1 τ2 r2 τ3 τ4 r4 τ5 τ6 r6 τ7 r7 τ8 r8 τ14 r14 τ15 τ16 r16 τ18 r18 τ19 g1 g2 g3 g4 g5 g6 g7 g8 (cm0f h9) g14 g15 g16 (cm0f h17) g18 g19⟩
