/-! feed keeps the bytes alike; both readers of a law end alike -/
theorem zfeed_by {ty ty1 ty2 : List Nat} {h h1 h2 : zH} {v1 v2 v3 v4 v5 c1 c2 : Int32} {E : Nat} (T : zTY z_tt ty h) (T1 : zTY z_tt ty1 h1) (T2 : zTY z_tt ty2 h2) (X : zExt zty1 ty) (X1 : zExt zty1 ty1) (S : zSkl h) (S1 : zSkl h1) (S2 : zSkl h2) (Y : zByq h) (F1 : zFm (zcM zC_ap) ty h h1) (F2 : zFm [(20, 0, 0), (20, 9, 9), (26, 0, 399), (27, 0, 4)] ty1 h1 h2) (w1 : zv h 1 1 = .int (Int32.ofNat E)) (w9 : zv h 205 9 = .int (Int32.ofNat E)) (hE : E ≤ 400) (P1 : p_118 0 v1 v2 v3 v4 v5 (za h) c1 (za h1)) (P2 : p_199 205 v1 v2 v3 v4 v5 (za h1) c2 (za h2)) : zByq h2 := by
  have e2 : ∀ k, zv h2 2 k = zv h1 2 k := fun k => zv_keep T1 T2 F2 (X1 2 3 (by decide +kernel)) (zNo (by decide +kernel))
  have e211 : ∀ k, zv h1 211 k = zv h 211 k := fun k => zv_keep T T1 F1 (X 211 26 (by decide +kernel)) (zNo (by decide +kernel))
  have e205 : zv h1 205 9 = zv h 205 9 := zv_keep T T1 F1 (X 205 20 (by decide +kernel)) (zNo (by decide +kernel))
  have q1 := P1 1 2 E (S.at (0, 0, 1) (by decide +kernel)) (S.at (1, 0, 2) (by decide +kernel)) (by decide) (by decide) (by decide) w1 hE
  have q2 := P2 211 212 E ⟨S1.at (205, 8, 211) (by decide +kernel), S1.at (205, 15, 212) (by decide +kernel), by decide, by decide, by decide, e205.trans w9, hE⟩
  intro k
  have cuE : cu (za h2) 1 k = (q_i (zv h1 2 k)).toInt := by
    show (q_i (zv h2 (q_r (zv h2 1 0)) k)).toInt = _
    rw [S2.at (1, 0, 2) (by decide +kernel)]
    exact congrArg (fun v => (q_i v).toInt) (e2 k)
  have rbE : rb (za h2) 205 k = (q_i (zv h2 211 k)).toInt := by
    show (q_i (zv h2 (q_r (zv h2 205 8)) k)).toInt = _
    rw [S2.at (205, 8, 211) (by decide +kernel)]
    rfl
  have cu0 : cu (za h) 1 k = (q_i (zv h 2 k)).toInt := by
    show (q_i (zv h (q_r (zv h 1 0)) k)).toInt = _
    rw [S.at (1, 0, 2) (by decide +kernel)]
    rfl
  have rb0 : rb (za h) 205 k = (q_i (zv h 211 k)).toInt := by
    show (q_i (zv h (q_r (zv h 205 8)) k)).toInt = _
    rw [S.at (205, 8, 211) (by decide +kernel)]
    rfl
  have hY := Y k
  unfold cb at hY ⊢
  rw [cu0, rb0] at hY
  rw [cuE, rbE]
  by_cases hr : E + 20 ≤ 400
  · obtain ⟨-, g1⟩ := q1.1 hr
    obtain ⟨-, g2, -, -, g3⟩ := q2.1 hr
    have hv1 : ∀ k, zv h1 2 k = (cAp (za h) 1 2 E (cFv v1 v2 v3 v4 v5) 20).1 2 k := fun k => by
      show (za h1).1 2 k = _
      rw [g1]
    by_cases hk : E ≤ k ∧ k < E + 20
    · have a1 : zv h1 2 k = .int (cFv v1 v2 v3 v4 v5 (k - E)) := by
        rw [hv1]
        have := cAp_at (σ := za h) (t := 1) (B := 2) (E := E) (j := 20) (i := k - E) (f := cFv v1 v2 v3 v4 v5) (by omega)
        rw [show E + (k - E) = k by omega] at this
        exact this
      have a2 : zv h2 211 k = .int (rFv v1 v2 v3 v4 v5 (k - E)) := by
        have := g3 (k - E) (by omega)
        rw [show E + (k - E) = k by omega] at this
        exact this
      rw [a1, a2]
      have hn : byN (24 - 8 * ((k - E) % 4)) := by unfold byN; omega
      exact ⟨(cby_le _ hn).1, (cby_le _ hn).2, cby_rby _ hn⟩
    · have a1 : zv h1 2 k = zv h 2 k := (hv1 k).trans (cAp_ne (fun q => hk q.2) (fun q => absurd q.1 (by decide)))
      have a2 : zv h2 211 k = zv h 211 k := (g2.2 211 k (fun q => absurd q.1 (by decide)) (fun q => hk q.2) (by decide)).trans (e211 k)
      rw [a1, a2]
      exact hY
  · have g1 := (q1.2 (by omega)).2
    have g2 := (q2.2 (by omega)).2
    have a1 : zv h1 2 k = zv h 2 k := by
      show (za h1).1 2 k = _
      rw [g1]
      rfl
    have a2 : zv h2 211 k = zv h 211 k := by
      show (za h2).1 211 k = _
      rw [g2]
      exact (q_w_ne (fun e _ => absurd e (by decide))).trans (e211 k)
    rw [a1, a2]
    exact hY
theorem zlaw_eq {ty ty1 ty2 : List Nat} {h h1 h2 : zH} {c1 c2 : Int32} {E : Nat} {ms : List zMod} (T : zTY z_tt ty h) (T1 : zTY z_tt ty1 h1) (T2 : zTY z_tt ty2 h2) (X : zExt zty1 ty) (X1 : zExt zty1 ty1) (S : zSkl h) (S1 : zSkl h1) (Y : zByq h) (F1 : zFm ms ty h h1) (F2 : zFm zLm ty1 h1 h2) (m1 : ms.all (fun m => decide (m.1 ≠ 26) && decide (m.1 ≠ 20)) = true) (w1 : zv h 1 1 = .int (Int32.ofNat E)) (w9 : zv h 205 9 = .int (Int32.ofNat E)) (hE : E ≤ 400) (P1 : p_316 0 218 (za h) c1 (za h1)) (P2 : p_232 205 (za h1) c2 (za h2)) : ∃ t : Int32, zv h2 205 0 = .int t ∧ t.toInt = c1.toInt ∧ (c1.toInt = 0 → zv h2 218 0 = .long c2.toInt64) := by
  have hb := List.all_eq_true.mp m1
  have e205 : ∀ k, zv h1 205 k = zv h 205 k := fun k => zv_keep T T1 F1 (X 205 20 (by decide +kernel)) (zNo (fun m h9 => by have := hb m h9; rw [Bool.and_eq_true, decide_eq_true_eq, decide_eq_true_eq] at this; exact this.2))
  have e211 : ∀ k, zv h1 211 k = zv h 211 k := fun k => zv_keep T T1 F1 (X 211 26 (by decide +kernel)) (zNo (fun m h9 => by have := hb m h9; rw [Bool.and_eq_true, decide_eq_true_eq, decide_eq_true_eq] at this; exact this.1))
  have e218 : zv h2 218 0 = zv h1 218 0 := zv_keep T1 T2 F2 (X1 218 33 (by decide +kernel)) (zNo (by decide +kernel))
  have eb : rb (za h1) 205 = rb (za h) 205 := by
    funext k
    show (q_i (zv h1 (q_r (zv h1 205 8)) k)).toInt = (q_i (zv h (q_r (zv h 205 8)) k)).toInt
    rw [S.at (205, 8, 211) (by decide +kernel), S1.at (205, 8, 211) (by decide +kernel)]
    exact congrArg (fun v => (q_i v).toInt) (e211 k)
  have cl := cLw_of T X S hE w1 Y
  have ra := rA_of T1 X1 S1 hE ((e205 9).trans w9)
  obtain ⟨R, hR, hm⟩ := P1 _ _ _ _ _ _ _ _ _ _ _ cl
  obtain ⟨-, -, R', hR', hl⟩ := P2 _ _ _ ra
  rw [eb] at hR'
  cases GLaw.det hR hR'
  cases R with
  | inl q =>
    obtain ⟨ls, l⟩ := q
    obtain ⟨k1, k2, k3⟩ := hm
    obtain ⟨j1, -, j3, -⟩ := hl
    refine ⟨_, j3, by rw [k1]; rfl, fun _ => ?_⟩
    rw [e218, j1]
    exact k3
  | inr F =>
    have k1 : c1.toInt = 1 := hm
    obtain ⟨-, j3, -⟩ := hl
    exact ⟨_, j3, by rw [k1]; rfl, fun h0 => by omega⟩
