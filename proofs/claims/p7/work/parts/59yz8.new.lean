/-! the new law's cells: their types, and how many there are -/
theorem zpt {ty : List Nat} {h : zH} {c t k r q : Nat} {a b lo hi : Int} (T : zTY z_tt ty h) (ht : ty[c]? = some t) (hv : zv h c k = .ref r) (hq : q = 2 ∨ q = 3) (hr : (a, b, (q, lo, hi)) ∈ (z_tt t).2.2.2) (h1 : a ≤ (k : Int)) (h2 : (k : Int) ≤ b) : ∃ t', ty[r]? = some t' ∧ lo ≤ (t' : Int) ∧ (t' : Int) ≤ hi := by
  obtain ⟨e, he, hs, hG⟩ := zcell T ht
  rw [zv_at he] at hv
  cases hz : z_rd e k with
  | none => rw [hz] at hv; cases hv
  | some v =>
    rw [hz] at hv
    have hv : v = .ref r := hv
    subst hv
    have g := hG k _ hz _ hr h1 h2
    rcases hq with rfl | rfl
    · obtain ⟨i, t', e1, e2, e3, e4⟩ := g
      cases e1
      exact ⟨t', e2, e3, e4⟩
    · rcases g with g | ⟨i, t', e1, e2, e3, e4⟩
      · cases g
      · cases e1
        exact ⟨t', e2, e3, e4⟩
theorem ztt100b {t : Nat} (h1 : 100 ≤ t) (h2 : t ≤ 112) : (z_tt t).2.2.2 = [(0, 0, (0, ((t - 100 : Nat) : Int), ((t - 100 : Nat) : Int))), (1, 2, (2, ((t + 40 : Nat) : Int), ((t + 40 : Nat) : Int))), (3, 3, (2, ((t + 20 : Nat) : Int), ((t + 20 : Nat) : Int))), (4, 4, (2, 1000, 1400)), (5, 5, (2, 34, 34))] := by
  unfold z_tt
  rw [if_neg (by omega), if_pos ⟨h1, h2⟩]
theorem zlaw_new {ty ty1 : List Nat} {h h1 : zH} {k : Int32} {E : Nat} {bt : Nat → Int} (T : zTY z_tt ty h) (T1 : zTY z_tt ty1 h1) (X0 : zExt zty1 ty) (X : zExt ty ty1) (L0 : zLwt ty) (hm : h.length % 6 = 3) (hl : h1.length ≤ h.length + 6) (Q : cLw (za h) 0 1 3 8 47 7 4 5 6 2 bt E) (G1 : p_316w 0 218 (za h) k (za h1)) : zLwt ty1 ∧ (k.toInt = 0 → (za h1).2.2 = (za h).2.2 + 6 ∧ (za h1).2.1 ((za h).2.2 + 2) = 32) := by
  obtain ⟨e, τ, ⟨g, gw⟩, alts⟩ := G1
  obtain ⟨f, -, Rs, hR, xo⟩ := g 1 3 8 47 7 4 5 6 2 bt E Q
  cases Rs with
  | inr F =>
    obtain ⟨rfl, x1, x2, x3⟩ := xo
    rcases alts with ⟨v, q, -, -⟩ | ⟨-, r1, r2⟩
    · cases q
    · have hl' : h1.length = h.length := by
        have e1 : (za h1).2.2 = (za h).2.2 := by rw [r2]; exact x3
        exact e1
      exact ⟨L0.keep T T1 X hl', fun q => by rw [r1] at q; exact absurd q (by decide)⟩
  | inl q =>
    obtain ⟨ls, l⟩ := q
    obtain ⟨rfl, x1, x2, x3, x4, x5, y0, y1, y2, y3, y4, y5, -⟩ := xo
    rcases alts with ⟨v, q, r1, r2⟩ | ⟨q, -, -⟩
    case inr => cases q
    have hL : 219 ≤ h.length := by
      rw [← T.1]
      exact (List.getElem?_eq_some_iff.mp (X0 218 33 (by decide +kernel))).1
    have hv : ∀ c q, c ≠ 218 → zv h1 c q = τ.1 c q := fun c q hc => by
      have e1 : (za h1).1 c q = τ.1 c q := by rw [r2]; exact q_w_ne (fun e _ => hc e)
      exact e1
    obtain ⟨tL, a1, a2, a3⟩ := zpt (q := 3) (a := 5) (b := 5) (lo := 100) (hi := 112) T1 (X _ _ (X0 8 8 (by decide +kernel))) ((hv 8 5 (by omega)).trans x4) (Or.inr rfl) (by decide +kernel) (by decide) (by decide)
    have tt := ztt100b (t := tL) (by omega) (by omega)
    have hs : ((za h).2.2 : Nat) = h.length := rfl
    rw [hs] at a1 y1 y2 y3 y4 y5
    obtain ⟨t3, b1, b2, b3⟩ := zpt (q := 2) (a := 1) (b := 2) (lo := ((tL + 40 : Nat) : Int)) (hi := ((tL + 40 : Nat) : Int)) T1 a1 ((hv _ 1 (by omega)).trans y1) (Or.inl rfl) (by rw [tt]; simp) (by decide) (by decide)
    obtain ⟨t4, c1, c2, c3⟩ := zpt (q := 2) (a := 1) (b := 2) (lo := ((tL + 40 : Nat) : Int)) (hi := ((tL + 40 : Nat) : Int)) T1 a1 ((hv _ 2 (by omega)).trans y2) (Or.inl rfl) (by rw [tt]; simp) (by decide) (by decide)
    obtain ⟨t5, d1, d2, d3⟩ := zpt (q := 2) (a := 3) (b := 3) (lo := ((tL + 20 : Nat) : Int)) (hi := ((tL + 20 : Nat) : Int)) T1 a1 ((hv _ 3 (by omega)).trans y3) (Or.inl rfl) (by rw [tt]; simp) (by decide) (by decide)
    obtain ⟨t1, g1, g2, g3⟩ := zpt (q := 2) (a := 4) (b := 4) (lo := 1000) (hi := 1400) T1 a1 ((hv _ 4 (by omega)).trans y4) (Or.inl rfl) (by rw [tt]; simp) (by decide) (by decide)
    obtain ⟨t2, i1, i2, i3⟩ := zpt (q := 2) (a := 5) (b := 5) (lo := 34) (hi := 34) T1 a1 ((hv _ 5 (by omega)).trans y5) (Or.inl rfl) (by rw [tt]; simp) (by decide) (by decide)
    have l5 : h.length + 5 < h1.length := by
      rw [← T1.1]
      exact (List.getElem?_eq_some_iff.mp d1).1
    have e2 : t2 = 34 := by omega
    subst e2
    refine ⟨fun c t q1 q2 ht => ?_, fun _ => ⟨(show h1.length = h.length + 6 by omega), zvl_of T1 i1 rfl rfl⟩⟩
    by_cases hc : c < h.length
    · have hc' : c < ty.length := by rw [T.1]; exact hc
      have e : ty[c]? = some ty[c] := List.getElem?_eq_getElem hc'
      have := X c _ e
      rw [ht] at this
      cases this
      exact L0 c _ q1 q2 e
    · have hc1 : c < h1.length := by
        rw [← T1.1]
        exact (List.getElem?_eq_some_iff.mp ht).1
      have h5 : c = h.length ∨ c = h.length + 1 ∨ c = h.length + 3 ∨ c = h.length + 4 ∨ c = h.length + 5 := by omega
      rcases h5 with rfl | rfl | rfl | rfl | rfl
      · rw [a1] at ht; cases ht; omega
      · rw [g1] at ht; cases ht; omega
      · rw [b1] at ht; cases ht; omega
      · rw [c1] at ht; cases ht; omega
      · rw [d1] at ht; cases ht; omega
