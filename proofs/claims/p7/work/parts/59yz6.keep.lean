/-! a call that touches nothing of the whole relation keeps it; the fault -/
theorem zq_4 {σ σ1 σ2 : zSg} {p : zPt} {k b : Int32} (w : zPw p) (K : zC σ p) (R : zRv σ p) (G1 : p_122 0 σ k σ1) (G2 : p_209 205 σ1 b σ2) : zHld σ2 ∧ k = b := by
  obtain ⟨rfl, e1⟩ := G1
  obtain ⟨rfl, e2⟩ := G2
  refine ⟨⟨p, w, K.ref rfl (fun c k q => q_w_ne (fun e _ => by omega)), R.thr (c := 0)⟩, ?_⟩
  have h1 : σ1.1 0 7 = .int p.2.2.2.2.2 := K.2.2.2.2.2.2.2.1
  have h2 : σ1.1 205 14 = .int p.2.2.2.2.2 := R.2.2.2.2.2.2.2
  rw [e1, e2, h1, h2]
theorem zsh_n {T : zTy} {e : zE} (h : z_sh T e) : q_n e = if T.1 = 0 then 0 else T.2.2.1 := by
  obtain ⟨k, c', n, rs⟩ := T
  match k, e, h with
  | 0, .inr (c, fs), _ => rfl
  | 1, .inl (0, (m, .inl _)), h => exact h
  | 2, .inl (1, (m, .inl _)), h => exact h
  | 3, .inl (2, (m, .inr (.inl _))), h => exact h
  | 4, .inl (3, (m, .inr (.inr (.inr (.inr _))))), h => exact h
theorem zvl_n {h : zH} {c : Nat} {e : zE} (he : h[c]? = some e) : zvl h c = q_n e := by
  unfold zvl
  rw [he]
  obtain ⟨t, n, x⟩ | ⟨c, fs⟩ := e <;> rfl
theorem za2 {ty ty' : List Nat} {h h' : zH} (T : zTY z_tt ty h) (T' : zTY z_tt ty' h') (X : zExt ty ty') (hl : h'.length = h.length) : (za h').2 = (za h).2 := by
  have e : zvl h' = zvl h := funext fun c => by
    by_cases hc : c < h.length
    · have hc' : c < ty.length := by rw [T.1]; exact hc
      have ht : ty[c]? = some ty[c] := List.getElem?_eq_getElem hc'
      have e1 : h[c]? = some h[c] := List.getElem?_eq_getElem hc
      have hc2 : c < h'.length := by omega
      have e2 : h'[c]? = some h'[c] := List.getElem?_eq_getElem hc2
      rw [zvl_n e1, zvl_n e2, zsh_n (T.2.2 c _ _ ht e1).1, zsh_n (T'.2.2 c _ _ (X c _ ht) e2).1]
    · unfold zvl
      rw [List.getElem?_eq_none (by omega), List.getElem?_eq_none (by omega)]
  exact Prod.ext e hl
/-- behind the first 219 cells there are laws alone -/
noncomputable def zLwt (ty : List Nat) : Prop := ∀ c t : Nat, 219 ≤ c → c % 6 ≠ 5 → ty[c]? = some t → 100 ≤ t
theorem zLwt.keep {ty ty' : List Nat} {h h' : zH} (L : zLwt ty) (T : zTY z_tt ty h) (T' : zTY z_tt ty' h') (X : zExt ty ty') (hl : h'.length = h.length) : zLwt ty' := fun c t h1 h2 ht => by
  have hc : c < ty.length := by
    have := (List.getElem?_eq_some_iff.mp ht).1
    rw [T'.1, hl, ← T.1] at this
    exact this
  have e : ty[c]? = some ty[c] := List.getElem?_eq_getElem hc
  have := X c _ e
  rw [ht] at this
  cases this
  exact L c _ h1 h2 e
noncomputable def zqOKm (m : zMod) : Bool := decide (m.1 < 100) && (!([1, 8, 9, 10, 11, 12, 13, 14, 16, 17, 18, 25].elem m.1) && ((decide (m.1 ≠ 20) || (decide (m.2.2 < 1) || ((decide (7 < m.2.1) && decide (m.2.2 < 14)) || ((decide (14 < m.2.1) && decide (m.2.2 < 17)) || decide (17 < m.2.1))))) && (decide (m.1 ≠ 21 ∧ m.1 ≠ 22) || decide (1236 < m.2.1))))
noncomputable def zqOK (ms : List zMod) : Bool := ms.all zqOKm
theorem zty1_c : (List.range 205).all (fun c => decide (c ≠ 0 ∧ c < 8) || [1, 8, 9, 10, 11, 12, 13, 14, 16, 17, 18].elem (zty1.getD c 0)) = true := by decide +kernel
theorem zv_out {h : zH} {c k : Nat} (hc : h.length ≤ c) : zv h c k = .null := by
  unfold zv
  rw [List.getElem?_eq_none hc]
theorem zHld.keep {ms : List zMod} {ty ty' : List Nat} {h h' : zH} (H : zHld (za h)) (T : zTY z_tt ty h) (T' : zTY z_tt ty' h') (X0 : zExt zty1 ty) (X : zExt ty ty') (L : zLwt ty) (F : zFm ms ty h h') (hl : h'.length = h.length) (hm : zqOK ms = true) : zHld (za h') := by
  obtain ⟨p, w, K, R⟩ := H
  have hok := fun m hm9 => List.all_eq_true.mp hm m hm9
  have no : ∀ t k, (100 ≤ t ∨ [1, 8, 9, 10, 11, 12, 13, 14, 16, 17, 18, 25].elem t = true) → ¬ zIn ms t k := by
    rintro t k ht ⟨m, hm9, m1, -⟩
    have := hok m hm9
    unfold zqOKm at this
    rw [Bool.and_eq_true, Bool.and_eq_true, decide_eq_true_eq, Bool.not_eq_true'] at this
    rw [m1] at this
    rcases ht with ht | ht
    · omega
    · rw [ht] at this
      exact absurd this.2.1 (by decide)
  have no20 : ∀ k, ((1 ≤ k ∧ k ≤ 7) ∨ k = 14 ∨ k = 17) → ¬ zIn ms 20 k := by
    rintro k hk ⟨m, hm9, m1, m2, m3⟩
    have := hok m hm9
    unfold zqOKm at this
    simp only [Bool.and_eq_true, Bool.or_eq_true, decide_eq_true_eq] at this
    omega
  have no21 : ∀ t k, t = 21 ∨ t = 22 → k < 1237 → ¬ zIn ms t k := by
    rintro t k ht hk ⟨m, hm9, m1, m2, m3⟩
    have := hok m hm9
    unfold zqOKm at this
    simp only [Bool.and_eq_true, Bool.or_eq_true, decide_eq_true_eq] at this
    omega
  refine ⟨p, w, K.fr (za2 T T' X hl) (fun c k hc => ?_), R.fr (fun c k hc => ?_)⟩
  · by_cases h205 : c < 205
    · have h1 := List.all_eq_true.mp zty1_c c (List.mem_range.mpr h205)
      rw [Bool.or_eq_true, decide_eq_true_eq] at h1
      have h2 : [1, 8, 9, 10, 11, 12, 13, 14, 16, 17, 18].elem (zty1.getD c 0) = true := h1.resolve_left (by unfold zCc at hc; omega)
      have hlen : c < zty1.length := by rw [show zty1.length = 219 from by decide +kernel]; omega
      have ht : ty[c]? = some (zty1.getD c 0) := X0 _ _ (by rw [List.getD_eq_getElem?_getD, List.getElem?_eq_getElem hlen]; rfl)
      refine zv_keep T T' F ht (no _ k (Or.inr ?_))
      have h3 := List.elem_iff.mp h2
      refine List.elem_iff.mpr ?_
      simp only [List.mem_cons, List.not_mem_nil, or_false] at h3 ⊢
      omega
    · have h3 : 219 ≤ c ∧ c % 6 ≠ 5 := by unfold zCc at hc; omega
      by_cases hb : c < h.length
      · have hc' : c < ty.length := by rw [T.1]; exact hb
        have ht : ty[c]? = some ty[c] := List.getElem?_eq_getElem hc'
        exact zv_keep T T' F ht (no _ k (Or.inl (L c _ h3.1 h3.2 ht)))
      · show zv h' c k = zv h c k
        rw [zv_out (by omega), zv_out (by omega)]
  · have t205 : ty[205]? = some 20 := X0 205 20 (by decide +kernel)
    have t206 : ty[206]? = some 21 := X0 206 21 (by decide +kernel)
    have t207 : ty[207]? = some 22 := X0 207 22 (by decide +kernel)
    have t210 : ty[210]? = some 25 := X0 210 25 (by decide +kernel)
    rcases hc with ⟨rfl, hk⟩ | ⟨rfl, hk⟩ | ⟨rfl, hk⟩ | rfl
    · exact zv_keep T T' F t205 (no20 k hk)
    · exact zv_keep T T' F t206 (no21 _ k (Or.inl rfl) hk)
    · exact zv_keep T T' F t207 (no21 _ k (Or.inr rfl) hk)
    · exact zv_keep T T' F t210 (no _ k (Or.inr (by decide)))
/-- the tape, as the readers of a deed want it -/
theorem zv_int {ty : List Nat} {h : zH} {c t n k : Nat} (T : zTY z_tt ty h) (ht : ty[c]? = some t) (hk : (z_tt t).1 = 1) (hn : (z_tt t).2.2.1 = n) (hkn : k < n) : ∃ x, zv h c k = .int x := by
  obtain ⟨f, he⟩ := zcell1 T ht hk hn
  exact ⟨f k, by rw [zv_at he, z_rd0, if_pos hkn]; rfl⟩
theorem zTpe_of {ty : List Nat} {h : zH} {E : Nat} (T : zTY z_tt ty h) (X : zExt zty1 ty) (S : zSkl h) (hE : E ≤ 400) (h1 : zv h 1 1 = .int (Int32.ofNat E)) (h9 : zv h 205 9 = .int (Int32.ofNat E)) (Y : zByq h) : zTpe (za h) (rb (za h) 205) E := by
  have p10 : zv h 1 0 = .ref 2 := S.at (1, 0, 2) (by decide +kernel)
  have q10 : q_r ((za h).1 1 0) = 2 := by show q_r (zv h 1 0) = 2; rw [p10]; rfl
  refine ⟨⟨by rw [q10]; decide, h1, hE, fun k => ⟨(Y k).1, (Y k).2.1⟩⟩, funext fun k => (Y k).2.2.symm, p10, S.at (205, 8, 211) (by decide +kernel), rfl, h9, hE, fun k hk => zv_int T (X 206 21 (by decide +kernel)) rfl (n := 2086) rfl (by omega)⟩
