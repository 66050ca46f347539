/-! copies: what a copying loop keeps -/
theorem zwf' {ms : List zMod} {ty : List Nat} {h : zH} {a t c b : Nat} {fs : List Value} {v : Value} {V : zA} (T : zTY z_tt ty h) (ht : ty[a]? = some t) (he : h[a]? = some (.inr (c, fs))) (hb : b < fs.length) (g : zG ty V v) (hz : zst (z_tt t).2.2.2 (b : Int) (b : Int) V = true) (hm : zcv ms t (b : Int) (b : Int) = true) : zTY z_tt ty (h.set a (.inr (c, fs.set b v))) ∧ zFm ms ty h (h.set a (.inr (c, fs.set b v))) :=
  zwf T ht he hb (zst_ok hz g (Int.le_refl _) (Int.le_refl _)) (zcv_ok hm (Int.le_refl _) (Int.le_refl _))
theorem zK0 {ty : List Nat} {n : Int} (h1 : -2147483648 ≤ n) (h2 : n ≤ 2147483647) : zG ty (0, n, n) (.int (Int32.ofInt n)) := ⟨_, rfl, by rw [z_of32 h1 h2]; exact Int.le_refl _, by rw [z_of32 h1 h2]; exact Int.le_refl _⟩
/-- i places have been copied, from p on in the one to q on in the other -/
noncomputable def zQc (ty : List Nat) (h0 : zH) (a : Nat) (gs : List Value) (w1 n1 : Nat) (f1 : Nat → Int32) (w2 n2 : Nat) (ms : List zMod) (p q i : Nat) (h : zH) : Prop := zTY z_tt ty h ∧ zFm ms ty h0 h ∧ h[a]? = some (.inr (9, gs)) ∧ h[w1]? = some (.inl (0, (n1, .inl f1))) ∧ ∃ g : Nat → Int32, h[w2]? = some (.inl (0, (n2, .inl g))) ∧ ∀ k, k < i → g (q + k) = f1 (p + k)
theorem zQc_step {ty : List Nat} {h0 : zH} {a : Nat} {gs : List Value} {w1 n1 : Nat} {f1 : Nat → Int32} {w2 n2 : Nat} {ms : List zMod} {p q i N t1 t2 : Nat} {h : zH} {g : Nat → Int32} (Q : zTY z_tt ty h ∧ zFm ms ty h0 h ∧ h[a]? = some (.inr (9, gs)) ∧ h[w1]? = some (.inl (0, (n1, .inl f1))) ∧ h[w2]? = some (.inl (0, (n2, .inl g))) ∧ ∀ k, k < i → g (q + k) = f1 (p + k)) (hi : i < N) (hN1 : p + N ≤ n1) (hN2 : q + N ≤ n2) (ha : ty[a]? = some 20) (ht1 : ty[w1]? = some t1) (ht2 : ty[w2]? = some t2) (hn : t1 ≠ t2) (hn2 : t2 ≠ 20) (hreg : ∀ r ∈ (z_tt t2).2.2.2, r.1 ≤ ((q + i : Nat) : Int) → ((q + i : Nat) : Int) ≤ r.2.1 → ∃ r' ∈ (z_tt t1).2.2.2, r'.1 ≤ ((p + i : Nat) : Int) ∧ ((p + i : Nat) : Int) ≤ r'.2.1 ∧ r'.2.2 = r.2.2) (hm : zcv ms t2 (q : Int) (((q + N : Nat) : Int) - 1) = true) : zQc ty h0 a gs w1 n1 f1 w2 n2 ms p q (i + 1) (h.set w2 (.inl (0, (n2, .inl (upd g (q + i) (f1 (p + i))))))) := by
  obtain ⟨T, F, he, h1, h2, hg⟩ := Q
  have hv : ∀ r ∈ (z_tt t2).2.2.2, r.1 ≤ ((q + i : Nat) : Int) → ((q + i : Nat) : Int) ≤ r.2.1 → zG ty r.2.2 (.int (f1 (p + i))) := fun r hr r1 r2 => by
    obtain ⟨r', m', a1, a2, a3⟩ := hreg r hr r1 r2
    rw [← a3]
    exact (T.2.2 w1 t1 _ ht1 h1).2 (p + i) _ (by rw [z_rd0, if_pos (by omega)]) r' m' a1 a2
  obtain ⟨T', F'⟩ := zwr (ms := ms) T ht2 h2 (i := q + i) (by omega) hv (zcv_ok hm (by omega) (by omega))
  have d1 : w2 ≠ w1 := fun e => hn (by rw [e, ht1] at ht2; exact Option.some.inj ht2)
  have d2 : w2 ≠ a := fun e => hn2 (by rw [e, ha] at ht2; exact (Option.some.inj ht2).symm)
  refine ⟨T', F.tr zExt.rf F', by rw [zset_ne d2]; exact he, by rw [zset_ne d1]; exact h1, _, zset_eq h2, fun k hk => ?_⟩
  unfold upd
  by_cases hk2 : k = i
  · subst hk2
    rw [if_pos rfl]
  · rw [if_neg (by omega)]
    exact hg k (by omega)
/-- regions of like places -/
theorem zreg_same {r1 r2 : List (Int × Int × zA)} {N : Nat} (hc : r2.all (fun r => r1.any (fun r' => decide (r' = r)) || decide ((N : Int) ≤ r.1)) = true) {i : Nat} (hi : i < N) : ∀ r ∈ r2, r.1 ≤ ((0 + i : Nat) : Int) → ((0 + i : Nat) : Int) ≤ r.2.1 → ∃ r' ∈ r1, r'.1 ≤ ((0 + i : Nat) : Int) ∧ ((0 + i : Nat) : Int) ≤ r'.2.1 ∧ r'.2.2 = r.2.2 := by
  intro r hr h1 h2
  have := List.all_eq_true.mp hc r hr
  rw [Bool.or_eq_true, decide_eq_true_eq] at this
  rcases this with h | h
  · obtain ⟨r', m, e⟩ := List.any_eq_true.mp h
    have e := of_decide_eq_true e
    subst e
    exact ⟨r', m, h1, h2, rfl⟩
  · omega
/-! THE LAW'S TEXT of the reference: what a line's code keeps to. A stack of one value a line -/
noncomputable def zPx (f : Nat → Int32) : Nat → Nat → Nat → Prop
  | 0, _, _ => True
  | n + 1, i, top => let s := (f (437 + 2 * i)).toInt
    i < 400 ∧ (if s ≤ 8 then top < 400 ∧ zPx f n (i + 1) (top + 1) else if s = 12 then 1 ≤ top ∧ zPx f n (i + 1) top else 2 ≤ top ∧ zPx f n (i + 1) (top - 1))
noncomputable def zLi (f : Nat → Int32) (l : Nat) : Prop := 0 ≤ (f (391 + 4 * l)).toInt ∧ zPx f ((f (392 + 4 * l)).toInt - (f (391 + 4 * l)).toInt).toNat (f (391 + 4 * l)).toInt.toNat 0
noncomputable def zLT (f : Nat → Int32) : Prop := (f 388).toInt ≤ 12 ∧ ∀ l : Nat, (l : Int) < (f 388).toInt → zLi f l
theorem zPx_congr {f g : Nat → Int32} (h : ∀ k, 388 ≤ k → k ≤ 1236 → g k = f k) : ∀ (n i top : Nat), zPx f n i top → zPx g n i top
  | 0, _, _, _ => trivial
  | n + 1, i, top, H => by
    obtain ⟨h1, h2⟩ := H
    refine ⟨h1, ?_⟩
    rw [h (437 + 2 * i) (by omega) (by omega)]
    split
    · next h3 =>
      rw [if_pos h3] at h2
      exact ⟨h2.1, zPx_congr h n _ _ h2.2⟩
    · next h3 =>
      rw [if_neg h3] at h2
      split
      · next h4 => rw [if_pos h4] at h2; exact ⟨h2.1, zPx_congr h n _ _ h2.2⟩
      · next h4 => rw [if_neg h4] at h2; exact ⟨h2.1, zPx_congr h n _ _ h2.2⟩
theorem zLT_congr {f g : Nat → Int32} (h : ∀ k, 388 ≤ k → k ≤ 1236 → g k = f k) (H : zLT f) : zLT g := by
  obtain ⟨h0, H⟩ := H
  rw [← h 388 (by omega) (by omega)] at h0
  refine ⟨h0, fun l hl => ?_⟩
  have hl' : (l : Int) < (f 388).toInt := by rw [← h 388 (by omega) (by omega)]; exact hl
  obtain ⟨h1, h2⟩ := H l hl'
  unfold zLi
  rw [h (391 + 4 * l) (by omega) (by omega), h (392 + 4 * l) (by omega) (by omega)]
  exact ⟨h1, zPx_congr h _ _ _ h2⟩
noncomputable def zlT3 (t : Nat) : Prop := t = 21 ∨ t = 22 ∨ t = 23
noncomputable def zEt (ty : List Nat) (h : zH) : Prop := ∀ (a t n : Nat) (f : Nat → Int32), ty[a]? = some t → zlT3 t → h[a]? = some (.inl (0, (n, .inl f))) → zLT f
/-- places that no automatic contract may name -/
noncomputable def zno (ms : List zMod) : Bool := ms.all (fun m => decide (100 ≤ m.1 → False) && (decide (m.1 < 21) || decide (23 < m.1) || decide (m.2.2 < 388) || decide (1236 < m.2.1)))
theorem zlT3_len {t : Nat} (h : zlT3 t) : (z_tt t).1 = 1 ∧ 1237 ≤ (z_tt t).2.2.1 := by
  rcases h with rfl | rfl | rfl
  · exact ⟨rfl, by decide⟩
  · exact ⟨rfl, by decide⟩
  · exact ⟨rfl, by decide⟩
theorem zEt_keep {ms : List zMod} {ty : List Nat} {h h' : zH} (T : zTY z_tt ty h) (T' : zTY z_tt ty h') (F : zFm ms ty h h') {a t n : Nat} {f : Nat → Int32} (ht : ty[a]? = some t) (hz : zlT3 t) (he' : h'[a]? = some (.inl (0, (n, .inl f)))) (hno : ∀ i : Nat, 388 ≤ i → i ≤ 1236 → ¬ zIn ms t i) (E : zEt ty h) : zLT f := by
  obtain ⟨e, he, hs, -⟩ := zcell T ht
  obtain ⟨k1, k2⟩ := zlT3_len hz
  obtain ⟨g, rfl⟩ := zsh1 hs k1
  obtain ⟨e2, he2, hs2, -⟩ := zcell T' ht
  obtain ⟨g2, rfl⟩ := zsh1 hs2 k1
  rw [he'] at he2
  cases he2
  refine zLT_congr (fun k hk1 hk2 => ?_) (E a t _ g ht hz he)
  have := F.2 a t _ _ ht he he' k (hno k hk1 hk2)
  rw [z_rd0, z_rd0, if_pos (by omega), if_pos (by omega)] at this
  exact Value.int.inj (Option.some.inj this)
theorem zno_ok {ms : List zMod} (h : zno ms = true) {t : Nat} (hz : zlT3 t) {i : Nat} (h1 : 388 ≤ i) (h2 : i ≤ 1236) : ¬ zIn ms t i := by
  rintro ⟨m, hm, m1, m2, m3⟩
  have := List.all_eq_true.mp h m hm
  simp only [Bool.and_eq_true, Bool.or_eq_true, decide_eq_true_eq] at this
  unfold zlT3 at hz
  omega
/-- one cell of each type of the model's -/
noncomputable def zE0 (ty : List Nat) : Prop := ∀ a b t : Nat, 20 ≤ t → t ≤ 32 → ty[a]? = some t → ty[b]? = some t → a = b
noncomputable def zE1 (ty : List Nat) (h : zH) : Prop := zE0 ty ∧ zEt ty h
theorem zE1_stable {ms : List zMod} (h : zno ms = true) : zStable z_tt zE1 ms := fun _ _ _ T T' _ F E => ⟨E.1, fun _ _ _ _ ht hz he => zEt_keep T T' F ht hz he (fun _ h1 h2 => zno_ok h hz h1 h2) E.2⟩
noncomputable def znt (ms : List zMod) (t : Nat) : Bool := ms.all (fun m => decide (m.1 ≠ t) || (decide (m.2.2 < 388) || decide (1236 < m.2.1)))
theorem znt_ok {ms : List zMod} {t : Nat} (h : znt ms t = true) {i : Nat} (h1 : 388 ≤ i) (h2 : i ≤ 1236) : ¬ zIn ms t i := by
  rintro ⟨m, hm, m1, m2, m3⟩
  have := List.all_eq_true.mp h m hm
  rw [Bool.or_eq_true, Bool.or_eq_true, decide_eq_true_eq, decide_eq_true_eq, decide_eq_true_eq] at this
  omega
