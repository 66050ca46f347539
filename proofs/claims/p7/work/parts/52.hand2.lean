/-! typed steps by hand; loops -/
theorem zcell {ty : List Nat} {h : zH} {a t : Nat} (T : zTY z_tt ty h) (ht : ty[a]? = some t) : ∃ e, h[a]? = some e ∧ z_sh (z_tt t) e ∧ ∀ (i : Nat) (v : Value), z_rd e i = some v → ∀ r ∈ (z_tt t).2.2.2, r.1 ≤ (i : Int) → (i : Int) ≤ r.2.1 → zG ty r.2.2 v := by
  have hl : a < h.length := by rw [← T.1]; exact (List.getElem?_eq_some_iff.mp ht).1
  have he : h[a]? = some h[a] := List.getElem?_eq_getElem hl
  exact ⟨h[a], he, T.2.2 a t _ ht he⟩
theorem zcell0 {ty : List Nat} {h : zH} {a t c n : Nat} (T : zTY z_tt ty h) (ht : ty[a]? = some t) (hk : (z_tt t).1 = 0) (hc : (z_tt t).2.1 = c) (hn : (z_tt t).2.2.1 = n) : ∃ fs : List Value, h[a]? = some (.inr (c, fs)) ∧ fs.length = n := by
  obtain ⟨e, he, hs, -⟩ := zcell T ht
  obtain ⟨fs, rfl, hl⟩ := zsh0 hs hk
  exact ⟨fs, by rw [he, hc], by rw [hl, hn]⟩
theorem zcell1 {ty : List Nat} {h : zH} {a t n : Nat} (T : zTY z_tt ty h) (ht : ty[a]? = some t) (hk : (z_tt t).1 = 1) (hn : (z_tt t).2.2.1 = n) : ∃ f : Nat → Int32, h[a]? = some (.inl (0, (n, .inl f))) := by
  obtain ⟨e, he, hs, -⟩ := zcell T ht
  obtain ⟨f, rfl⟩ := zsh1 hs hk
  exact ⟨f, by rw [he, hn]⟩
theorem zcell2 {ty : List Nat} {h : zH} {a t n : Nat} (T : zTY z_tt ty h) (ht : ty[a]? = some t) (hk : (z_tt t).1 = 2) (hn : (z_tt t).2.2.1 = n) : ∃ f : Nat → Int32, h[a]? = some (.inl (1, (n, .inl f))) := by
  obtain ⟨e, he, hs, -⟩ := zcell T ht
  obtain ⟨f, rfl⟩ := zsh2 hs hk
  exact ⟨f, by rw [he, hn]⟩
/-- a field's value, of its region -/
theorem zfd {ty : List Nat} {h : zH} {a t c b : Nat} {fs : List Value} {A : zA} (T : zTY z_tt ty h) (ht : ty[a]? = some t) (he : h[a]? = some (.inr (c, fs))) (hb : b < fs.length) (hr : zrg (z_tt t).2.2.2 (b : Int) (b : Int) = some A) : ∃ v, fs[b]? = some v ∧ zG ty A v := by
  obtain ⟨r, hm, r1, r2, hg⟩ := zrg_ok _ _ _ _ hr (b : Int) (Int.le_refl _) (Int.le_refl _)
  have hv : fs[b]? = some fs[b] := List.getElem?_eq_getElem hb
  exact ⟨fs[b], hv, hg ty _ ((T.2.2 a t _ ht he).2 b _ hv r hm r1 r2)⟩
/-- a place's value in an array of ints -/
theorem zel {ty : List Nat} {h : zH} {a t n i : Nat} {f : Nat → Int32} {A : zA} {lo hi : Int} (T : zTY z_tt ty h) (ht : ty[a]? = some t) (he : h[a]? = some (.inl (0, (n, .inl f)))) (hi1 : i < n) (hr : zrg (z_tt t).2.2.2 lo hi = some A) (h1 : lo ≤ (i : Int)) (h2 : (i : Int) ≤ hi) : zG ty A (.int (f i)) := by
  obtain ⟨r, hm, r1, r2, hg⟩ := zrg_ok _ _ _ _ hr (i : Int) h1 h2
  exact hg ty _ ((T.2.2 a t _ ht he).2 i _ (by rw [z_rd0, if_pos hi1]) r hm r1 r2)
theorem zint {ty : List Nat} {lo hi : Int} {x : Int32} (g : zG ty (0, lo, hi) (.int x)) : lo ≤ x.toInt ∧ x.toInt ≤ hi := by
  obtain ⟨y, e, h1, h2⟩ := g
  cases e
  exact ⟨h1, h2⟩
/-- a field that holds a cell of one type -/
theorem zfd2 {ty : List Nat} {h : zH} {a t c b u : Nat} {fs : List Value} (T : zTY z_tt ty h) (ht : ty[a]? = some t) (he : h[a]? = some (.inr (c, fs))) (hb : b < fs.length) (hr : zrg (z_tt t).2.2.2 (b : Int) (b : Int) = some (2, (u : Int), (u : Int))) : ∃ w : Nat, fs[b]? = some (.ref w) ∧ ty[w]? = some u := by
  obtain ⟨v, hv, g⟩ := zfd T ht he hb hr
  obtain ⟨w, t9, rfl, h1, h2, h3⟩ := g
  have : t9 = u := by omega
  subst this
  exact ⟨w, hv, h1⟩
theorem zfd0 {ty : List Nat} {h : zH} {a t c b : Nat} {fs : List Value} {lo hi : Int} (T : zTY z_tt ty h) (ht : ty[a]? = some t) (he : h[a]? = some (.inr (c, fs))) (hb : b < fs.length) (hr : zrg (z_tt t).2.2.2 (b : Int) (b : Int) = some (0, lo, hi)) : ∃ x : Int32, fs[b]? = some (.int x) ∧ lo ≤ x.toInt ∧ x.toInt ≤ hi := by
  obtain ⟨v, hv, g⟩ := zfd T ht he hb hr
  obtain ⟨x, rfl, h1, h2⟩ := g
  exact ⟨x, hv, h1, h2⟩
/-- a place of an array of ints is written: what stays -/
theorem zwr {ms : List zMod} {ty : List Nat} {h : zH} {a t n i : Nat} {f : Nat → Int32} {x : Int32} (T : zTY z_tt ty h) (ht : ty[a]? = some t) (he : h[a]? = some (.inl (0, (n, .inl f)))) (hi : i < n) (hv : ∀ r ∈ (z_tt t).2.2.2, r.1 ≤ (i : Int) → (i : Int) ≤ r.2.1 → zG ty r.2.2 (.int x)) (hm : zIn ms t i) : zTY z_tt ty (h.set a (.inl (0, (n, .inl (upd f i x))))) ∧ zFm ms ty h (h.set a (.inl (0, (n, .inl (upd f i x))))) := by
  have hs := (T.2.2 a t _ ht he).1
  have hs' : z_sh (z_tt t) (.inl (0, (n, .inl (upd f i x)))) := by
    unfold z_sh at hs ⊢
    split at hs
    all_goals first
      | exact hs
      | contradiction
      | skip
    all_goals simp_all
  exact ⟨T.wr ht he hs' (z_rd_int hi) hv, zFm.wr ht he (z_rd_int hi) hm⟩
/-- a field is written: what stays -/
theorem zwf {ms : List zMod} {ty : List Nat} {h : zH} {a t c b : Nat} {fs : List Value} {v : Value} (T : zTY z_tt ty h) (ht : ty[a]? = some t) (he : h[a]? = some (.inr (c, fs))) (hb : b < fs.length) (hv : ∀ r ∈ (z_tt t).2.2.2, r.1 ≤ (b : Int) → (b : Int) ≤ r.2.1 → zG ty r.2.2 v) (hm : zIn ms t b) : zTY z_tt ty (h.set a (.inr (c, fs.set b v))) ∧ zFm ms ty h (h.set a (.inr (c, fs.set b v))) := by
  have hs := (T.2.2 a t _ ht he).1
  have hs' : z_sh (z_tt t) (.inr (c, fs.set b v)) := by
    unfold z_sh at hs ⊢
    split at hs
    all_goals first
      | exact hs
      | contradiction
      | skip
    all_goals simp_all
  exact ⟨T.wr ht he hs' (z_rd_obj hb) hv, zFm.wr ht he (z_rd_obj hb) hm⟩
/-- a counted loop -/
theorem zloop {sx : zX} {d j k : Nat} {Ψ : zO → zH → Nat → Nat → Prop} (lo : Int32 → zL) (N : Nat) (Q : Nat → zH → Prop) (hs : ∀ (i : Nat) (x : Int32) (h : zH), x.toInt = (i : Int) → i < N → Q i h → (∀ (x' : Int32) (h' : zH), x'.toInt = ((i + 1 : Nat) : Int) → Q (i + 1) h' → z_ok sx d j k (lo x') [] h' Ψ) → z_ok sx d j k (lo x) [] h Ψ) (he : ∀ (x : Int32) (h : zH), x.toInt = (N : Int) → Q N h → z_ok sx d j k (lo x) [] h Ψ) : ∀ (r i : Nat) (x : Int32) (h : zH), i + r = N → x.toInt = (i : Int) → Q i h → z_ok sx d j k (lo x) [] h Ψ
  | 0, i, x, h, hr, hx, q => he x h (by rw [hx]; omega) (by rw [← hr]; exact q)
  | r + 1, i, x, h, hr, hx, q => hs i x h hx (by omega) q (fun x' h' hx' q' => zloop lo N Q hs he r (i + 1) x' h' (by omega) hx' q')
theorem zinc {x : Int32} {i : Nat} (hx : x.toInt = (i : Int)) (hi : i < 100000) : (x + Int32.ofInt 1).toInt = ((i + 1 : Nat) : Int) := by
  rw [Int32.toInt_add, hx, show (Int32.ofInt 1).toInt = 1 from rfl]
  exact z_bm (by omega) (by omega)
theorem znat {x : Int32} {i : Nat} (hx : x.toInt = (i : Int)) : x.toNatClampNeg = i := by
  have : x.toNatClampNeg = x.toInt.toNat := rfl
  omega
theorem zset_ne {h : zH} {a b : Nat} {e : zE} (hn : a ≠ b) : (h.set a e)[b]? = h[b]? := List.getElem?_set_ne hn
theorem zset_eq {h : zH} {a : Nat} {e e' : zE} (he : h[a]? = some e') : (h.set a e)[a]? = some e := List.getElem?_set_self (List.getElem?_eq_some_iff.mp he).1
