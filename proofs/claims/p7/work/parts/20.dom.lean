/-! ABSTRACT VALUES: a tag, a least, a most. 0: an int; 1: a long; 2: a cell whose type lies between; 3: that or null; 4: null; 5: a text; else the script -/
abbrev zA : Type := Nat × Int × Int
abbrev zTy : Type := Nat × Nat × Nat × List (Int × Int × zA)
abbrev zMod : Type := Nat × Int × Int
noncomputable def zG (ty : List Nat) (a : zA) (v : Value) : Prop := match a with
  | (0, lo, hi) => ∃ x : Int32, v = .int x ∧ lo ≤ x.toInt ∧ x.toInt ≤ hi
  | (1, lo, hi) => ∃ x : Int64, v = .long x ∧ lo ≤ x.toInt ∧ x.toInt ≤ hi
  | (2, lo, hi) => ∃ i t : Nat, v = .ref i ∧ ty[i]? = some t ∧ lo ≤ (t : Int) ∧ (t : Int) ≤ hi
  | (3, lo, hi) => v = .null ∨ ∃ i t : Nat, v = .ref i ∧ ty[i]? = some t ∧ lo ≤ (t : Int) ∧ (t : Int) ≤ hi
  | (4, _, _) => v = .null
  | (5, k, _) => v = .ref (zB + k.toNat)
  | _ => v = .ref zS
noncomputable def zRi (a b : zA) : Bool := decide (b.2.1 ≤ a.2.1) && decide (a.2.2 ≤ b.2.2)
noncomputable def zLe (a b : zA) : Bool := match a.1, b.1 with
  | 0, 0 => zRi a b
  | 1, 1 => zRi a b
  | 2, 2 => zRi a b
  | 3, 3 => zRi a b
  | 2, 3 => zRi a b
  | 4, 3 => true
  | _, _ => decide (a = b)
theorem zRi_ok {a b : zA} (h : zRi a b = true) : b.2.1 ≤ a.2.1 ∧ a.2.2 ≤ b.2.2 := by
  unfold zRi at h
  simpa using h
theorem zLe_ok {ty : List Nat} {a b : zA} {v : Value} (h : zLe a b = true) (g : zG ty a v) : zG ty b v := by
  obtain ⟨ta, la, ha⟩ := a
  obtain ⟨tb, lb, hb⟩ := b
  unfold zLe at h
  split at h
  · next e1 e2 =>
    dsimp only at e1 e2; subst e1; subst e2
    obtain ⟨h1, h2⟩ := zRi_ok h
    obtain ⟨x, rfl, g1, g2⟩ := g
    exact ⟨x, rfl, Int.le_trans h1 g1, Int.le_trans g2 h2⟩
  · next e1 e2 =>
    dsimp only at e1 e2; subst e1; subst e2
    obtain ⟨h1, h2⟩ := zRi_ok h
    obtain ⟨x, rfl, g1, g2⟩ := g
    exact ⟨x, rfl, Int.le_trans h1 g1, Int.le_trans g2 h2⟩
  · next e1 e2 =>
    dsimp only at e1 e2; subst e1; subst e2
    obtain ⟨h1, h2⟩ := zRi_ok h
    obtain ⟨i, t, rfl, g0, g1, g2⟩ := g
    exact ⟨i, t, rfl, g0, Int.le_trans h1 g1, Int.le_trans g2 h2⟩
  · next e1 e2 =>
    dsimp only at e1 e2; subst e1; subst e2
    obtain ⟨h1, h2⟩ := zRi_ok h
    rcases g with g | ⟨i, t, rfl, g0, g1, g2⟩
    · exact Or.inl g
    · exact Or.inr ⟨i, t, rfl, g0, Int.le_trans h1 g1, Int.le_trans g2 h2⟩
  · next e1 e2 =>
    dsimp only at e1 e2; subst e1; subst e2
    obtain ⟨h1, h2⟩ := zRi_ok h
    obtain ⟨i, t, rfl, g0, g1, g2⟩ := g
    exact Or.inr ⟨i, t, rfl, g0, Int.le_trans h1 g1, Int.le_trans g2 h2⟩
  · next e1 e2 =>
    dsimp only at e1 e2; subst e1; subst e2
    exact Or.inl g
  · rw [← of_decide_eq_true h]
    exact g
noncomputable def zExt (ty ty' : List Nat) : Prop := ∀ i t : Nat, ty[i]? = some t → ty'[i]? = some t
theorem zExt.rf {ty : List Nat} : zExt ty ty := fun _ _ h => h
theorem zExt.tr {a b c : List Nat} (h1 : zExt a b) (h2 : zExt b c) : zExt a c := fun i t h => h2 i t (h1 i t h)
theorem zG_ext {ty ty' : List Nat} {a : zA} {v : Value} (h : zExt ty ty') (g : zG ty a v) : zG ty' a v := by
  unfold zG at g ⊢
  split at g
  · exact g
  · exact g
  · obtain ⟨i, t, e, g0, g1⟩ := g
    exact ⟨i, t, e, h i t g0, g1⟩
  · rcases g with g | ⟨i, t, e, g0, g1⟩
    · exact Or.inl g
    · exact Or.inr ⟨i, t, e, h i t g0, g1⟩
  · exact g
  · exact g
  · next n1 n2 n3 n4 n5 n6 =>
    obtain ⟨t, lo, hi⟩ := a
    exact g
/-! places of a cell -/
noncomputable def z_rd (e : zE) (i : Nat) : Option Value := match e with
  | .inr (_, fs) => fs[i]?
  | .inl (0, (n, .inl f)) => if i < n then some (.int (f i)) else none
  | .inl (1, (n, .inl f)) => if i < n then some (.int (f i)) else none
  | .inl (2, (n, .inr (.inl f))) => if i < n then some (.long (f i)) else none
  | .inl (3, (n, .inr (.inr (.inr (.inr f))))) => if i < n then some (va_rf (f i)) else none
  | _ => none
/-- the cell is of this shape: 0 an object of a class, 1 ints, 2 bytes, 3 longs, 4 cells -/
noncomputable def z_sh (T : zTy) (e : zE) : Prop := match T.1, e with
  | 0, .inr (c, fs) => c = T.2.1 ∧ fs.length = T.2.2.1
  | 1, .inl (0, (n, .inl _)) => n = T.2.2.1
  | 2, .inl (1, (n, .inl _)) => n = T.2.2.1
  | 3, .inl (2, (n, .inr (.inl _))) => n = T.2.2.1
  | 4, .inl (3, (n, .inr (.inr (.inr (.inr _))))) => n = T.2.2.1
  | _, _ => False
/-- the heap is typed: each cell of its type's shape, each place within its region's values -/
noncomputable def zTY (tt : Nat → zTy) (ty : List Nat) (h : zH) : Prop := ty.length = h.length ∧ h.length ≤ zB ∧ ∀ (a t : Nat) (e : zE), ty[a]? = some t → h[a]? = some e → z_sh (tt t) e ∧ ∀ (i : Nat) (v : Value), z_rd e i = some v → ∀ r ∈ (tt t).2.2.2, r.1 ≤ (i : Int) → (i : Int) ≤ r.2.1 → zG ty r.2.2 v
noncomputable def zIn (ms : List zMod) (t : Nat) (i : Nat) : Prop := ∃ m ∈ ms, m.1 = t ∧ m.2.1 ≤ (i : Int) ∧ (i : Int) ≤ m.2.2
/-- nothing has changed but at places that ms names -/
noncomputable def zFm (ms : List zMod) (ty : List Nat) (h h' : zH) : Prop := h.length ≤ h'.length ∧ ∀ (a t : Nat) (e e' : zE), ty[a]? = some t → h[a]? = some e → h'[a]? = some e' → ∀ i, ¬ zIn ms t i → z_rd e' i = z_rd e i
theorem zFm.rf {ms : List zMod} {ty : List Nat} {h : zH} : zFm ms ty h h := ⟨Nat.le_refl _, fun a t e e' _ h1 h2 i _ => by rw [h1] at h2; cases h2; rfl⟩
theorem zFm.tr {ms : List zMod} {ty ty' : List Nat} {h h' h'' : zH} (h1 : zFm ms ty h h') (hx : zExt ty ty') (h2 : zFm ms ty' h' h'') : zFm ms ty h h'' := by
  refine ⟨Nat.le_trans h1.1 h2.1, fun a t e e'' ht he he'' i hi => ?_⟩
  have hl : a < h'.length := Nat.lt_of_lt_of_le (List.getElem?_eq_some_iff.mp he).1 h1.1
  rw [h2.2 a t h'[a] e'' (hx a t ht) (List.getElem?_eq_getElem hl) he'' i hi, h1.2 a t e h'[a] ht he (List.getElem?_eq_getElem hl) i hi]
theorem zFm.mono {ms ms' : List zMod} {ty : List Nat} {h h' : zH} (h1 : zFm ms ty h h') (hm : ∀ t i, zIn ms t i → zIn ms' t i) : zFm ms' ty h h' := ⟨h1.1, fun a t e e' ht he he' i hi => h1.2 a t e e' ht he he' i (fun q => hi (hm t i q))⟩
/-- one place is written -/
theorem zTY.wr {tt : Nat → zTy} {ty : List Nat} {h : zH} {a t : Nat} {e e' : zE} {i : Nat} {v : Value} (H : zTY tt ty h) (ht : ty[a]? = some t) (he : h[a]? = some e) (hs : z_sh (tt t) e') (hr : ∀ j, z_rd e' j = if j = i then some v else z_rd e j) (hv : ∀ r ∈ (tt t).2.2.2, r.1 ≤ (i : Int) → (i : Int) ≤ r.2.1 → zG ty r.2.2 v) : zTY tt ty (h.set a e') := by
  refine ⟨by rw [List.length_set]; exact H.1, by rw [List.length_set]; exact H.2.1, fun b s f hs1 hf => ?_⟩
  by_cases hb : b = a
  · subst hb
    have hl := (List.getElem?_eq_some_iff.mp he).1
    rw [List.getElem?_set_self hl] at hf
    cases hf
    rw [ht] at hs1
    cases hs1
    refine ⟨hs, fun j w hw r hr1 h1 h2 => ?_⟩
    rw [hr j] at hw
    by_cases hj : j = i
    · subst hj
      rw [if_pos rfl] at hw
      cases hw
      exact hv r hr1 h1 h2
    · rw [if_neg hj] at hw
      exact (H.2.2 b _ e ht he).2 j w hw r hr1 h1 h2
  · rw [List.getElem?_set_ne (fun q => hb q.symm)] at hf
    exact H.2.2 b s f hs1 hf
theorem zFm.wr {ms : List zMod} {ty : List Nat} {h : zH} {a t : Nat} {e e' : zE} {i : Nat} {v : Value} (ht : ty[a]? = some t) (he : h[a]? = some e) (hr : ∀ j, z_rd e' j = if j = i then some v else z_rd e j) (hm : zIn ms t i) : zFm ms ty h (h.set a e') := by
  refine ⟨by rw [List.length_set]; exact Nat.le_refl _, fun b s f f' hs hf hf' j hj => ?_⟩
  by_cases hb : b = a
  · subst hb
    rw [List.getElem?_set_self (List.getElem?_eq_some_iff.mp he).1] at hf'
    cases hf'
    rw [he] at hf
    cases hf
    rw [ht] at hs
    cases hs
    rw [hr j, if_neg (fun q => hj (by rw [q]; exact hm))]
  · rw [List.getElem?_set_ne (fun q => hb q.symm), hf] at hf'
    cases hf'
    rfl
theorem z_rd_obj {c : Nat} {fs : List Value} {i : Nat} {v : Value} (hi : i < fs.length) (j : Nat) : z_rd (.inr (c, fs.set i v)) j = if j = i then some v else z_rd (.inr (c, fs)) j := by
  unfold z_rd
  dsimp only
  by_cases h : j = i
  · subst h; rw [if_pos rfl, List.getElem?_set_self hi]
  · rw [if_neg h, List.getElem?_set_ne (fun q => h q.symm)]
theorem z_rd0 {n : Nat} {f : Nat → Int32} {i : Nat} : z_rd (.inl (0, (n, .inl f))) i = if i < n then some (.int (f i)) else none := rfl
theorem z_rd1 {n : Nat} {f : Nat → Int32} {i : Nat} : z_rd (.inl (1, (n, .inl f))) i = if i < n then some (.int (f i)) else none := rfl
theorem z_rd2 {n : Nat} {f : Nat → Int64} {i : Nat} : z_rd (.inl (2, (n, .inr (.inl f)))) i = if i < n then some (.long (f i)) else none := rfl
theorem z_rd3 {n : Nat} {f : Nat → Option Nat} {i : Nat} : z_rd (.inl (3, (n, .inr (.inr (.inr (.inr f)))))) i = if i < n then some (va_rf (f i)) else none := rfl
theorem z_rd_int {n : Nat} {f : Nat → Int32} {i : Nat} {x : Int32} (hi : i < n) (j : Nat) : z_rd (.inl (0, (n, .inl (upd f i x)))) j = if j = i then some (.int x) else z_rd (.inl (0, (n, .inl f))) j := by
  rw [z_rd0, z_rd0]
  unfold upd
  by_cases h : j = i
  · subst h; rw [if_pos rfl, if_pos hi, if_pos rfl]
  · rw [if_neg h, if_neg h]
theorem z_rd_byte {n : Nat} {f : Nat → Int32} {i : Nat} {x : Int32} (hi : i < n) (j : Nat) : z_rd (.inl (1, (n, .inl (upd f i x)))) j = if j = i then some (.int x) else z_rd (.inl (1, (n, .inl f))) j := by
  rw [z_rd1, z_rd1]
  unfold upd
  by_cases h : j = i
  · subst h; rw [if_pos rfl, if_pos hi, if_pos rfl]
  · rw [if_neg h, if_neg h]
theorem z_rd_long {n : Nat} {f : Nat → Int64} {i : Nat} {x : Int64} (hi : i < n) (j : Nat) : z_rd (.inl (2, (n, .inr (.inl (vp_updL f i x))))) j = if j = i then some (.long x) else z_rd (.inl (2, (n, .inr (.inl f)))) j := by
  rw [z_rd2, z_rd2]
  unfold vp_updL
  by_cases h : j = i
  · subst h; rw [if_pos rfl, if_pos hi, if_pos rfl]
  · rw [if_neg h, if_neg h]
/-! numbers -/
theorem z_bm {n : Int} (h1 : -2147483648 ≤ n) (h2 : n ≤ 2147483647) : n.bmod (2 ^ 32) = n := by
  rw [Int.bmod_def]
  split <;> omega
theorem z_bm64 {n : Int} (h1 : -9223372036854775808 ≤ n) (h2 : n ≤ 9223372036854775807) : n.bmod (2 ^ 64) = n := by
  rw [Int.bmod_def]
  split <;> omega
theorem zb32 (x : Int32) : -2147483648 ≤ x.toInt ∧ x.toInt ≤ 2147483647 := by
  have h1 := x.le_toInt
  have h2 := x.toInt_lt
  omega
theorem zb64 (x : Int64) : -9223372036854775808 ≤ x.toInt ∧ x.toInt ≤ 9223372036854775807 := by
  have h1 := x.le_toInt
  have h2 := x.toInt_lt
  omega
theorem z_of32 {n : Int} (h1 : -2147483648 ≤ n) (h2 : n ≤ 2147483647) : (Int32.ofInt n).toInt = n := Int32.toInt_ofInt_of_le (by omega) (by omega)
theorem z_of64 {n : Int} (h1 : -9223372036854775808 ≤ n) (h2 : n ≤ 9223372036854775807) : (Int64.ofInt n).toInt = n := Int64.toInt_ofInt_of_le (by omega) (by omega)
theorem z_inn {i : Int32} {n : Nat} (h1 : 0 ≤ i.toInt) (h2 : i.toInt < (n : Int)) : z_in i n = true ∧ i.toNatClampNeg < n ∧ (i.toNatClampNeg : Int) = i.toInt := by
  have e : i.toNatClampNeg = i.toInt.toNat := rfl
  have h0 : ¬ i < 0 := by
    rw [Int32.lt_iff_toInt_lt]
    show ¬ i.toInt < (0 : Int32).toInt
    rw [show (0 : Int32).toInt = 0 from rfl]
    omega
  refine ⟨?_, by rw [e]; omega, by rw [e]; omega⟩
  unfold z_in
  rw [decide_eq_false h0, decide_eq_false (by rw [e]; omega)]
  rfl
