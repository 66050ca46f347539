/-! THE SKELETON: which cell each field of the two objects and of their houses holds; it stays as it was made -/
noncomputable def zHty : List Nat := [8, 16, 9, 10, 10, 10, 10, 11, 12, 12, 13, 14, 12]
noncomputable def zty1 : List Nat := [1, 2, 3, 4, 5, 5, 6, 7] ++ zHty ++ zHty ++ zHty ++ [17, 18] ++ zHty ++ zHty ++ zHty ++ zHty ++ zHty ++ zHty ++ zHty ++ zHty ++ zHty ++ zHty ++ zHty ++ zHty ++ [20, 21, 22, 23, 24, 25, 26, 27, 28, 29, 30, 31, 32, 33]
noncomputable def zHsk (b : Nat) : List (Nat × Nat × Nat) := [(b, 0, b + 1), (b, 1, b + 2), (b, 2, b + 7), (b, 3, b + 10), (b, 4, b + 12), (b + 2, 0, b + 3), (b + 2, 1, b + 4), (b + 2, 2, b + 5), (b + 2, 3, b + 6), (b + 7, 0, b + 8), (b + 7, 1, b + 9), (b + 10, 0, b + 11)]
noncomputable def zHbs : List Nat := [8, 21, 34, 49, 62, 75, 88, 101, 114, 127, 140, 153, 166, 179, 192]
noncomputable def zskl : List (Nat × Nat × Nat) := [(0, 0, 1), (0, 1, 3), (0, 2, 8), (0, 3, 21), (0, 4, 34), (0, 5, 47), (1, 0, 2), (3, 0, 4), (3, 1, 5), (3, 2, 6), (3, 3, 7), (47, 0, 48)] ++ (List.range 12).map (fun i => (48, i, 49 + 13 * i)) ++ zHbs.flatMap zHsk ++ [(205, 1, 206), (205, 2, 207), (205, 3, 208), (205, 4, 209), (205, 5, 210), (205, 8, 211), (205, 15, 212), (205, 17, 213), (205, 18, 214), (205, 19, 215), (205, 20, 216), (205, 21, 217)]
noncomputable def zSkl (h : zH) : Prop := ∀ q ∈ zskl, zv h q.1 q.2.1 = .ref q.2.2
noncomputable def zinB (ms : List zMod) (t i : Nat) : Bool := ms.any (fun m => decide (m.1 = t) && (decide (m.2.1 ≤ (i : Int)) && decide ((i : Int) ≤ m.2.2)))
theorem zinB_ok {ms : List zMod} {t i : Nat} (h : zinB ms t i = false) : ¬ zIn ms t i := by
  rintro ⟨m, hm, m1, m2, m3⟩
  have : zinB ms t i = true := List.any_eq_true.mpr ⟨m, hm, by rw [Bool.and_eq_true, Bool.and_eq_true, decide_eq_true_eq, decide_eq_true_eq, decide_eq_true_eq]; exact ⟨m1, m2, m3⟩⟩
  rw [this] at h
  cases h
/-- a place that is not among the changed ones -/
theorem zv_keep {ms : List zMod} {ty ty' : List Nat} {h h' : zH} {c t k : Nat} (T : zTY z_tt ty h) (T' : zTY z_tt ty' h') (F : zFm ms ty h h') (ht : ty[c]? = some t) (hn : ¬ zIn ms t k) : zv h' c k = zv h c k := by
  have hl : c < h.length := by rw [← T.1]; exact (List.getElem?_eq_some_iff.mp ht).1
  have hl' : c < h'.length := Nat.lt_of_lt_of_le hl F.1
  have e : h[c]? = some h[c] := List.getElem?_eq_getElem hl
  have e' : h'[c]? = some h'[c] := List.getElem?_eq_getElem hl'
  rw [zv_at e, zv_at e', F.2 c t _ _ ht e e' k hn]
noncomputable def zskOK (ms : List zMod) : Bool := zskl.all (fun q => !zinB ms (zty1.getD q.1 0) q.2.1)
theorem zskl_ty : zskl.all (fun q => decide (q.1 < zty1.length)) = true := by decide +kernel
theorem zSkl.keep {ms : List zMod} {ty ty' : List Nat} {h h' : zH} (H : zSkl h) (T : zTY z_tt ty h) (T' : zTY z_tt ty' h') (F : zFm ms ty h h') (X : zExt zty1 ty) (hm : zskOK ms = true) : zSkl h' := by
  intro q hq
  have h1 := List.all_eq_true.mp hm q hq
  have h2 := of_decide_eq_true (List.all_eq_true.mp zskl_ty q hq)
  have ht : ty[q.1]? = some (zty1.getD q.1 0) := X _ _ (by rw [List.getD_eq_getElem?_getD, List.getElem?_eq_getElem h2]; rfl)
  rw [zv_keep T T' F ht (zinB_ok (by simpa using h1))]
  exact H q hq
/-- bytes alike: the class's unsigned, the reference's signed -/
noncomputable def zByq (h : zH) : Prop := ∀ k, 0 ≤ cu (za h) 1 k ∧ cu (za h) 1 k ≤ 255 ∧ rb (za h) 205 k = cb (za h) 1 k
noncomputable def zby3 (ms : List zMod) : Bool := ms.all (fun m => decide (m.1 ≠ 3) && decide (m.1 ≠ 26))
theorem zNo {ms : List zMod} {t k : Nat} (h : ∀ m ∈ ms, m.1 ≠ t) : ¬ zIn ms t k := by
  rintro ⟨m, hm, m1, -⟩
  exact h m hm m1
theorem zSkl.at {h : zH} (H : zSkl h) (q : Nat × Nat × Nat) (hq : (zskl.elem q) = true) : zv h q.1 q.2.1 = .ref q.2.2 := H q (List.elem_iff.mp hq)
theorem zByq.keep {ms : List zMod} {ty ty' : List Nat} {h h' : zH} (H : zByq h) (S : zSkl h) (S' : zSkl h') (T : zTY z_tt ty h) (T' : zTY z_tt ty' h') (F : zFm ms ty h h') (X : zExt zty1 ty) (hm : zby3 ms = true) : zByq h' := by
  have hb := List.all_eq_true.mp hm
  have e2 : ∀ k, zv h' 2 k = zv h 2 k := fun k => zv_keep T T' F (X 2 3 (by decide +kernel)) (zNo (fun m h9 => by have := hb m h9; rw [Bool.and_eq_true, decide_eq_true_eq] at this; exact this.1))
  have e211 : ∀ k, zv h' 211 k = zv h 211 k := fun k => zv_keep T T' F (X 211 26 (by decide +kernel)) (zNo (fun m h9 => by have := hb m h9; rw [Bool.and_eq_true, decide_eq_true_eq, decide_eq_true_eq] at this; exact this.2))
  have c1 : ∀ k, cu (za h') 1 k = cu (za h) 1 k := by
    intro k
    show (q_i (zv h' (q_r (zv h' 1 0)) k)).toInt = (q_i (zv h (q_r (zv h 1 0)) k)).toInt
    rw [S.at (1, 0, 2) (by decide +kernel), S'.at (1, 0, 2) (by decide +kernel)]
    exact congrArg (fun v => (q_i v).toInt) (e2 k)
  have r1 : ∀ k, rb (za h') 205 k = rb (za h) 205 k := by
    intro k
    show (q_i (zv h' (q_r (zv h' 205 8)) k)).toInt = (q_i (zv h (q_r (zv h 205 8)) k)).toInt
    rw [S.at (205, 8, 211) (by decide +kernel), S'.at (205, 8, 211) (by decide +kernel)]
    exact congrArg (fun v => (q_i v).toInt) (e211 k)
  intro k
  have := H k
  unfold cb at this ⊢
  rw [c1 k, r1 k]
  exact this
