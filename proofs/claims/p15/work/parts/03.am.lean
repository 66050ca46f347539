section
/-! THE ABSTRACT MACHINE: cells by their numbers, values as the machine's, references as numbers of cells (below zB), of texts (zB + k), the script (zS) -/
abbrev zE : Type := (Nat × vp_A) ⊕ (Nat × List Value)
abbrev zH : Type := List zE
abbrev zL : Type := List (Nat × Value)
abbrev zI : Type := Nat × Nat × Nat × Int
abbrev zO : Type := Option Value ⊕ Nat
abbrev zX : Type := Nat × (Nat → Int32)
abbrev zN : Type := Nat × zL × List Value × zH × Nat × Nat
noncomputable def zB : Nat := 1048576
noncomputable def zS : Nat := 2097152
noncomputable def z_tr (ad : Nat → Nat) (v : Value) : Value := match v with
  | .ref i => .ref (ad i)
  | v => v
noncomputable def z_trA (ad : Nat → Nat) (a : vp_A) : vp_A := match a with
  | (n, .inr (.inr (.inr (.inr f)))) => (n, .inr (.inr (.inr (.inr (fun j => (f j).map ad)))))
  | a => a
noncomputable def z_trE (ad : Nat → Nat) (tc : Nat → ClassId) (e : zE) : va_E := match e with
  | .inl (t, a) => .inl (tc t, z_trA ad a)
  | .inr (c, fs) => .inr (c, fs.map (z_tr ad))
noncomputable def z_ws (ad : Nat → Nat) (tc : Nat → ClassId) (h : zH) : va_W := h.mapIdx (fun i e => (ad i, z_trE ad tc e))
noncomputable def z_okV (n : Nat) (v : Value) : Prop := ∀ i, v = .ref i → i < n ∨ zB ≤ i
noncomputable def z_okE (n : Nat) (e : zE) : Prop := match e with
  | .inl (_, (_, .inr (.inr (.inr (.inr f))))) => ∀ j i, f j = some i → i < n
  | .inl _ => True
  | .inr (_, fs) => ∀ v ∈ fs, z_okV n v
/-- the abstract heap h, its cells at ad, is what the machine's heap H holds at and above Z -/
noncomputable def z_R (Z : Nat) (D : va_G) (tc : Nat → ClassId) (ad : Nat → Nat) (h : zH) (H : Heap) : Prop :=
  va_P D vwCl (z_ws ad tc h) H ∧ va_D (fun q => Z ≤ q) (z_ws ad tc h) ∧ (∀ e ∈ h, z_okE h.length e) ∧ h.length ≤ zB
noncomputable def z_up (ad : Nat → Nat) (n q : Nat) : Nat → Nat := fun i => if i = n then q else ad i
noncomputable def z_ag (n : Nat) (ad ad' : Nat → Nat) : Prop := ∀ i, (i < n ∨ zB ≤ i) → ad' i = ad i
theorem z_ag.rf {n : Nat} {ad : Nat → Nat} : z_ag n ad ad := fun _ _ => rfl
theorem z_ag.trans {n m : Nat} {a b c : Nat → Nat} (h1 : z_ag n a b) (h2 : z_ag m b c) (hn : n ≤ m) : z_ag n a c := fun i hi => by
  rw [h2 i (by omega), h1 i hi]
theorem z_up.ag {ad : Nat → Nat} {n q : Nat} (hn : n < zB) : z_ag n ad (z_up ad n q) := fun i hi => by
  unfold z_up
  rw [if_neg (by omega)]
theorem z_tr_ref (ad : Nat → Nat) (i : Nat) : z_tr ad (.ref i) = .ref (ad i) := rfl
theorem z_tr_cat (ad : Nat → Nat) (v : Value) : (z_tr ad v).category = v.category := by
  cases v <;> rfl
theorem z_tr_ag {n : Nat} {ad ad' : Nat → Nat} (h : z_ag n ad ad') {v : Value} (hv : z_okV n v) : z_tr ad' v = z_tr ad v := by
  cases v with
  | ref i => rw [z_tr_ref, z_tr_ref, h i (hv i rfl)]
  | _ => rfl
theorem z_okV.mono {n m : Nat} {v : Value} (h : z_okV n v) (hnm : n ≤ m) : z_okV m v := fun i hi => (h i hi).imp (fun q => Nat.lt_of_lt_of_le q hnm) id
theorem z_okV_int (n : Nat) (x : Int32) : z_okV n (.int x) := fun i h => by cases h
theorem z_okV_long (n : Nat) (x : Int64) : z_okV n (.long x) := fun i h => by cases h
theorem z_okV_null (n : Nat) : z_okV n .null := fun i h => by cases h
theorem z_okE.mono {n m : Nat} {e : zE} (h : z_okE n e) (hnm : n ≤ m) : z_okE m e := by
  obtain ⟨t, a, f | f | f | f | f⟩ | ⟨c, fs⟩ := e
  · trivial
  · trivial
  · trivial
  · trivial
  · exact fun j i hj => Nat.lt_of_lt_of_le (h j i hj) hnm
  · exact fun v hv => (h v hv).mono hnm
theorem z_trE_ag {n : Nat} {ad ad' : Nat → Nat} {tc : Nat → ClassId} (h : z_ag n ad ad') {e : zE} (he : z_okE n e) : z_trE ad' tc e = z_trE ad tc e := by
  obtain ⟨t, a, f | f | f | f | f⟩ | ⟨c, fs⟩ := e
  · rfl
  · rfl
  · rfl
  · rfl
  · show Sum.inl _ = Sum.inl _
    simp only [z_trA]
    refine congrArg Sum.inl (congrArg (Prod.mk _) (congrArg (Prod.mk _) (congrArg Sum.inr (congrArg Sum.inr (congrArg Sum.inr (congrArg Sum.inr (funext fun j => ?_)))))))
    cases hf : f j with
    | none => rfl
    | some i => simp only [Option.map_some]; rw [h i (Or.inl (he j i hf))]
  · show Sum.inr (c, _) = Sum.inr (c, _)
    rw [List.map_congr_left fun v hv => z_tr_ag h (he v hv)]
theorem z_ws_len (ad : Nat → Nat) (tc : Nat → ClassId) (h : zH) : (z_ws ad tc h).length = h.length := by simp [z_ws]
theorem z_ws_get {ad : Nat → Nat} {tc : Nat → ClassId} {h : zH} {i : Nat} {e : zE} (he : h[i]? = some e) : (z_ws ad tc h)[i]? = some (ad i, z_trE ad tc e) := by
  simp [z_ws, he]
theorem z_ws_set {ad : Nat → Nat} {tc : Nat → ClassId} {h : zH} {i : Nat} {e : zE} : (z_ws ad tc h).set i (ad i, z_trE ad tc e) = z_ws ad tc (h.set i e) := by
  apply List.ext_getElem?
  intro k
  by_cases hk : k = i
  · subst hk
    by_cases hl : k < h.length
    · rw [List.getElem?_set_self (by rw [z_ws_len]; exact hl), z_ws_get (e := e) (by rw [List.getElem?_set_self hl])]
    · have h1 : ((z_ws ad tc h).set k (ad k, z_trE ad tc e)).length ≤ k := by rw [List.length_set, z_ws_len]; omega
      have h2 : (z_ws ad tc (h.set k e)).length ≤ k := by rw [z_ws_len, List.length_set]; omega
      rw [List.getElem?_eq_none h1, List.getElem?_eq_none h2]
  · rw [List.getElem?_set_ne (fun q => hk q.symm)]
    simp [z_ws, List.getElem?_set_ne (fun q => hk q.symm)]
theorem z_ws_push {ad : Nat → Nat} {tc : Nat → ClassId} {h : zH} {q : Nat} {e : zE} (hok : ∀ e ∈ h, z_okE h.length e) (hn : h.length < zB) (hx : ∀ a b : Nat → Nat, z_trE a tc e = z_trE b tc e) : z_ws ad tc h ++ [(q, z_trE ad tc e)] = z_ws (z_up ad h.length q) tc (h ++ [e]) := by
  apply List.ext_getElem?
  intro k
  rcases Nat.lt_trichotomy k h.length with hl | hl | hl
  · rw [List.getElem?_append_left (by rw [z_ws_len]; exact hl)]
    have he : h[k]? = some h[k] := List.getElem?_eq_getElem hl
    rw [z_ws_get he, z_ws_get (e := h[k]) (by rw [List.getElem?_append_left hl]; exact he), z_trE_ag (z_up.ag hn) (hok _ (List.getElem_mem hl)), z_up.ag hn k (Or.inl hl)]
  · subst hl
    rw [List.getElem?_append_right (by rw [z_ws_len]; exact Nat.le_refl _), z_ws_len, Nat.sub_self, z_ws_get (e := e) (by simp)]
    simp only [List.getElem?_cons_zero, z_up, if_true]
    rw [hx ad]
  · have h1 : (z_ws ad tc h ++ [(q, z_trE ad tc e)]).length ≤ k := by rw [List.length_append, z_ws_len, List.length_singleton]; omega
    have h2 : (z_ws (z_up ad h.length q) tc (h ++ [e])).length ≤ k := by rw [z_ws_len, List.length_append, List.length_singleton]; omega
    rw [List.getElem?_eq_none h1, List.getElem?_eq_none h2]
theorem z_R.set {Z : Nat} {D : va_G} {tc : Nat → ClassId} {ad : Nat → Nat} {h : zH} {H H1 : Heap} {i : Nat} {e : zE} (hR : z_R Z D tc ad h H) (hP : va_P D vwCl ((z_ws ad tc h).set i (ad i, z_trE ad tc e)) H1) (hD : va_D (fun q => Z ≤ q) ((z_ws ad tc h).set i (ad i, z_trE ad tc e))) (he : z_okE h.length e) : z_R Z D tc ad (h.set i e) H1 := by
  rw [z_ws_set] at hP hD
  refine ⟨hP, hD, fun x hx => ?_, by rw [List.length_set]; exact hR.2.2.2⟩
  rw [List.length_set]
  rcases List.mem_or_eq_of_mem_set hx with q | q
  · exact hR.2.2.1 x q
  · rw [q]; exact he
theorem z_R.push {Z : Nat} {D : va_G} {tc : Nat → ClassId} {ad : Nat → Nat} {h : zH} {H H1 : Heap} {q : Nat} {e : zE} (hR : z_R Z D tc ad h H) (hn : h.length < zB) (hx : ∀ a b : Nat → Nat, z_trE a tc e = z_trE b tc e) (he : z_okE h.length e) (hP : va_P D vwCl (z_ws ad tc h ++ [(q, z_trE ad tc e)]) H1) (hD : va_D (fun q => Z ≤ q) (z_ws ad tc h ++ [(q, z_trE ad tc e)])) : z_R Z D tc (z_up ad h.length q) (h ++ [e]) H1 := by
  rw [z_ws_push hR.2.2.1 hn hx] at hP hD
  refine ⟨hP, hD, fun x hx => ?_, by rw [List.length_append, List.length_singleton]; omega⟩
  rw [List.length_append, List.length_singleton]
  rcases List.mem_append.mp hx with q | q
  · exact (hR.2.2.1 x q).mono (Nat.le_succ _)
  · rw [List.mem_singleton.mp q]; exact he.mono (Nat.le_succ _)
/-! locals -/
noncomputable def z_get (l : zL) (i : Nat) : Option Value := (l.find? (fun q => q.1 == i)).map (fun q => q.2)
noncomputable def z_set1 (l : zL) (i : Nat) (v : Value) : zL := (i, v) :: l.filter (fun q => !(q.1 == i) && !(q.1 + 1 == i && q.2.category == 2))
noncomputable def z_set2 (l : zL) (i : Nat) (v : Value) : zL := (i, v) :: l.filter (fun q => !(q.1 == i) && (!(q.1 == i + 1) && !(q.1 + 1 == i && q.2.category == 2)))
noncomputable def z_tl (ad : Nat → Nat) (l : zL) : zL := l.map (fun q => (q.1, z_tr ad q.2))
theorem z_get_mem {l : zL} {i : Nat} {v : Value} (h : z_get l i = some v) : (i, v) ∈ l := by
  unfold z_get at h
  cases hf : l.find? (fun q => q.1 == i) with
  | none => rw [hf] at h; cases h
  | some q =>
    rw [hf] at h
    have h1 := List.find?_some hf
    have h2 := List.mem_of_find?_eq_some hf
    simp only [Option.map_some, Option.some.injEq] at h
    have h3 : q.1 = i := by simpa using h1
    rw [← h, ← h3]
    exact h2
theorem z_tl_at {ad : Nat → Nat} {ls : Array Slot} {nL : Nat} {l : zL} {i : Nat} {v : Value} (h : lv_has ls nL (z_tl ad l)) (hg : z_get l i = some v) : ls[i]? = some (.val (z_tr ad v)) :=
  h.2.2 (i, z_tr ad v) (List.mem_map.mpr ⟨(i, v), z_get_mem hg, rfl⟩)
theorem z_tl_set1 (ad : Nat → Nat) (l : zL) (i : Nat) (v : Value) : (i, z_tr ad v) :: (z_tl ad l).filter (fun q => !(q.1 == i) && !(q.1 + 1 == i && q.2.category == 2)) = z_tl ad (z_set1 l i v) := by
  simp only [z_tl, z_set1, List.map_cons, List.filter_map]
  congr 2
  apply List.filter_congr
  intro q _
  simp only [Function.comp, z_tr_cat]
theorem z_tl_set2 (ad : Nat → Nat) (l : zL) (i : Nat) (v : Value) : (i, z_tr ad v) :: (z_tl ad l).filter (fun q => !(q.1 == i) && (!(q.1 == i + 1) && !(q.1 + 1 == i && q.2.category == 2))) = z_tl ad (z_set2 l i v) := by
  simp only [z_tl, z_set2, List.map_cons, List.filter_map]
  congr 2
  apply List.filter_congr
  intro q _
  simp only [Function.comp, z_tr_cat]
theorem z_set1_ok {n : Nat} {l : zL} {i : Nat} {v : Value} (h : ∀ q ∈ l, z_okV n q.2) (hv : z_okV n v) : ∀ q ∈ z_set1 l i v, z_okV n q.2 := by
  intro q hq
  rcases List.mem_cons.mp hq with e | e
  · rw [e]; exact hv
  · exact h q ((List.mem_filter.mp e).1)
theorem z_set2_ok {n : Nat} {l : zL} {i : Nat} {v : Value} (h : ∀ q ∈ l, z_okV n q.2) (hv : z_okV n v) : ∀ q ∈ z_set2 l i v, z_okV n q.2 := by
  intro q hq
  rcases List.mem_cons.mp hq with e | e
  · rw [e]; exact hv
  · exact h q ((List.mem_filter.mp e).1)
theorem z_tl_ag {n : Nat} {ad ad' : Nat → Nat} (h : z_ag n ad ad') {l : zL} (hl : ∀ q ∈ l, z_okV n q.2) : z_tl ad' l = z_tl ad l :=
  List.map_congr_left fun q hq => by rw [z_tr_ag h (hl q hq)]
theorem z_st_ag {n : Nat} {ad ad' : Nat → Nat} (h : z_ag n ad ad') {st : List Value} (hl : ∀ v ∈ st, z_okV n v) : st.map (z_tr ad') = st.map (z_tr ad) :=
  List.map_congr_left fun v hv => z_tr_ag h (hl v hv)
theorem z_args_tr (ad : Nat → Nat) : ∀ (i : Nat) (vs : List Value), lv_args i (vs.map (z_tr ad)) = z_tl ad (lv_args i vs)
  | _, [] => rfl
  | i, v :: vs => by
    show (i, z_tr ad v) :: lv_args _ (vs.map (z_tr ad)) = (i, z_tr ad v) :: z_tl ad (lv_args _ vs)
    rw [z_args_tr, z_tr_cat]
theorem z_args_ok {n : Nat} : ∀ (i : Nat) (vs : List Value), (∀ v ∈ vs, z_okV n v) → ∀ q ∈ lv_args i vs, z_okV n q.2
  | _, [], _, q, hq => by cases hq
  | i, v :: vs, h, q, hq => by
    rcases List.mem_cons.mp hq with e | e
    · rw [e]; exact h v List.mem_cons_self
    · exact z_args_ok _ vs (fun w hw => h w (List.mem_cons_of_mem _ hw)) q e
end
section
/-! TABLES, printed by a program of mine out of what TURN printed of the program: the codes, what each step is on the machine, the words by their places -/
abbrev zMi : Type := String × MethodName × ByteArray × Nat × Option FieldType × List (Nat × Nat × Nat × Nat)
abbrev zJ : Type := Nat × Instr × Nat × List Nat
/-- the steps of a method's bytes, each with its words -/
noncomputable def z_dec (code : ByteArray) : Nat → List (List Nat) → List zJ
  | _, [] => []
  | pc, w :: ws => match decode code pc with
    | .ok (i, n) => (pc, i, n, w) :: z_dec code (pc + n) ws
    | _ => []
noncomputable def z_wx : List (Nat × List Nat) → Nat → List (List Nat)
  | [], g => List.replicate g []
  | (k, w) :: r, g => List.replicate k [] ++ w :: z_wx r g
noncomputable def z_strs : List (String × Nat × String × List Int32) := [("ClockShares", 70, "the text of the deed is wrong", [116, 104, 101, 32, 116, 101, 120, 116, 32, 111, 102, 32, 116, 104, 101, 32, 100, 101, 101, 100, 32, 105, 115, 32, 119, 114, 111, 110, 103]), ("ClockShares", 80, "the deed has all its texts", [116, 104, 101, 32, 100, 101, 101, 100, 32, 104, 97, 115, 32, 97, 108, 108, 32, 105, 116, 115, 32, 116, 101, 120, 116, 115]), ("ClockShares", 90, "the text of the law is wrong", [116, 104, 101, 32, 116, 101, 120, 116, 32, 111, 102, 32, 116, 104, 101, 32, 108, 97, 119, 32, 105, 115, 32, 119, 114, 111, 110, 103]), ("ClockShares", 275, "the tape does not tell risings", [116, 104, 101, 32, 116, 97, 112, 101, 32, 100, 111, 101, 115, 32, 110, 111, 116, 32, 116, 101, 108, 108, 32, 114, 105, 115, 105, 110, 103, 115]), ("ClockShares", 353, "there is no such hour", [116, 104, 101, 114, 101, 32, 105, 115, 32, 110, 111, 32, 115, 117, 99, 104, 32, 104, 111, 117, 114]), ("ClockShares", 359, "there is no such family", [116, 104, 101, 114, 101, 32, 105, 115, 32, 110, 111, 32, 115, 117, 99, 104, 32, 102, 97, 109, 105, 108, 121]), ("ClockShares", 362, "there is no such thing", [116, 104, 101, 114, 101, 32, 105, 115, 32, 110, 111, 32, 115, 117, 99, 104, 32, 116, 104, 105, 110, 103]), ("ClockShares", 366, "nothing is told by that number", [110, 111, 116, 104, 105, 110, 103, 32, 105, 115, 32, 116, 111, 108, 100, 32, 98, 121, 32, 116, 104, 97, 116, 32, 110, 117, 109, 98, 101, 114]), ("ClockShares", 369, "the number is none", [116, 104, 101, 32, 110, 117, 109, 98, 101, 114, 32, 105, 115, 32, 110, 111, 110, 101]), ("ClockShares", 371, "both are one", [98, 111, 116, 104, 32, 97, 114, 101, 32, 111, 110, 101]), ("ClockShares", 375, "it cannot be", [105, 116, 32, 99, 97, 110, 110, 111, 116, 32, 98, 101]), ("ClockShares$DeedReader", 46, "family", [102, 97, 109, 105, 108, 121]), ("ClockShares$DeedReader", 62, "thing", [116, 104, 105, 110, 103]), ("ClockShares$DeedReader", 67, "hours", [104, 111, 117, 114, 115]), ("ClockShares$DeedReader", 81, "free", [102, 114, 101, 101]), ("ClockShares$DeedReader", 83, "wishes", [119, 105, 115, 104, 101, 115]), ("ClockShares$DeedReader", 91, "cold", [99, 111, 108, 100]), ("ClockShares$DeedReader", 100, "fine", [102, 105, 110, 101]), ("ClockShares$DeedReader", 104, "price", [112, 114, 105, 99, 101]), ("ClockShares$DeedReader", 108, "guests", [103, 117, 101, 115, 116, 115]), ("ClockShares$DeedReader", 112, "hour", [104, 111, 117, 114]), ("ClockShares$DeedReader", 116, "purse", [112, 117, 114, 115, 101]), ("ClockShares$DeedReader", 122, "dust", [100, 117, 115, 116]), ("ClockShares$DeedReader", 124, "stove", [115, 116, 111, 118, 101]), ("ClockShares$DeedReader", 130, "bulk", [98, 117, 108, 107]), ("ClockShares$DeedReader", 132, "left", [108, 101, 102, 116]), ("ClockShares$DeedReader", 141, "to", [116, 111]), ("ClockShares$LawReader", 46, "if", [105, 102]), ("ClockShares$LawReader", 78, "warm", [119, 97, 114, 109]), ("ClockShares$LawReader", 80, "dust", [100, 117, 115, 116]), ("ClockShares$LawReader", 82, "fine", [102, 105, 110, 101]), ("ClockShares$LawReader", 91, "and", [97, 110, 100]), ("ClockShares$LawReader", 97, "or", [111, 114]), ("ClockShares$LawReader", 99, "not", [110, 111, 116]), ("ClockShares$LawReader", 105, "night", [110, 105, 103, 104, 116]), ("ClockShares$LawReader", 107, "wished", [119, 105, 115, 104, 101, 100]), ("ClockShares$LawReader", 119, "family", [102, 97, 109, 105, 108, 121]), ("ClockShares$LawReader", 121, "hour", [104, 111, 117, 114]), ("ClockShares$LawReader", 123, "heat", [104, 101, 97, 116]), ("ClockShares$LawReader", 125, "dirt", [100, 105, 114, 116]), ("ClockShares$LawReader", 127, "quarrel", [113, 117, 97, 114, 114, 101, 108]), ("ClockShares$LawReader", 129, "left", [108, 101, 102, 116]), ("ClockSharesModel", 131, "to", [116, 111]), ("ClockSharesModel", 140, "purse", [112, 117, 114, 115, 101]), ("ClockSharesModel", 142, "dust", [100, 117, 115, 116]), ("ClockSharesModel", 144, "stove", [115, 116, 111, 118, 101]), ("ClockSharesModel", 146, "hours", [104, 111, 117, 114, 115]), ("ClockSharesModel", 154, "wishes", [119, 105, 115, 104, 101, 115]), ("ClockSharesModel", 163, "bulk", [98, 117, 108, 107]), ("ClockSharesModel", 165, "left", [108, 101, 102, 116]), ("ClockSharesModel", 167, "family", [102, 97, 109, 105, 108, 121]), ("ClockSharesModel", 176, "free", [102, 114, 101, 101]), ("ClockSharesModel", 181, "thing", [116, 104, 105, 110, 103]), ("ClockSharesModel", 189, "cold", [99, 111, 108, 100]), ("ClockSharesModel", 194, "fine", [102, 105, 110, 101]), ("ClockSharesModel", 196, "price", [112, 114, 105, 99, 101]), ("ClockSharesModel", 198, "guests", [103, 117, 101, 115, 116, 115]), ("ClockSharesModel", 200, "hour", [104, 111, 117, 114]), ("ClockSharesModel", 208, "heat", [104, 101, 97, 116]), ("ClockSharesModel", 210, "dirt", [100, 105, 114, 116]), ("ClockSharesModel", 212, "quarrel", [113, 117, 97, 114, 114, 101, 108]), ("ClockSharesModel", 221, "night", [110, 105, 103, 104, 116]), ("ClockSharesModel", 223, "wished", [119, 105, 115, 104, 101, 100]), ("ClockSharesModel", 231, "not", [110, 111, 116]), ("ClockSharesModel", 242, "and", [97, 110, 100]), ("ClockSharesModel", 247, "or", [111, 114]), ("ClockSharesModel", 249, "warm", [119, 97, 114, 109]), ("ClockSharesModel", 251, "if", [105, 102])]
noncomputable def z_excs : List String := ["java/lang/IllegalArgumentException", "java/lang/UnsupportedOperationException", "java/lang/IndexOutOfBoundsException", "java/util/NoSuchElementException", "java/lang/IllegalStateException"]
noncomputable def z_sw : List (Int × List Nat × Nat) := [(4, [2, 5, 8, 11, 14, 17, 20, 23, 26, 29], 32), (-13, [20, 13, 6, 2], 24), (0, [16, 22, 29, 36, 43, 45, 48, 51], 61), (0, [9, 16, 23], 33), (0, [2, 7, 12, 16, 38, 38, 38, 38, 38, 38, 38, 38, 38, 38, 20, 25, 29, 34], 38), (0, [2, 4, 6, 11, 16, 21, 26, 33], 42), (4, [26, 30, 34, 38, 42], 46), (3, [5, 32, 32, 32, 32, 32, 32, 32, 32, 32, 32, 18, 21, 24, 29], 32), (0, [25, 82, 99, 107, 115, 122, 140, 168, 206, 234, 262, 290, 318, 336, 371, 389, 397, 404, 422, 429, 457, 464, 471, 478, 485, 502, 530, 548, 586, 612, 619, 626, 644, 651, 679, 697, 715, 733, 740, 747, 783, 819, 855, 883, 900, 907, 912, 919], 936)]
noncomputable def z_lk : List (List (Int × Nat) × Nat) := [([(0, 28), (1, 32)], 36)]
noncomputable def z_m0 : zMi := (RX0, yX0_readInto, cX0_readInto, 4, some .int, [])
noncomputable def z_c0 : List zI := [(2, 1, 0, 0), (54, 87, 0, 6), (2, 1, 0, 0), (54, 89, 0, 6), (4, 2, 0, 0), (0, 0, 0, 0), (4, 3, 0, 0), (1, 2, 0, 0), (31, 25, 0, 0), (1, 3, 0, 0), (0, 0, 0, 14), (32, 25, 3, 0), (2, 0, 0, 0), (2, 1, 0, 0), (55, 1, 2, 0), (2, 1, 0, 0), (54, 89, 0, 6), (4, 2, 0, 0), (1, 2, 0, 0), (31, 23, 0, 0), (2, 1, 0, 0), (0, 0, 0, 59), (54, 94, 1, 6), (7, 3, 0, 1), (30, 7, 0, 0), (1, 2, 0, 0), (31, 29, 0, 0), (2, 1, 0, 0), (54, 90, 0, 6), (2, 1, 0, 0), (54, 88, 0, 6), (50, 0, 0, 0)]
noncomputable def z_i0 : List zJ := z_dec cX0_readInto 0 (z_wx [(1, [631, 632, 633, 102, 634]), (1, [639, 640, 641, 102, 642]), (10, [643, 644, 112, 645]), (1, [639, 640, 641, 102, 642]), (5, [784, 785, 786, 102, 787]), (5, [783, 720, 721, 102, 722]), (1, [792, 793, 794, 102, 795])] 1)
noncomputable def z_h0 : List (Nat × Nat × Nat × Nat × Nat × Nat × Nat) := []
noncomputable def z_m1 : zMi := (RX0, yX0_readLine, cX0_readLine, 3, none, [])
noncomputable def z_c1 : List zI := [(2, 0, 0, 0), (37, 1, 1, 0), (54, 10, 0, 0), (31, 12, 0, 0), (2, 1, 0, 0), (58, 11, 0, 0), (54, 91, 1, 6), (31, 12, 0, 0), (2, 0, 0, 0), (2, 1, 0, 0), (55, 3, 2, 0), (30, 66, 0, 0), (2, 0, 0, 0), (37, 1, 2, 0), (54, 103, 0, 7), (31, 24, 0, 0), (2, 1, 0, 0), (58, 12, 0, 0), (54, 91, 1, 6), (31, 24, 0, 0), (2, 0, 0, 0), (2, 1, 0, 0), (55, 4, 2, 0), (30, 66, 0, 0), (2, 1, 0, 0), (58, 13, 0, 0), (54, 91, 1, 6), (31, 38, 0, 0), (2, 0, 0, 0), (2, 1, 0, 0), (55, 5, 2, 0), (4, 2, 0, 0), (2, 0, 0, 0), (2, 1, 0, 0), (55, 6, 1, 0), (1, 2, 0, 0), (54, 29, 2, 1), (30, 66, 0, 0), (2, 1, 0, 0), (58, 14, 0, 0), (54, 91, 1, 6), (31, 48, 0, 0), (2, 0, 0, 0), (2, 1, 0, 0), (55, 6, 1, 0), (0, 0, 0, -1), (54, 29, 2, 1), (30, 66, 0, 0), (2, 1, 0, 0), (58, 15, 0, 0), (54, 91, 1, 6), (31, 63, 0, 0), (2, 0, 0, 0), (2, 1, 0, 0), (55, 5, 2, 0), (4, 2, 0, 0), (2, 0, 0, 0), (37, 1, 1, 0), (1, 2, 0, 0), (2, 1, 0, 0), (55, 6, 1, 0), (54, 13, 2, 0), (30, 66, 0, 0), (2, 0, 0, 0), (2, 1, 0, 0), (55, 2, 2, 0), (53, 0, 0, 0)]
noncomputable def z_i1 : List zJ := z_dec cX0_readLine 0 (z_wx [(1, [273]), (0, [646, 647, 648, 105, 649]), (3, [651, 652, 653, 102, 654]), (3, [710, 711, 112, 712]), (2, [277]), (0, [752, 753, 754, 106, 755]), (3, [651, 652, 653, 102, 654]), (3, [757, 758, 112, 759]), (3, [651, 652, 653, 102, 654]), (3, [760, 761, 112, 762]), (3, [738, 739, 112, 740]), (1, [743, 744, 745, 104, 746]), (3, [651, 652, 653, 102, 654]), (3, [738, 739, 112, 740]), (1, [743, 744, 745, 104, 746]), (3, [651, 652, 653, 102, 654]), (3, [760, 761, 112, 762]), (2, [273]), (2, [738, 739, 112, 740]), (0, [748, 749, 750, 105, 751]), (3, [775, 776, 112, 777])] 1)
noncomputable def z_h1 : List (Nat × Nat × Nat × Nat × Nat × Nat × Nat) := []
noncomputable def z_m2 : zMi := (RX0, yX0_readSetting, cX0_readSetting, 2, none, [])
noncomputable def z_c2 : List zI := [(2, 1, 0, 0), (58, 16, 0, 0), (54, 91, 1, 6), (31, 11, 0, 0), (2, 0, 0, 0), (2, 1, 0, 0), (0, 0, 0, 0), (0, 0, 0, 9), (54, 96, 2, 6), (38, 1, 13, 0), (30, 57, 0, 0), (2, 1, 0, 0), (58, 17, 0, 0), (54, 91, 1, 6), (31, 22, 0, 0), (2, 0, 0, 0), (2, 1, 0, 0), (0, 0, 0, 0), (0, 0, 0, 20), (54, 96, 2, 6), (38, 1, 14, 0), (30, 57, 0, 0), (2, 1, 0, 0), (58, 18, 0, 0), (54, 91, 1, 6), (31, 33, 0, 0), (2, 0, 0, 0), (2, 1, 0, 0), (0, 0, 0, 0), (0, 0, 0, 99), (54, 96, 2, 6), (38, 1, 15, 0), (30, 57, 0, 0), (2, 1, 0, 0), (58, 19, 0, 0), (54, 91, 1, 6), (31, 44, 0, 0), (2, 0, 0, 0), (2, 1, 0, 0), (0, 0, 0, 0), (0, 0, 0, 100), (54, 96, 2, 6), (38, 1, 16, 0), (30, 57, 0, 0), (2, 1, 0, 0), (58, 20, 0, 0), (54, 91, 1, 6), (31, 55, 0, 0), (2, 0, 0, 0), (2, 1, 0, 0), (0, 0, 0, 0), (0, 0, 0, 23), (54, 96, 2, 6), (38, 1, 7, 0), (30, 57, 0, 0), (2, 1, 0, 0), (54, 90, 0, 6), (53, 0, 0, 0)]
noncomputable def z_i2 : List zJ := z_dec cX0_readSetting 0 (z_wx [(2, [651, 652, 653, 102, 654]), (5, [723, 724, 725, 102, 726]), (0, [298]), (3, [651, 652, 653, 102, 654]), (5, [723, 724, 725, 102, 726]), (0, [300]), (3, [651, 652, 653, 102, 654]), (5, [723, 724, 725, 102, 726]), (0, [302]), (3, [651, 652, 653, 102, 654]), (5, [723, 724, 725, 102, 726]), (0, [306]), (3, [651, 652, 653, 102, 654]), (5, [723, 724, 725, 102, 726]), (0, [287]), (2, [783, 720, 721, 102, 722])] 1)
noncomputable def z_h2 : List (Nat × Nat × Nat × Nat × Nat × Nat × Nat) := []
noncomputable def z_m3 : zMi := (RX0, yX0_readFamily, cX0_readFamily, 6, none, [])
noncomputable def z_c3 : List zI := [(2, 1, 0, 0), (58, 21, 0, 0), (54, 92, 1, 6), (2, 1, 0, 0), (0, 0, 0, 0), (0, 0, 0, 999), (54, 96, 2, 6), (4, 2, 0, 0), (2, 1, 0, 0), (58, 22, 0, 0), (54, 92, 1, 6), (2, 1, 0, 0), (0, 0, 0, 0), (0, 0, 0, 9), (54, 96, 2, 6), (4, 3, 0, 0), (2, 1, 0, 0), (58, 23, 0, 0), (54, 92, 1, 6), (2, 1, 0, 0), (0, 0, 0, 0), (0, 0, 0, 9), (54, 96, 2, 6), (4, 4, 0, 0), (2, 0, 0, 0), (37, 1, 1, 0), (1, 2, 0, 0), (1, 3, 0, 0), (1, 4, 0, 0), (54, 12, 3, 0), (4, 5, 0, 0), (2, 1, 0, 0), (58, 13, 0, 0), (54, 91, 1, 6), (31, 40, 0, 0), (2, 0, 0, 0), (2, 1, 0, 0), (55, 6, 1, 0), (1, 5, 0, 0), (54, 29, 2, 1), (2, 1, 0, 0), (58, 15, 0, 0), (54, 91, 1, 6), (31, 50, 0, 0), (2, 0, 0, 0), (37, 1, 1, 0), (1, 5, 0, 0), (2, 1, 0, 0), (55, 6, 1, 0), (54, 13, 2, 0), (53, 0, 0, 0)]
noncomputable def z_i3 : List zJ := z_dec cX0_readFamily 0 (z_wx [(2, [714, 715, 716, 102, 717]), (3, [723, 724, 725, 102, 726]), (3, [714, 715, 716, 102, 717]), (3, [723, 724, 725, 102, 726]), (3, [714, 715, 716, 102, 717]), (3, [723, 724, 725, 102, 726]), (2, [273]), (3, [732, 733, 734, 105, 735]), (3, [651, 652, 653, 102, 654]), (3, [738, 739, 112, 740]), (1, [743, 744, 745, 104, 746]), (2, [651, 652, 653, 102, 654]), (2, [273]), (2, [738, 739, 112, 740]), (0, [748, 749, 750, 105, 751])] 1)
noncomputable def z_h3 : List (Nat × Nat × Nat × Nat × Nat × Nat × Nat) := []
noncomputable def z_m4 : zMi := (RX0, yX0_readThing, cX0_readThing, 4, none, [])
noncomputable def z_c4 : List zI := [(2, 0, 0, 0), (2, 1, 0, 0), (55, 5, 2, 0), (4, 2, 0, 0), (2, 1, 0, 0), (58, 24, 0, 0), (54, 92, 1, 6), (2, 1, 0, 0), (0, 0, 0, 1), (0, 0, 0, 9), (54, 96, 2, 6), (4, 3, 0, 0), (2, 0, 0, 0), (37, 1, 2, 0), (1, 2, 0, 0), (1, 3, 0, 0), (2, 1, 0, 0), (58, 25, 0, 0), (54, 91, 1, 6), (54, 104, 3, 7), (53, 0, 0, 0)]
noncomputable def z_i4 : List zJ := z_dec cX0_readThing 0 (z_wx [(2, [760, 761, 112, 762]), (3, [714, 715, 716, 102, 717]), (3, [723, 724, 725, 102, 726]), (2, [277]), (4, [651, 652, 653, 102, 654]), (0, [765, 766, 767, 106, 768])] 1)
noncomputable def z_h4 : List (Nat × Nat × Nat × Nat × Nat × Nat × Nat) := []
noncomputable def z_m5 : zMi := (RX0, yX0_readFamilyNumber, cX0_readFamilyNumber, 2, some .int, [])
noncomputable def z_c5 : List zI := [(2, 1, 0, 0), (0, 0, 0, 0), (2, 0, 0, 0), (37, 1, 1, 0), (37, 0, 4, 0), (0, 0, 0, 1), (9, 0, 0, 0), (54, 96, 2, 6), (50, 0, 0, 0)]
noncomputable def z_i5 : List zJ := z_dec cX0_readFamilyNumber 0 (z_wx [(3, [273]), (0, [209]), (2, [723, 724, 725, 102, 726])] 1)
noncomputable def z_h5 : List (Nat × Nat × Nat × Nat × Nat × Nat × Nat) := []
noncomputable def z_m6 : zMi := (RX0, yX0_readHours, cX0_readHours, 6, some .int, [])
noncomputable def z_c6 : List zI := [(2, 0, 0, 0), (0, 0, 0, 0), (0, 0, 0, 23), (54, 96, 2, 6), (4, 1, 0, 0), (2, 0, 0, 0), (58, 26, 0, 0), (54, 92, 1, 6), (2, 0, 0, 0), (0, 0, 0, 0), (0, 0, 0, 23), (54, 96, 2, 6), (4, 2, 0, 0), (1, 2, 0, 0), (1, 1, 0, 0), (9, 0, 0, 0), (0, 0, 0, 24), (55, 312, 2, 0), (0, 0, 0, 1), (8, 0, 0, 0), (4, 3, 0, 0), (0, 0, 0, 0), (4, 4, 0, 0), (0, 0, 0, 0), (4, 5, 0, 0), (1, 5, 0, 0), (1, 3, 0, 0), (32, 40, 3, 0), (1, 4, 0, 0), (0, 0, 0, 1), (1, 1, 0, 0), (1, 5, 0, 0), (8, 0, 0, 0), (0, 0, 0, 24), (12, 0, 0, 0), (13, 0, 0, 0), (17, 0, 0, 0), (4, 4, 0, 0), (7, 5, 0, 1), (30, 25, 0, 0), (1, 4, 0, 0), (50, 0, 0, 0)]
noncomputable def z_i6 : List zJ := z_dec cX0_readHours 0 (z_wx [(3, [723, 724, 725, 102, 726]), (3, [714, 715, 716, 102, 717]), (3, [723, 724, 725, 102, 726]), (5, [742, 452, 117, 453])] 24)
noncomputable def z_h6 : List (Nat × Nat × Nat × Nat × Nat × Nat × Nat) := []
noncomputable def z_m7 : zMi := (RX1, yX1_init, cX1_init, 1, none, [])
noncomputable def z_c7 : List zI := [(2, 0, 0, 0), (57, 0, 0, 0), (2, 0, 0, 0), (0, 0, 0, 6), (47, 0, 0, 0), (38, 0, 0, 2), (2, 0, 0, 0), (0, 0, 0, 6), (47, 0, 0, 0), (38, 0, 1, 2), (2, 0, 0, 0), (0, 0, 0, 6), (47, 0, 0, 0), (38, 0, 2, 2), (2, 0, 0, 0), (0, 0, 0, 6), (47, 0, 0, 0), (38, 0, 3, 2), (2, 0, 0, 0), (0, 0, 0, 0), (38, 0, 4, 0), (53, 0, 0, 0)]
noncomputable def z_i7 : List zJ := z_dec cX1_init 0 (z_wx [(1, [195, 136, 137]), (2, [158]), (0, [196]), (2, [158]), (0, [198]), (2, [158]), (0, [201]), (2, [158]), (0, [204]), (2, [207])] 1)
noncomputable def z_h7 : List (Nat × Nat × Nat × Nat × Nat × Nat × Nat) := []
noncomputable def z_m8 : zMi := (RX1, yX1_copyFrom, cX1_copyFrom, 2, none, [])
noncomputable def z_c8 : List zI := [(2, 1, 0, 0), (37, 0, 0, 0), (0, 0, 0, 0), (2, 0, 0, 0), (37, 0, 0, 0), (0, 0, 0, 0), (0, 0, 0, 6), (61, 0, 0, 0), (2, 1, 0, 0), (37, 0, 1, 0), (0, 0, 0, 0), (2, 0, 0, 0), (37, 0, 1, 0), (0, 0, 0, 0), (0, 0, 0, 6), (61, 0, 0, 0), (2, 1, 0, 0), (37, 0, 2, 0), (0, 0, 0, 0), (2, 0, 0, 0), (37, 0, 2, 0), (0, 0, 0, 0), (0, 0, 0, 6), (61, 0, 0, 0), (2, 1, 0, 0), (37, 0, 3, 0), (0, 0, 0, 0), (2, 0, 0, 0), (37, 0, 3, 0), (0, 0, 0, 0), (0, 0, 0, 6), (61, 0, 0, 0), (2, 0, 0, 0), (2, 1, 0, 0), (37, 0, 4, 0), (38, 0, 4, 0), (53, 0, 0, 0)]
noncomputable def z_i8 : List zJ := z_dec cX1_copyFrom 0 (z_wx [(1, [196]), (2, [196]), (2, [426]), (1, [198]), (2, [198]), (2, [426]), (1, [201]), (2, [201]), (2, [426]), (1, [204]), (2, [204]), (2, [426]), (2, [207]), (0, [207])] 1)
noncomputable def z_h8 : List (Nat × Nat × Nat × Nat × Nat × Nat × Nat) := []
noncomputable def z_m9 : zMi := (RX1, yX1_has, cX1_has, 2, some .boolean, [])
noncomputable def z_c9 : List zI := [(1, 1, 0, 0), (31, 11, 2, 0), (1, 1, 0, 0), (2, 0, 0, 0), (37, 0, 4, 0), (32, 11, 3, 0), (1, 1, 0, 0), (0, 0, 0, 6), (32, 11, 3, 0), (0, 0, 0, 1), (30, 12, 0, 0), (0, 0, 0, 0), (50, 0, 0, 0)]
noncomputable def z_i9 : List zJ := z_dec cX1_has 0 (z_wx [(4, [207])] 8)
noncomputable def z_h9 : List (Nat × Nat × Nat × Nat × Nat × Nat × Nat) := []
noncomputable def z_m10 : zMi := (RX1, yX1_hasRoom, cX1_hasRoom, 1, some .boolean, [])
noncomputable def z_c10 : List zI := [(2, 0, 0, 0), (37, 0, 4, 0), (0, 0, 0, 6), (32, 6, 3, 0), (0, 0, 0, 1), (30, 7, 0, 0), (0, 0, 0, 0), (50, 0, 0, 0)]
noncomputable def z_i10 : List zJ := z_dec cX1_hasRoom 0 (z_wx [(1, [207])] 6)
noncomputable def z_h10 : List (Nat × Nat × Nat × Nat × Nat × Nat × Nat) := []
noncomputable def z_m11 : zMi := (RX1, yX1_everyone, cX1_everyone, 1, some .int, [])
noncomputable def z_c11 : List zI := [(0, 0, 0, 1), (2, 0, 0, 0), (37, 0, 4, 0), (13, 0, 0, 0), (0, 0, 0, 1), (9, 0, 0, 0), (50, 0, 0, 0)]
noncomputable def z_i11 : List zJ := z_dec cX1_everyone 0 (z_wx [(2, [207])] 4)
noncomputable def z_h11 : List (Nat × Nat × Nat × Nat × Nat × Nat × Nat) := []
noncomputable def z_m12 : zMi := (RX1, yX1_found, cX1_found, 4, some .int, [])
noncomputable def z_c12 : List zI := [(2, 0, 0, 0), (54, 10, 0, 0), (31, 5, 1, 0), (0, 0, 0, -1), (50, 0, 0, 0), (2, 0, 0, 0), (37, 0, 0, 0), (2, 0, 0, 0), (37, 0, 4, 0), (1, 1, 0, 0), (40, 0, 0, 0), (2, 0, 0, 0), (37, 0, 1, 0), (2, 0, 0, 0), (37, 0, 4, 0), (1, 2, 0, 0), (40, 0, 0, 0), (2, 0, 0, 0), (37, 0, 2, 0), (2, 0, 0, 0), (37, 0, 4, 0), (1, 3, 0, 0), (40, 0, 0, 0), (2, 0, 0, 0), (37, 0, 3, 0), (2, 0, 0, 0), (37, 0, 4, 0), (0, 0, 0, 0), (40, 0, 0, 0), (2, 0, 0, 0), (27, 0, 0, 0), (37, 0, 4, 0), (0, 0, 0, 1), (8, 0, 0, 0), (38, 0, 4, 0), (2, 0, 0, 0), (37, 0, 4, 0), (0, 0, 0, 1), (9, 0, 0, 0), (50, 0, 0, 0)]
noncomputable def z_i12 : List zJ := z_dec cX1_found 0 (z_wx [(1, [736, 647, 648, 105, 649]), (4, [196]), (1, [207]), (3, [198]), (1, [207]), (3, [201]), (1, [207]), (3, [204]), (1, [207]), (4, [207]), (2, [207]), (1, [207])] 3)
noncomputable def z_h12 : List (Nat × Nat × Nat × Nat × Nat × Nat × Nat) := []
noncomputable def z_m13 : zMi := (RX1, yX1_addWishes, cX1_addWishes, 3, none, [])
noncomputable def z_c13 : List zI := [(2, 0, 0, 0), (1, 1, 0, 0), (54, 9, 1, 0), (31, 12, 0, 0), (2, 0, 0, 0), (37, 0, 3, 0), (1, 1, 0, 0), (28, 0, 0, 0), (39, 0, 0, 0), (1, 2, 0, 0), (17, 0, 0, 0), (40, 0, 0, 0), (53, 0, 0, 0)]
noncomputable def z_i13 : List zJ := z_dec cX1_addWishes 0 (z_wx [(2, [505, 506, 507, 105, 508]), (2, [204])] 7)
noncomputable def z_h13 : List (Nat × Nat × Nat × Nat × Nat × Nat × Nat) := []
noncomputable def z_m14 : zMi := (RX1, yX1_doesWish, cX1_doesWish, 3, some .boolean, [])
noncomputable def z_c14 : List zI := [(2, 0, 0, 0), (1, 1, 0, 0), (54, 9, 1, 0), (31, 16, 0, 0), (2, 0, 0, 0), (37, 0, 3, 0), (1, 1, 0, 0), (39, 0, 0, 0), (1, 2, 0, 0), (14, 0, 0, 0), (0, 0, 0, 1), (16, 0, 0, 0), (0, 0, 0, 1), (32, 16, 1, 0), (0, 0, 0, 1), (30, 17, 0, 0), (0, 0, 0, 0), (50, 0, 0, 0)]
noncomputable def z_i14 : List zJ := z_dec cX1_doesWish 0 (z_wx [(2, [505, 506, 507, 105, 508]), (2, [204])] 12)
noncomputable def z_h14 : List (Nat × Nat × Nat × Nat × Nat × Nat × Nat) := []
noncomputable def z_m15 : zMi := (RX1, yX1_wishedBy, cX1_wishedBy, 4, some .int, [])
noncomputable def z_c15 : List zI := [(0, 0, 0, 0), (4, 2, 0, 0), (0, 0, 0, 0), (4, 3, 0, 0), (1, 3, 0, 0), (2, 0, 0, 0), (37, 0, 4, 0), (32, 24, 3, 0), (1, 1, 0, 0), (1, 3, 0, 0), (14, 0, 0, 0), (0, 0, 0, 1), (16, 0, 0, 0), (0, 0, 0, 1), (32, 22, 1, 0), (1, 2, 0, 0), (2, 0, 0, 0), (37, 0, 3, 0), (1, 3, 0, 0), (39, 0, 0, 0), (17, 0, 0, 0), (4, 2, 0, 0), (7, 3, 0, 1), (30, 4, 0, 0), (1, 2, 0, 0), (50, 0, 0, 0)]
noncomputable def z_i15 : List zJ := z_dec cX1_wishedBy 0 (z_wx [(6, [207]), (10, [204])] 8)
noncomputable def z_h15 : List (Nat × Nat × Nat × Nat × Nat × Nat × Nat) := []
noncomputable def z_m16 : zMi := (RX1, yX1_purseOf, cX1_purseOf, 2, some .int, [])
noncomputable def z_c16 : List zI := [(2, 0, 0, 0), (1, 1, 0, 0), (54, 9, 1, 0), (31, 9, 0, 0), (2, 0, 0, 0), (37, 0, 0, 0), (1, 1, 0, 0), (39, 0, 0, 0), (30, 10, 0, 0), (0, 0, 0, 0), (50, 0, 0, 0)]
noncomputable def z_i16 : List zJ := z_dec cX1_purseOf 0 (z_wx [(2, [505, 506, 507, 105, 508]), (2, [196])] 5)
noncomputable def z_h16 : List (Nat × Nat × Nat × Nat × Nat × Nat × Nat) := []
noncomputable def z_m17 : zMi := (RX1, yX1_pay, cX1_pay, 3, none, [])
noncomputable def z_c17 : List zI := [(2, 0, 0, 0), (1, 1, 0, 0), (54, 9, 1, 0), (31, 16, 0, 0), (2, 0, 0, 0), (37, 0, 0, 0), (1, 1, 0, 0), (0, 0, 0, 0), (2, 0, 0, 0), (37, 0, 0, 0), (1, 1, 0, 0), (39, 0, 0, 0), (1, 2, 0, 0), (9, 0, 0, 0), (68, 0, 0, 0), (40, 0, 0, 0), (53, 0, 0, 0)]
noncomputable def z_i17 : List zJ := z_dec cX1_pay 0 (z_wx [(2, [505, 506, 507, 105, 508]), (2, [196]), (3, [196]), (4, [1170])] 2)
noncomputable def z_h17 : List (Nat × Nat × Nat × Nat × Nat × Nat × Nat) := []
noncomputable def z_m18 : zMi := (RX1, yX1_earn, cX1_earn, 3, none, [])
noncomputable def z_c18 : List zI := [(2, 0, 0, 0), (1, 1, 0, 0), (54, 9, 1, 0), (31, 16, 0, 0), (2, 0, 0, 0), (37, 0, 0, 0), (1, 1, 0, 0), (0, 0, 0, 9999), (2, 0, 0, 0), (37, 0, 0, 0), (1, 1, 0, 0), (39, 0, 0, 0), (1, 2, 0, 0), (8, 0, 0, 0), (67, 0, 0, 0), (40, 0, 0, 0), (53, 0, 0, 0)]
noncomputable def z_i18 : List zJ := z_dec cX1_earn 0 (z_wx [(2, [505, 506, 507, 105, 508]), (2, [196]), (3, [196]), (4, [1177])] 2)
noncomputable def z_h18 : List (Nat × Nat × Nat × Nat × Nat × Nat × Nat) := []
noncomputable def z_m19 : zMi := (RX1, yX1_allPurses, cX1_allPurses, 3, some .int, [])
noncomputable def z_c19 : List zI := [(0, 0, 0, 0), (4, 1, 0, 0), (0, 0, 0, 0), (4, 2, 0, 0), (1, 2, 0, 0), (2, 0, 0, 0), (37, 0, 4, 0), (32, 17, 3, 0), (1, 1, 0, 0), (2, 0, 0, 0), (37, 0, 0, 0), (1, 2, 0, 0), (39, 0, 0, 0), (8, 0, 0, 0), (4, 1, 0, 0), (7, 2, 0, 1), (30, 4, 0, 0), (1, 1, 0, 0), (50, 0, 0, 0)]
noncomputable def z_i19 : List zJ := z_dec cX1_allPurses 0 (z_wx [(6, [207]), (3, [196])] 8)
noncomputable def z_h19 : List (Nat × Nat × Nat × Nat × Nat × Nat × Nat) := []
noncomputable def z_m20 : zMi := (RX1, yX1_dusters, cX1_dusters, 4, some .int, [])
noncomputable def z_c20 : List zI := [(0, 0, 0, 0), (4, 2, 0, 0), (0, 0, 0, 0), (4, 3, 0, 0), (1, 3, 0, 0), (2, 0, 0, 0), (37, 0, 4, 0), (32, 22, 3, 0), (2, 0, 0, 0), (37, 0, 1, 0), (1, 3, 0, 0), (39, 0, 0, 0), (1, 1, 0, 0), (32, 20, 1, 0), (1, 2, 0, 0), (0, 0, 0, 1), (1, 3, 0, 0), (13, 0, 0, 0), (17, 0, 0, 0), (4, 2, 0, 0), (7, 3, 0, 1), (30, 4, 0, 0), (1, 2, 0, 0), (50, 0, 0, 0)]
noncomputable def z_i20 : List zJ := z_dec cX1_dusters 0 (z_wx [(6, [207]), (2, [198])] 14)
noncomputable def z_h20 : List (Nat × Nat × Nat × Nat × Nat × Nat × Nat) := []
noncomputable def z_m21 : zMi := (RX1, yX1_commonDust, cX1_commonDust, 3, some .int, [])
noncomputable def z_c21 : List zI := [(0, 0, 0, 0), (4, 1, 0, 0), (0, 0, 0, 1), (4, 2, 0, 0), (1, 2, 0, 0), (0, 0, 0, 9), (32, 20, 4, 0), (2, 0, 0, 0), (1, 2, 0, 0), (54, 20, 1, 0), (55, 311, 1, 0), (2, 0, 0, 0), (1, 1, 0, 0), (54, 20, 1, 0), (55, 311, 1, 0), (32, 18, 5, 0), (1, 2, 0, 0), (4, 1, 0, 0), (7, 2, 0, 1), (30, 4, 0, 0), (1, 1, 0, 0), (50, 0, 0, 0)]
noncomputable def z_i21 : List zJ := z_dec cX1_commonDust 0 (z_wx [(9, [537, 538, 539, 105, 540]), (0, [541, 482, 126, 483]), (2, [537, 538, 539, 105, 540]), (0, [541, 482, 126, 483])] 7)
noncomputable def z_h21 : List (Nat × Nat × Nat × Nat × Nat × Nat × Nat) := []
noncomputable def z_m22 : zMi := (RX2, yX2_init, cX2_init, 1, none, [])
noncomputable def z_c22 : List zI := [(2, 0, 0, 0), (57, 0, 0, 0), (2, 0, 0, 0), (0, 0, 0, 24), (47, 0, 0, 0), (38, 1, 0, 2), (2, 0, 0, 0), (49, 0, 0, 0), (27, 0, 0, 0), (73, 7, 0, 0), (38, 1, 1, 2), (2, 0, 0, 0), (49, 7, 0, 0), (27, 0, 0, 0), (73, 100, 0, 0), (38, 1, 2, 2), (2, 0, 0, 0), (49, 4, 0, 0), (27, 0, 0, 0), (73, 55, 0, 0), (38, 1, 3, 2), (2, 0, 0, 0), (0, 0, 0, 8), (47, 0, 0, 0), (38, 1, 4, 2), (2, 0, 0, 0), (63, 0, 0, 0), (38, 1, 5, 2), (2, 0, 0, 0), (0, 0, 0, 0), (38, 1, 6, 0), (2, 0, 0, 0), (0, 0, 0, 0), (38, 1, 7, 0), (2, 0, 0, 0), (0, 0, 0, 0), (38, 1, 8, 0), (2, 0, 0, 0), (0, 0, 0, 10), (38, 1, 9, 0), (2, 0, 0, 0), (0, 0, 0, 0), (38, 1, 10, 0), (2, 0, 0, 0), (0, 0, 0, 0), (38, 1, 11, 0), (2, 0, 0, 0), (0, 0, 0, -1), (38, 1, 12, 0), (2, 0, 0, 0), (0, 0, 0, 1), (38, 1, 13, 0), (2, 0, 0, 0), (0, 0, 0, 2), (38, 1, 14, 0), (2, 0, 0, 0), (0, 0, 0, 10), (38, 1, 15, 0), (2, 0, 0, 0), (0, 0, 0, 0), (38, 1, 16, 0), (2, 0, 0, 0), (0, 0, 0, 1), (38, 1, 17, 0), (2, 0, 0, 0), (37, 1, 0, 0), (0, 0, 0, -1), (55, 313, 2, 0), (53, 0, 0, 0)]
noncomputable def z_i22 : List zJ := z_dec cX2_init 0 (z_wx [(1, [189, 136, 137]), (2, [158]), (0, [269]), (1, [190, 191, 105]), (1, [193, 105, 194]), (0, [271]), (1, [223, 224, 106]), (1, [226, 106, 227]), (0, [276]), (1, [249, 250, 107]), (1, [252, 107, 253]), (0, [279]), (2, [158]), (0, [281]), (2, [282]), (2, [284]), (2, [286]), (2, [289]), (2, [290]), (2, [292]), (2, [294]), (2, [296]), (2, [297]), (2, [299]), (2, [301]), (2, [305]), (2, [307]), (1, [269]), (1, [266, 267, 108, 268])] 1)
noncomputable def z_h22 : List (Nat × Nat × Nat × Nat × Nat × Nat × Nat) := []
noncomputable def z_m23 : zMi := (RX2, yX2_copyFrom, cX2_copyFrom, 2, none, [])
noncomputable def z_c23 : List zI := [(2, 1, 0, 0), (37, 1, 0, 0), (0, 0, 0, 0), (2, 0, 0, 0), (37, 1, 0, 0), (0, 0, 0, 0), (0, 0, 0, 24), (61, 0, 0, 0), (2, 0, 0, 0), (37, 1, 1, 0), (2, 1, 0, 0), (37, 1, 1, 0), (54, 8, 1, 0), (2, 0, 0, 0), (37, 1, 2, 0), (2, 1, 0, 0), (37, 1, 2, 0), (54, 101, 1, 7), (2, 0, 0, 0), (37, 1, 3, 0), (2, 1, 0, 0), (37, 1, 3, 0), (54, 56, 1, 4), (2, 0, 0, 0), (2, 1, 0, 0), (37, 1, 5, 0), (38, 1, 5, 2), (2, 0, 0, 0), (2, 1, 0, 0), (37, 1, 6, 0), (38, 1, 6, 0), (2, 0, 0, 0), (2, 1, 0, 0), (37, 1, 7, 0), (38, 1, 7, 0), (2, 0, 0, 0), (2, 1, 0, 0), (37, 1, 8, 0), (38, 1, 8, 0), (2, 0, 0, 0), (2, 1, 0, 0), (37, 1, 9, 0), (38, 1, 9, 0), (2, 0, 0, 0), (2, 1, 0, 0), (37, 1, 10, 0), (38, 1, 10, 0), (2, 0, 0, 0), (2, 1, 0, 0), (37, 1, 11, 0), (38, 1, 11, 0), (2, 0, 0, 0), (2, 1, 0, 0), (37, 1, 12, 0), (38, 1, 12, 0), (2, 0, 0, 0), (2, 1, 0, 0), (37, 1, 13, 0), (38, 1, 13, 0), (2, 0, 0, 0), (2, 1, 0, 0), (37, 1, 14, 0), (38, 1, 14, 0), (2, 0, 0, 0), (2, 1, 0, 0), (37, 1, 15, 0), (38, 1, 15, 0), (2, 0, 0, 0), (2, 1, 0, 0), (37, 1, 16, 0), (38, 1, 16, 0), (2, 0, 0, 0), (2, 1, 0, 0), (37, 1, 17, 0), (38, 1, 17, 0), (53, 0, 0, 0)]
noncomputable def z_i23 : List zJ := z_dec cX2_copyFrom 0 (z_wx [(1, [269]), (2, [269]), (2, [419]), (1, [271]), (1, [271]), (0, [422, 423, 424, 105, 425]), (1, [276]), (1, [276]), (0, [427, 428, 429, 106, 430]), (1, [279]), (1, [279]), (0, [432, 433, 434, 107, 435]), (2, [282]), (0, [282]), (2, [284]), (0, [284]), (2, [286]), (0, [286]), (2, [289]), (0, [289]), (2, [290]), (0, [290]), (2, [292]), (0, [292]), (2, [294]), (0, [294]), (2, [296]), (0, [296]), (2, [297]), (0, [297]), (2, [299]), (0, [299]), (2, [301]), (0, [301]), (2, [305]), (0, [305]), (2, [307]), (0, [307])] 1)
noncomputable def z_h23 : List (Nat × Nat × Nat × Nat × Nat × Nat × Nat) := []
noncomputable def z_m24 : zMi := (RX2, yX2_reading, cX2_reading, 2, some .int, [])
noncomputable def z_c24 : List zI := [(1, 1, 0, 0), (35, 0, 0, 0), (2, 0, 0, 0), (37, 1, 7, 0), (50, 0, 0, 0), (2, 0, 0, 0), (37, 1, 8, 0), (50, 0, 0, 0), (2, 0, 0, 0), (37, 1, 9, 0), (50, 0, 0, 0), (2, 0, 0, 0), (37, 1, 10, 0), (50, 0, 0, 0), (2, 0, 0, 0), (37, 1, 11, 0), (50, 0, 0, 0), (2, 0, 0, 0), (37, 1, 12, 0), (50, 0, 0, 0), (2, 0, 0, 0), (37, 1, 13, 0), (50, 0, 0, 0), (2, 0, 0, 0), (37, 1, 14, 0), (50, 0, 0, 0), (2, 0, 0, 0), (37, 1, 15, 0), (50, 0, 0, 0), (2, 0, 0, 0), (37, 1, 16, 0), (50, 0, 0, 0), (0, 0, 0, -1), (50, 0, 0, 0)]
noncomputable def z_i24 : List zJ := z_dec cX2_reading 0 (z_wx [(3, [286]), (2, [289]), (2, [290]), (2, [292]), (2, [294]), (2, [296]), (2, [297]), (2, [299]), (2, [301]), (2, [305])] 3)
noncomputable def z_h24 : List (Nat × Nat × Nat × Nat × Nat × Nat × Nat) := []
noncomputable def z_m25 : zMi := (RX2, yX2_lawLines, cX2_lawLines, 1, some .int, [])
noncomputable def z_c25 : List zI := [(2, 0, 0, 0), (37, 1, 5, 0), (33, 5, 0, 0), (0, 0, 0, -1), (30, 8, 0, 0), (2, 0, 0, 0), (37, 1, 5, 0), (37, 2, 0, 0), (50, 0, 0, 0)]
noncomputable def z_i25 : List zJ := z_dec cX2_lawLines 0 (z_wx [(1, [282]), (4, [282]), (0, [970])] 1)
noncomputable def z_h25 : List (Nat × Nat × Nat × Nat × Nat × Nat × Nat) := []
noncomputable def z_m26 : zMi := (RX2, yX2_holderAt, cX2_holderAt, 2, some .int, [])
noncomputable def z_c26 : List zI := [(2, 0, 0, 0), (37, 1, 0, 0), (1, 1, 0, 0), (0, 0, 0, 24), (55, 312, 2, 0), (39, 0, 0, 0), (50, 0, 0, 0)]
noncomputable def z_i26 : List zJ := z_dec cX2_holderAt 0 (z_wx [(1, [269]), (2, [451, 452, 117, 453])] 2)
noncomputable def z_h26 : List (Nat × Nat × Nat × Nat × Nat × Nat × Nat) := []
noncomputable def z_m27 : zMi := (RX2, yX2_inside, cX2_inside, 1, some .int, [])
noncomputable def z_c27 : List zI := [(2, 0, 0, 0), (2, 0, 0, 0), (37, 1, 7, 0), (54, 26, 1, 1), (50, 0, 0, 0)]
noncomputable def z_i27 : List zJ := z_dec cX2_inside 0 (z_wx [(2, [286]), (0, [577, 448, 449, 104, 450])] 1)
noncomputable def z_h27 : List (Nat × Nat × Nat × Nat × Nat × Nat × Nat) := []
noncomputable def z_m28 : zMi := (RX2, yX2_heldBy, cX2_heldBy, 4, some .int, [])
noncomputable def z_c28 : List zI := [(0, 0, 0, 0), (4, 2, 0, 0), (0, 0, 0, 0), (4, 3, 0, 0), (1, 3, 0, 0), (0, 0, 0, 24), (32, 31, 3, 0), (2, 0, 0, 0), (37, 1, 0, 0), (1, 3, 0, 0), (39, 0, 0, 0), (0, 0, 0, -1), (32, 29, 0, 0), (1, 1, 0, 0), (2, 0, 0, 0), (37, 1, 0, 0), (1, 3, 0, 0), (39, 0, 0, 0), (14, 0, 0, 0), (0, 0, 0, 1), (16, 0, 0, 0), (0, 0, 0, 1), (32, 29, 1, 0), (1, 2, 0, 0), (0, 0, 0, 1), (1, 3, 0, 0), (13, 0, 0, 0), (17, 0, 0, 0), (4, 2, 0, 0), (7, 3, 0, 1), (30, 4, 0, 0), (1, 2, 0, 0), (50, 0, 0, 0)]
noncomputable def z_i28 : List zJ := z_dec cX2_heldBy 0 (z_wx [(8, [269]), (6, [269])] 17)
noncomputable def z_h28 : List (Nat × Nat × Nat × Nat × Nat × Nat × Nat) := []
noncomputable def z_m29 : zMi := (RX2, yX2_giveHours, cX2_giveHours, 4, none, [])
noncomputable def z_c29 : List zI := [(0, 0, 0, 0), (4, 3, 0, 0), (1, 3, 0, 0), (0, 0, 0, 24), (32, 19, 3, 0), (1, 1, 0, 0), (1, 3, 0, 0), (14, 0, 0, 0), (0, 0, 0, 1), (16, 0, 0, 0), (0, 0, 0, 1), (32, 17, 1, 0), (2, 0, 0, 0), (37, 1, 0, 0), (1, 3, 0, 0), (1, 2, 0, 0), (40, 0, 0, 0), (7, 3, 0, 1), (30, 2, 0, 0), (53, 0, 0, 0)]
noncomputable def z_i29 : List zJ := z_dec cX2_giveHours 0 (z_wx [(13, [269])] 6)
noncomputable def z_h29 : List (Nat × Nat × Nat × Nat × Nat × Nat × Nat) := []
noncomputable def z_m30 : zMi := (RX2, yX2_warmsBy, cX2_warmsBy, 3, some .int, [])
noncomputable def z_c30 : List zI := [(2, 0, 0, 0), (37, 1, 1, 0), (1, 1, 0, 0), (54, 9, 1, 0), (31, 7, 1, 0), (0, 0, 0, 0), (50, 0, 0, 0), (2, 0, 0, 0), (1, 1, 0, 0), (1, 2, 0, 0), (54, 33, 2, 1), (2, 0, 0, 0), (37, 1, 1, 0), (37, 0, 2, 0), (1, 1, 0, 0), (39, 0, 0, 0), (2, 0, 0, 0), (37, 1, 5, 0), (33, 21, 0, 0), (0, 0, 0, 0), (30, 27, 0, 0), (2, 0, 0, 0), (37, 1, 5, 0), (0, 0, 0, 0), (2, 0, 0, 0), (37, 1, 4, 0), (54, 42, 2, 2), (8, 0, 0, 0), (50, 0, 0, 0)]
noncomputable def z_i30 : List zJ := z_dec cX2_warmsBy 0 (z_wx [(1, [271]), (1, [1078, 506, 507, 105, 508]), (6, [1079, 1081, 11, 104, 1082]), (1, [271]), (0, [203]), (3, [282]), (4, [282]), (2, [281]), (0, [1090, 1091, 1092, 123, 1093])] 2)
noncomputable def z_h30 : List (Nat × Nat × Nat × Nat × Nat × Nat × Nat) := []
noncomputable def z_m31 : zMi := (RX2, yX2_dustsBy, cX2_dustsBy, 3, some .int, [])
noncomputable def z_c31 : List zI := [(2, 0, 0, 0), (37, 1, 1, 0), (1, 1, 0, 0), (54, 9, 1, 0), (31, 7, 1, 0), (0, 0, 0, 0), (50, 0, 0, 0), (2, 0, 0, 0), (1, 1, 0, 0), (1, 2, 0, 0), (54, 33, 2, 1), (2, 0, 0, 0), (37, 1, 1, 0), (37, 0, 1, 0), (1, 1, 0, 0), (39, 0, 0, 0), (2, 0, 0, 0), (37, 1, 5, 0), (33, 21, 0, 0), (0, 0, 0, 0), (30, 27, 0, 0), (2, 0, 0, 0), (37, 1, 5, 0), (0, 0, 0, 1), (2, 0, 0, 0), (37, 1, 4, 0), (54, 42, 2, 2), (8, 0, 0, 0), (50, 0, 0, 0)]
noncomputable def z_i31 : List zJ := z_dec cX2_dustsBy 0 (z_wx [(1, [271]), (1, [1078, 506, 507, 105, 508]), (6, [1079, 1081, 11, 104, 1082]), (1, [271]), (0, [200]), (3, [282]), (4, [282]), (2, [281]), (0, [1090, 1091, 1092, 123, 1093])] 2)
noncomputable def z_h31 : List (Nat × Nat × Nat × Nat × Nat × Nat × Nat) := []
noncomputable def z_m32 : zMi := (RX2, yX2_finedBy, cX2_finedBy, 2, some .int, [])
noncomputable def z_c32 : List zI := [(2, 0, 0, 0), (37, 1, 2, 0), (1, 1, 0, 0), (54, 102, 1, 7), (31, 7, 1, 0), (0, 0, 0, 0), (50, 0, 0, 0), (2, 0, 0, 0), (2, 0, 0, 0), (37, 1, 2, 0), (37, 7, 0, 0), (1, 1, 0, 0), (39, 0, 0, 0), (2, 0, 0, 0), (37, 1, 7, 0), (54, 33, 2, 1), (2, 0, 0, 0), (37, 1, 14, 0), (2, 0, 0, 0), (37, 1, 2, 0), (37, 7, 1, 0), (1, 1, 0, 0), (39, 0, 0, 0), (10, 0, 0, 0), (2, 0, 0, 0), (37, 1, 5, 0), (33, 29, 0, 0), (0, 0, 0, 0), (30, 35, 0, 0), (2, 0, 0, 0), (37, 1, 5, 0), (0, 0, 0, 2), (2, 0, 0, 0), (37, 1, 4, 0), (54, 42, 2, 2), (8, 0, 0, 0), (50, 0, 0, 0)]
noncomputable def z_i32 : List zJ := z_dec cX2_finedBy 0 (z_wx [(1, [276]), (1, [1132, 1120, 1121, 106, 1122]), (5, [276]), (0, [231]), (3, [286]), (0, [1079, 1081, 11, 104, 1082]), (1, [299]), (1, [276]), (0, [234]), (4, [282]), (4, [282]), (2, [281]), (0, [1090, 1091, 1092, 123, 1093])] 2)
noncomputable def z_h32 : List (Nat × Nat × Nat × Nat × Nat × Nat × Nat) := []
noncomputable def z_m33 : zMi := (RX2, yX2_look, cX2_look, 3, none, [])
noncomputable def z_c33 : List zI := [(2, 0, 0, 0), (37, 1, 4, 0), (0, 0, 0, 0), (1, 1, 0, 0), (40, 0, 0, 0), (2, 0, 0, 0), (37, 1, 4, 0), (0, 0, 0, 1), (1, 2, 0, 0), (40, 0, 0, 0), (2, 0, 0, 0), (37, 1, 4, 0), (0, 0, 0, 2), (2, 0, 0, 0), (37, 1, 9, 0), (40, 0, 0, 0), (2, 0, 0, 0), (37, 1, 4, 0), (0, 0, 0, 3), (2, 0, 0, 0), (37, 1, 10, 0), (40, 0, 0, 0), (2, 0, 0, 0), (37, 1, 4, 0), (0, 0, 0, 4), (2, 0, 0, 0), (37, 1, 11, 0), (40, 0, 0, 0), (2, 0, 0, 0), (37, 1, 4, 0), (0, 0, 0, 5), (2, 0, 0, 0), (37, 1, 2, 0), (54, 108, 0, 7), (40, 0, 0, 0), (2, 0, 0, 0), (37, 1, 4, 0), (0, 0, 0, 6), (0, 0, 0, 12582975), (1, 2, 0, 0), (14, 0, 0, 0), (0, 0, 0, 1), (16, 0, 0, 0), (40, 0, 0, 0), (2, 0, 0, 0), (37, 1, 4, 0), (0, 0, 0, 7), (2, 0, 0, 0), (37, 1, 1, 0), (1, 1, 0, 0), (1, 2, 0, 0), (54, 14, 2, 0), (31, 55, 0, 0), (0, 0, 0, 1), (30, 56, 0, 0), (0, 0, 0, 0), (40, 0, 0, 0), (53, 0, 0, 0)]
noncomputable def z_i33 : List zJ := z_dec cX2_look 0 (z_wx [(1, [281]), (4, [281]), (4, [281]), (2, [290]), (2, [281]), (2, [292]), (2, [281]), (2, [294]), (2, [281]), (2, [276]), (0, [1083, 1084, 1085, 106, 1086]), (2, [281]), (1, [1088]), (6, [281]), (2, [271]), (2, [1089, 502, 503, 105, 504])] 6)
noncomputable def z_h33 : List (Nat × Nat × Nat × Nat × Nat × Nat × Nat) := []
noncomputable def z_m34 : zMi := (RX2, yX2_passHour, cX2_passHour, 5, some .int, [])
noncomputable def z_c34 : List zI := [(2, 0, 0, 0), (54, 27, 0, 1), (4, 2, 0, 0), (1, 2, 0, 0), (0, 0, 0, -1), (32, 34, 0, 0), (2, 0, 0, 0), (1, 2, 0, 0), (2, 0, 0, 0), (37, 1, 7, 0), (54, 30, 2, 1), (4, 3, 0, 0), (2, 0, 0, 0), (1, 2, 0, 0), (2, 0, 0, 0), (37, 1, 7, 0), (54, 31, 2, 1), (4, 4, 0, 0), (2, 0, 0, 0), (0, 0, 0, 99), (2, 0, 0, 0), (37, 1, 9, 0), (1, 3, 0, 0), (8, 0, 0, 0), (67, 0, 0, 0), (38, 1, 9, 0), (2, 0, 0, 0), (0, 0, 0, 99), (2, 0, 0, 0), (37, 1, 10, 0), (1, 4, 0, 0), (8, 0, 0, 0), (67, 0, 0, 0), (38, 1, 10, 0), (2, 0, 0, 0), (0, 0, 0, 0), (2, 0, 0, 0), (37, 1, 9, 0), (2, 0, 0, 0), (37, 1, 13, 0), (9, 0, 0, 0), (68, 0, 0, 0), (38, 1, 9, 0), (1, 1, 0, 0), (31, 48, 0, 0), (2, 0, 0, 0), (1, 2, 0, 0), (54, 35, 1, 1), (2, 0, 0, 0), (54, 36, 0, 1), (1, 2, 0, 0), (0, 0, 0, -1), (32, 61, 0, 0), (1, 2, 0, 0), (2, 0, 0, 0), (54, 27, 0, 1), (32, 61, 0, 0), (2, 0, 0, 0), (1, 2, 0, 0), (54, 37, 1, 1), (30, 62, 0, 0), (0, 0, 0, 0), (50, 0, 0, 0)]
noncomputable def z_i34 : List zJ := z_dec cX2_passHour 0 (z_wx [(1, [1242, 574, 575, 104, 576]), (7, [286]), (0, [1243, 1075, 1076, 104, 1077]), (4, [286]), (0, [1244, 1105, 1106, 104, 1107]), (4, [290]), (2, [1245]), (0, [290]), (3, [292]), (2, [1245]), (0, [292]), (3, [290]), (1, [297]), (1, [1246]), (0, [290]), (4, [1247, 1249, 17, 104, 1250]), (1, [1264, 1266, 19, 104, 1267]), (5, [1242, 574, 575, 104, 576]), (3, [1268, 1270, 20, 104, 1271])] 3)
noncomputable def z_h34 : List (Nat × Nat × Nat × Nat × Nat × Nat × Nat) := []
noncomputable def z_m35 : zMi := (RX2, yX2_letVisitorsIn, cX2_letVisitorsIn, 2, none, [])
noncomputable def z_c35 : List zI := [(2, 0, 0, 0), (2, 0, 0, 0), (37, 1, 17, 0), (55, 39, 1, 0), (38, 1, 17, 0), (1, 1, 0, 0), (0, 0, 0, -1), (32, 35, 0, 0), (2, 0, 0, 0), (2, 0, 0, 0), (37, 1, 17, 0), (54, 40, 1, 1), (31, 35, 0, 0), (2, 0, 0, 0), (0, 0, 0, 9), (2, 0, 0, 0), (37, 1, 11, 0), (0, 0, 0, 1), (8, 0, 0, 0), (67, 0, 0, 0), (38, 1, 11, 0), (2, 0, 0, 0), (1, 1, 0, 0), (38, 1, 12, 0), (2, 0, 0, 0), (37, 1, 3, 0), (2, 0, 0, 0), (37, 1, 8, 0), (2, 0, 0, 0), (37, 1, 7, 0), (1, 1, 0, 0), (0, 0, 0, 0), (2, 0, 0, 0), (37, 1, 11, 0), (54, 57, 5, 4), (53, 0, 0, 0)]
noncomputable def z_i35 : List zJ := z_dec cX2_letVisitorsIn 0 (z_wx [(2, [307]), (0, [1251, 1252, 104, 1253]), (0, [307]), (5, [307]), (0, [1255, 1257, 18, 104, 1258]), (4, [294]), (2, [1245]), (0, [294]), (2, [296]), (1, [279]), (1, [289]), (1, [286]), (3, [294]), (0, [1259, 1260, 1261, 107, 1262])] 1)
noncomputable def z_h35 : List (Nat × Nat × Nat × Nat × Nat × Nat × Nat) := []
noncomputable def z_m36 : zMi := (RX2, yX2_turnClock, cX2_turnClock, 1, none, [])
noncomputable def z_c36 : List zI := [(2, 0, 0, 0), (27, 0, 0, 0), (37, 1, 7, 0), (0, 0, 0, 1), (8, 0, 0, 0), (38, 1, 7, 0), (2, 0, 0, 0), (37, 1, 7, 0), (0, 0, 0, 24), (32, 21, 2, 0), (2, 0, 0, 0), (0, 0, 0, 0), (38, 1, 7, 0), (2, 0, 0, 0), (0, 0, 0, 9999), (2, 0, 0, 0), (37, 1, 8, 0), (0, 0, 0, 1), (8, 0, 0, 0), (67, 0, 0, 0), (38, 1, 8, 0), (53, 0, 0, 0)]
noncomputable def z_i36 : List zJ := z_dec cX2_turnClock 0 (z_wx [(2, [286]), (2, [286]), (1, [286]), (4, [286]), (3, [289]), (2, [1245]), (0, [289])] 1)
noncomputable def z_h36 : List (Nat × Nat × Nat × Nat × Nat × Nat × Nat) := []
noncomputable def z_m37 : zMi := (RX2, yX2_fineThingsOf, cX2_fineThingsOf, 5, some .int, [])
noncomputable def z_c37 : List zI := [(0, 0, 0, 0), (4, 2, 0, 0), (0, 0, 0, 0), (4, 3, 0, 0), (1, 3, 0, 0), (2, 0, 0, 0), (37, 1, 2, 0), (37, 7, 3, 0), (32, 47, 3, 0), (2, 0, 0, 0), (37, 1, 2, 0), (37, 7, 0, 0), (1, 3, 0, 0), (39, 0, 0, 0), (1, 1, 0, 0), (32, 45, 1, 0), (2, 0, 0, 0), (37, 1, 2, 0), (1, 3, 0, 0), (54, 105, 1, 7), (31, 45, 0, 0), (2, 0, 0, 0), (1, 3, 0, 0), (54, 32, 1, 1), (4, 4, 0, 0), (2, 0, 0, 0), (37, 1, 1, 0), (1, 1, 0, 0), (1, 4, 0, 0), (54, 17, 2, 0), (2, 0, 0, 0), (37, 1, 2, 0), (1, 3, 0, 0), (54, 107, 1, 7), (2, 0, 0, 0), (37, 1, 3, 0), (2, 0, 0, 0), (37, 1, 8, 0), (2, 0, 0, 0), (37, 1, 7, 0), (1, 1, 0, 0), (0, 0, 0, 1), (1, 4, 0, 0), (54, 57, 5, 4), (7, 2, 0, 1), (7, 3, 0, 1), (30, 4, 0, 0), (1, 2, 0, 0), (50, 0, 0, 0)]
noncomputable def z_i37 : List zJ := z_dec cX2_fineThingsOf 0 (z_wx [(6, [276]), (0, [238]), (2, [276]), (0, [231]), (5, [276]), (1, [1272, 1125, 1126, 106, 1127]), (3, [1273, 1129, 1130, 104, 1131]), (2, [271]), (2, [1274, 1167, 1168, 105, 1169]), (1, [276]), (1, [1275, 1216, 1217, 106, 1218]), (1, [279]), (1, [289]), (1, [286]), (3, [1259, 1260, 1261, 107, 1262])] 5)
noncomputable def z_h37 : List (Nat × Nat × Nat × Nat × Nat × Nat × Nat) := []
noncomputable def z_m38 : zMi := (RX2, yX2_quarrelAfter, cX2_quarrelAfter, 6, some .int, [])
noncomputable def z_c38 : List zI := [(1, 2, 0, 0), (4, 3, 0, 0), (2, 0, 0, 0), (37, 1, 11, 0), (4, 4, 0, 0), (0, 0, 0, 0), (4, 5, 0, 0), (1, 5, 0, 0), (1, 1, 0, 0), (32, 33, 3, 0), (1, 3, 0, 0), (55, 39, 1, 0), (4, 3, 0, 0), (2, 0, 0, 0), (2, 0, 0, 0), (37, 1, 7, 0), (1, 5, 0, 0), (8, 0, 0, 0), (54, 26, 1, 1), (0, 0, 0, -1), (32, 31, 0, 0), (2, 0, 0, 0), (1, 3, 0, 0), (54, 40, 1, 1), (31, 31, 0, 0), (0, 0, 0, 9), (1, 4, 0, 0), (0, 0, 0, 1), (8, 0, 0, 0), (67, 0, 0, 0), (4, 4, 0, 0), (7, 5, 0, 1), (30, 7, 0, 0), (1, 4, 0, 0), (50, 0, 0, 0)]
noncomputable def z_i38 : List zJ := z_dec cX2_quarrelAfter 0 (z_wx [(3, [294]), (7, [1251, 1252, 104, 1253]), (3, [286]), (2, [577, 448, 449, 104, 450]), (4, [1255, 1257, 18, 104, 1258]), (5, [1245])] 5)
noncomputable def z_h38 : List (Nat × Nat × Nat × Nat × Nat × Nat × Nat) := []
noncomputable def z_m39 : zMi := (RX2, yX2_nextSeed, cX2_nextSeed, 1, some .int, [])
noncomputable def z_c39 : List zI := [(0, 0, 0, 1103515245), (1, 0, 0, 0), (10, 0, 0, 0), (0, 0, 0, 12345), (8, 0, 0, 0), (50, 0, 0, 0)]
noncomputable def z_i39 : List zJ := z_dec cX2_nextSeed 0 (z_wx [(0, [1254])] 5)
noncomputable def z_h39 : List (Nat × Nat × Nat × Nat × Nat × Nat × Nat) := []
noncomputable def z_m40 : zMi := (RX2, yX2_bringsQuarrel, cX2_bringsQuarrel, 2, some .boolean, [])
noncomputable def z_c40 : List zI := [(1, 1, 0, 0), (0, 0, 0, 16), (15, 0, 0, 0), (0, 0, 0, 32767), (16, 0, 0, 0), (0, 0, 0, 100), (12, 0, 0, 0), (2, 0, 0, 0), (37, 1, 16, 0), (32, 12, 3, 0), (0, 0, 0, 1), (30, 13, 0, 0), (0, 0, 0, 0), (50, 0, 0, 0)]
noncomputable def z_i40 : List zJ := z_dec cX2_bringsQuarrel 0 (z_wx [(8, [305])] 5)
noncomputable def z_h40 : List (Nat × Nat × Nat × Nat × Nat × Nat × Nat) := []
noncomputable def z_m41 : zMi := (RX3, yX3_init, cX3_init, 6, none, [])
noncomputable def z_c41 : List zI := [(2, 0, 0, 0), (57, 0, 0, 0), (2, 0, 0, 0), (0, 0, 0, 32), (47, 0, 0, 0), (38, 2, 5, 2), (2, 0, 0, 0), (1, 1, 0, 0), (38, 2, 0, 0), (2, 0, 0, 0), (2, 2, 0, 0), (1, 1, 0, 0), (55, 314, 2, 0), (38, 2, 1, 2), (2, 0, 0, 0), (2, 3, 0, 0), (1, 1, 0, 0), (55, 314, 2, 0), (38, 2, 2, 2), (2, 0, 0, 0), (2, 4, 0, 0), (1, 1, 0, 0), (55, 314, 2, 0), (38, 2, 3, 2), (2, 0, 0, 0), (2, 5, 0, 0), (38, 2, 4, 2), (53, 0, 0, 0)]
noncomputable def z_i41 : List zJ := z_dec cX3_init 0 (z_wx [(1, [967, 136, 137]), (2, [158]), (0, [976]), (2, [969]), (3, [968, 953, 108, 954]), (0, [972]), (3, [968, 953, 108, 954]), (0, [973]), (3, [968, 953, 108, 954]), (0, [974]), (2, [975])] 1)
noncomputable def z_h41 : List (Nat × Nat × Nat × Nat × Nat × Nat × Nat) := []
noncomputable def z_m42 : zMi := (RX3, yX3_sumOf, cX3_sumOf, 7, some .int, [])
noncomputable def z_c42 : List zI := [(0, 0, 0, 0), (4, 3, 0, 0), (0, 0, 0, 0), (4, 4, 0, 0), (0, 0, 0, 0), (4, 5, 0, 0), (1, 5, 0, 0), (2, 0, 0, 0), (37, 2, 0, 0), (32, 38, 3, 0), (2, 0, 0, 0), (37, 2, 3, 0), (1, 5, 0, 0), (39, 0, 0, 0), (4, 6, 0, 0), (2, 0, 0, 0), (37, 2, 1, 0), (1, 5, 0, 0), (39, 0, 0, 0), (1, 1, 0, 0), (32, 34, 1, 0), (2, 0, 0, 0), (1, 4, 0, 0), (1, 6, 0, 0), (2, 2, 0, 0), (54, 43, 3, 2), (31, 34, 0, 0), (1, 3, 0, 0), (2, 0, 0, 0), (37, 2, 2, 0), (1, 5, 0, 0), (39, 0, 0, 0), (8, 0, 0, 0), (4, 3, 0, 0), (1, 6, 0, 0), (4, 4, 0, 0), (7, 5, 0, 1), (30, 6, 0, 0), (1, 3, 0, 0), (50, 0, 0, 0)]
noncomputable def z_i42 : List zJ := z_dec cX3_sumOf 0 (z_wx [(8, [969]), (2, [974]), (4, [972]), (8, [1094, 1096, 12, 123, 1097]), (3, [973])] 10)
noncomputable def z_h42 : List (Nat × Nat × Nat × Nat × Nat × Nat × Nat) := []
noncomputable def z_m43 : zMi := (RX3, yX3_isTrue, cX3_isTrue, 7, some .boolean, [])
noncomputable def z_c43 : List zI := [(0, 0, 0, 0), (4, 4, 0, 0), (1, 1, 0, 0), (4, 5, 0, 0), (1, 5, 0, 0), (1, 2, 0, 0), (32, 77, 3, 0), (1, 5, 0, 0), (2, 0, 0, 0), (37, 2, 4, 0), (46, 0, 0, 0), (32, 77, 3, 0), (2, 0, 0, 0), (37, 2, 4, 0), (1, 5, 0, 0), (39, 0, 0, 0), (4, 6, 0, 0), (1, 6, 0, 0), (0, 0, 0, -10), (32, 43, 4, 0), (1, 4, 0, 0), (0, 0, 0, 2), (32, 43, 2, 0), (7, 4, 0, -1), (2, 0, 0, 0), (37, 2, 5, 0), (1, 4, 0, 0), (0, 0, 0, 1), (9, 0, 0, 0), (1, 6, 0, 0), (2, 0, 0, 0), (37, 2, 5, 0), (1, 4, 0, 0), (0, 0, 0, 1), (9, 0, 0, 0), (39, 0, 0, 0), (2, 0, 0, 0), (37, 2, 5, 0), (1, 4, 0, 0), (39, 0, 0, 0), (55, 44, 3, 0), (40, 0, 0, 0), (30, 75, 0, 0), (1, 6, 0, 0), (0, 0, 0, -9), (32, 64, 1, 0), (1, 4, 0, 0), (0, 0, 0, 1), (32, 64, 2, 0), (2, 0, 0, 0), (37, 2, 5, 0), (1, 4, 0, 0), (0, 0, 0, 1), (9, 0, 0, 0), (0, 0, 0, 1), (2, 0, 0, 0), (37, 2, 5, 0), (1, 4, 0, 0), (0, 0, 0, 1), (9, 0, 0, 0), (39, 0, 0, 0), (9, 0, 0, 0), (40, 0, 0, 0), (30, 75, 0, 0), (1, 4, 0, 0), (0, 0, 0, 32), (32, 75, 3, 0), (2, 0, 0, 0), (37, 2, 5, 0), (1, 4, 0, 0), (1, 6, 0, 0), (2, 3, 0, 0), (55, 45, 2, 0), (40, 0, 0, 0), (7, 4, 0, 1), (7, 5, 0, 1), (30, 4, 0, 0), (1, 1, 0, 0), (1, 2, 0, 0), (32, 86, 0, 0), (2, 0, 0, 0), (37, 2, 5, 0), (0, 0, 0, 0), (39, 0, 0, 0), (0, 0, 0, 1), (32, 88, 1, 0), (0, 0, 0, 1), (30, 89, 0, 0), (0, 0, 0, 0), (50, 0, 0, 0)]
noncomputable def z_i43 : List zJ := z_dec cX3_isTrue 0 (z_wx [(9, [975]), (3, [975]), (11, [976]), (5, [976]), (5, [976]), (2, [1098, 1099, 123, 1100]), (9, [976]), (5, [976]), (11, [976]), (3, [1101, 1102, 123, 1103]), (8, [976])] 8)
noncomputable def z_h43 : List (Nat × Nat × Nat × Nat × Nat × Nat × Nat) := []
noncomputable def z_m44 : zMi := (RX3, yX3_joined, cX3_joined, 3, some .int, [])
noncomputable def z_c44 : List zI := [(1, 0, 0, 0), (35, 1, 0, 0), (1, 1, 0, 0), (1, 2, 0, 0), (8, 0, 0, 0), (50, 0, 0, 0), (1, 1, 0, 0), (1, 2, 0, 0), (32, 11, 3, 0), (0, 0, 0, 1), (30, 12, 0, 0), (0, 0, 0, 0), (50, 0, 0, 0), (1, 1, 0, 0), (1, 2, 0, 0), (32, 18, 5, 0), (0, 0, 0, 1), (30, 19, 0, 0), (0, 0, 0, 0), (50, 0, 0, 0), (1, 1, 0, 0), (1, 2, 0, 0), (16, 0, 0, 0), (50, 0, 0, 0), (1, 1, 0, 0), (1, 2, 0, 0), (17, 0, 0, 0), (50, 0, 0, 0)]
noncomputable def z_i44 : List zJ := z_dec cX3_joined 0 (z_wx [] 28)
noncomputable def z_h44 : List (Nat × Nat × Nat × Nat × Nat × Nat × Nat) := []
noncomputable def z_m45 : zMi := (RX3, yX3_valueOf, cX3_valueOf, 3, some .int, [])
noncomputable def z_c45 : List zI := [(0, 0, 0, -1), (1, 0, 0, 0), (9, 0, 0, 0), (4, 2, 0, 0), (1, 2, 0, 0), (31, 14, 2, 0), (1, 2, 0, 0), (2, 1, 0, 0), (46, 0, 0, 0), (32, 14, 3, 0), (2, 1, 0, 0), (1, 2, 0, 0), (39, 0, 0, 0), (30, 15, 0, 0), (1, 0, 0, 0), (50, 0, 0, 0)]
noncomputable def z_i45 : List zJ := z_dec cX3_valueOf 0 (z_wx [] 16)
noncomputable def z_h45 : List (Nat × Nat × Nat × Nat × Nat × Nat × Nat) := []
noncomputable def z_m46 : zMi := (RX4, yX4_init, cX4_init, 1, none, [])
noncomputable def z_c46 : List zI := [(2, 0, 0, 0), (57, 0, 0, 0), (2, 0, 0, 0), (0, 0, 0, 12), (47, 0, 0, 0), (38, 3, 0, 2), (2, 0, 0, 0), (0, 0, 0, 12), (47, 0, 0, 0), (38, 3, 1, 2), (2, 0, 0, 0), (0, 0, 0, 12), (47, 0, 0, 0), (38, 3, 2, 2), (2, 0, 0, 0), (0, 0, 0, 400), (47, 0, 0, 0), (38, 3, 3, 2), (2, 0, 0, 0), (0, 0, 0, 0), (38, 3, 4, 0), (2, 0, 0, 0), (0, 0, 0, 0), (38, 3, 5, 0), (53, 0, 0, 0)]
noncomputable def z_i46 : List zJ := z_dec cX4_init 0 (z_wx [(1, [164, 136, 137]), (2, [158]), (0, [165]), (2, [158]), (0, [166]), (2, [158]), (0, [167]), (2, [158]), (0, [168]), (2, [169]), (2, [170])] 1)
noncomputable def z_h46 : List (Nat × Nat × Nat × Nat × Nat × Nat × Nat) := []
noncomputable def z_m47 : zMi := (RX4, yX4_readText, cX4_readText, 4, some .int, [])
noncomputable def z_c47 : List zI := [(2, 1, 0, 0), (54, 87, 0, 6), (2, 0, 0, 0), (0, 0, 0, 0), (38, 3, 4, 0), (2, 0, 0, 0), (0, 0, 0, 0), (38, 3, 5, 0), (2, 1, 0, 0), (54, 89, 0, 6), (4, 2, 0, 0), (0, 0, 0, 0), (4, 3, 0, 0), (1, 2, 0, 0), (31, 62, 0, 0), (1, 3, 0, 0), (0, 0, 0, 12), (32, 62, 3, 0), (2, 0, 0, 0), (37, 3, 0, 0), (1, 3, 0, 0), (2, 0, 0, 0), (2, 1, 0, 0), (54, 49, 1, 3), (40, 0, 0, 0), (2, 0, 0, 0), (37, 3, 1, 0), (1, 3, 0, 0), (2, 1, 0, 0), (0, 0, 0, 0), (0, 0, 0, 20), (54, 96, 2, 6), (40, 0, 0, 0), (2, 1, 0, 0), (58, 27, 0, 0), (54, 91, 1, 6), (31, 41, 0, 0), (2, 0, 0, 0), (2, 1, 0, 0), (0, 0, 0, 0), (54, 50, 2, 3), (2, 0, 0, 0), (37, 3, 2, 0), (1, 3, 0, 0), (2, 0, 0, 0), (37, 3, 5, 0), (40, 0, 0, 0), (2, 0, 0, 0), (1, 3, 0, 0), (0, 0, 0, 1), (8, 0, 0, 0), (38, 3, 4, 0), (2, 1, 0, 0), (54, 89, 0, 6), (4, 2, 0, 0), (1, 2, 0, 0), (31, 60, 0, 0), (2, 1, 0, 0), (0, 0, 0, 59), (54, 94, 1, 6), (7, 3, 0, 1), (30, 13, 0, 0), (1, 2, 0, 0), (31, 66, 0, 0), (2, 1, 0, 0), (54, 90, 0, 6), (2, 1, 0, 0), (54, 88, 0, 6), (50, 0, 0, 0)]
noncomputable def z_i47 : List zJ := z_dec cX4_readText 0 (z_wx [(1, [893, 632, 633, 102, 634]), (2, [169]), (2, [170]), (1, [894, 640, 641, 102, 642]), (9, [165]), (3, [895, 897, 2, 103, 898]), (2, [166]), (4, [904, 724, 725, 102, 726]), (3, [900, 652, 653, 102, 654]), (4, [906, 908, 3, 103, 909]), (1, [167]), (2, [170]), (5, [169]), (1, [894, 640, 641, 102, 642]), (5, [920, 785, 786, 102, 787]), (5, [941, 720, 721, 102, 722]), (1, [944, 793, 794, 102, 795])] 1)
noncomputable def z_h47 : List (Nat × Nat × Nat × Nat × Nat × Nat × Nat) := []
noncomputable def z_m48 : zMi := (RX4, yX4_lawRead, cX4_lawRead, 1, some (.object "ClockShares$Law"), [])
noncomputable def z_c48 : List zI := [(49, 2, 0, 0), (27, 0, 0, 0), (2, 0, 0, 0), (37, 3, 4, 0), (2, 0, 0, 0), (37, 3, 0, 0), (2, 0, 0, 0), (37, 3, 1, 0), (2, 0, 0, 0), (37, 3, 2, 0), (2, 0, 0, 0), (37, 3, 3, 0), (2, 0, 0, 0), (37, 3, 5, 0), (55, 314, 2, 0), (56, 41, 5, 0), (52, 0, 0, 0)]
noncomputable def z_i48 : List zJ := z_dec cX4_lawRead 0 (z_wx [(0, [950, 951, 123]), (2, [169]), (1, [165]), (1, [166]), (1, [167]), (1, [168]), (1, [170]), (0, [952, 953, 108, 954]), (0, [964, 965, 123, 966])] 1)
noncomputable def z_h48 : List (Nat × Nat × Nat × Nat × Nat × Nat × Nat) := []
noncomputable def z_m49 : zMi := (RX4, yX4_readKind, cX4_readKind, 2, some .int, [])
noncomputable def z_c49 : List zI := [(2, 1, 0, 0), (58, 28, 0, 0), (54, 91, 1, 6), (31, 6, 0, 0), (0, 0, 0, 0), (50, 0, 0, 0), (2, 1, 0, 0), (58, 29, 0, 0), (54, 91, 1, 6), (31, 12, 0, 0), (0, 0, 0, 1), (50, 0, 0, 0), (2, 1, 0, 0), (58, 30, 0, 0), (54, 92, 1, 6), (0, 0, 0, 2), (50, 0, 0, 0)]
noncomputable def z_i49 : List zJ := z_dec cX4_readKind 0 (z_wx [(2, [900, 652, 653, 102, 654]), (5, [900, 652, 653, 102, 654]), (5, [903, 715, 716, 102, 717])] 2)
noncomputable def z_h49 : List (Nat × Nat × Nat × Nat × Nat × Nat × Nat) := []
noncomputable def z_m50 : zMi := (RX4, yX4_readCondition, cX4_readCondition, 5, none, [])
noncomputable def z_c50 : List zI := [(0, 0, 0, 0), (4, 3, 0, 0), (2, 0, 0, 0), (2, 1, 0, 0), (1, 2, 0, 0), (54, 51, 2, 3), (0, 0, 0, 0), (4, 4, 0, 0), (1, 4, 0, 0), (0, 0, 0, 400), (32, 40, 3, 0), (2, 1, 0, 0), (58, 31, 0, 0), (54, 91, 1, 6), (31, 23, 0, 0), (2, 0, 0, 0), (2, 1, 0, 0), (1, 2, 0, 0), (54, 51, 2, 3), (2, 0, 0, 0), (0, 0, 0, -13), (54, 54, 1, 3), (30, 38, 0, 0), (2, 1, 0, 0), (58, 32, 0, 0), (54, 91, 1, 6), (31, 40, 0, 0), (1, 3, 0, 0), (31, 32, 0, 0), (2, 0, 0, 0), (0, 0, 0, -14), (54, 54, 1, 3), (0, 0, 0, 1), (4, 3, 0, 0), (2, 0, 0, 0), (2, 1, 0, 0), (1, 2, 0, 0), (54, 51, 2, 3), (7, 4, 0, 1), (30, 8, 0, 0), (1, 3, 0, 0), (31, 45, 0, 0), (2, 0, 0, 0), (0, 0, 0, -14), (54, 54, 1, 3), (53, 0, 0, 0)]
noncomputable def z_i50 : List zJ := z_dec cX4_readCondition 0 (z_wx [(5, [910, 912, 4, 103, 913]), (7, [900, 652, 653, 102, 654]), (4, [910, 912, 4, 103, 913]), (2, [915, 917, 5, 103, 918]), (3, [900, 652, 653, 102, 654]), (5, [915, 917, 5, 103, 918]), (5, [910, 912, 4, 103, 913]), (6, [915, 917, 5, 103, 918])] 1)
noncomputable def z_h50 : List (Nat × Nat × Nat × Nat × Nat × Nat × Nat) := []
noncomputable def z_m51 : zMi := (RX4, yX4_readAtom, cX4_readAtom, 4, none, [])
noncomputable def z_c51 : List zI := [(1, 2, 0, 0), (0, 0, 0, 6), (32, 17, 3, 0), (2, 1, 0, 0), (58, 33, 0, 0), (54, 91, 1, 6), (31, 17, 0, 0), (2, 0, 0, 0), (2, 1, 0, 0), (1, 2, 0, 0), (0, 0, 0, 1), (8, 0, 0, 0), (54, 51, 2, 3), (2, 0, 0, 0), (0, 0, 0, -9), (54, 54, 1, 3), (30, 72, 0, 0), (1, 2, 0, 0), (0, 0, 0, 6), (32, 34, 3, 0), (2, 1, 0, 0), (0, 0, 0, 40), (54, 93, 1, 6), (31, 34, 0, 0), (2, 0, 0, 0), (2, 1, 0, 0), (1, 2, 0, 0), (0, 0, 0, 1), (8, 0, 0, 0), (54, 50, 2, 3), (2, 1, 0, 0), (0, 0, 0, 41), (54, 94, 1, 6), (30, 72, 0, 0), (2, 1, 0, 0), (58, 34, 0, 0), (54, 91, 1, 6), (31, 42, 0, 0), (2, 0, 0, 0), (0, 0, 0, -7), (54, 54, 1, 3), (30, 72, 0, 0), (2, 1, 0, 0), (58, 35, 0, 0), (54, 91, 1, 6), (31, 50, 0, 0), (2, 0, 0, 0), (0, 0, 0, -8), (54, 54, 1, 3), (30, 72, 0, 0), (2, 0, 0, 0), (2, 1, 0, 0), (54, 52, 1, 3), (2, 1, 0, 0), (0, 0, 0, 60), (54, 93, 1, 6), (4, 3, 0, 0), (1, 3, 0, 0), (31, 62, 1, 0), (2, 1, 0, 0), (0, 0, 0, 62), (54, 94, 1, 6), (2, 0, 0, 0), (2, 1, 0, 0), (54, 52, 1, 3), (2, 0, 0, 0), (1, 3, 0, 0), (31, 70, 0, 0), (0, 0, 0, -11), (30, 71, 0, 0), (0, 0, 0, -12), (54, 54, 1, 3), (53, 0, 0, 0)]
noncomputable def z_i51 : List zJ := z_dec cX4_readAtom 0 (z_wx [(5, [900, 652, 653, 102, 654]), (6, [910, 912, 4, 103, 913]), (2, [915, 917, 5, 103, 918]), (6, [919, 789, 790, 102, 791]), (6, [906, 908, 3, 103, 909]), (2, [920, 785, 786, 102, 787]), (3, [900, 652, 653, 102, 654]), (3, [915, 917, 5, 103, 918]), (3, [900, 652, 653, 102, 654]), (3, [915, 917, 5, 103, 918]), (3, [923, 925, 6, 103, 926]), (2, [919, 789, 790, 102, 791]), (5, [920, 785, 786, 102, 787]), (2, [923, 925, 6, 103, 926]), (6, [915, 917, 5, 103, 918])] 1)
noncomputable def z_h51 : List (Nat × Nat × Nat × Nat × Nat × Nat × Nat) := []
noncomputable def z_m52 : zMi := (RX4, yX4_readSum, cX4_readSum, 3, none, [])
noncomputable def z_c52 : List zI := [(2, 0, 0, 0), (2, 1, 0, 0), (54, 53, 1, 3), (0, 0, 0, 0), (4, 2, 0, 0), (1, 2, 0, 0), (0, 0, 0, 400), (32, 20, 3, 0), (2, 1, 0, 0), (0, 0, 0, 43), (54, 93, 1, 6), (31, 20, 0, 0), (2, 0, 0, 0), (2, 1, 0, 0), (54, 53, 1, 3), (2, 0, 0, 0), (0, 0, 0, -10), (54, 54, 1, 3), (7, 2, 0, 1), (30, 5, 0, 0), (53, 0, 0, 0)]
noncomputable def z_i52 : List zJ := z_dec cX4_readSum 0 (z_wx [(2, [927, 929, 7, 103, 930]), (7, [919, 789, 790, 102, 791]), (3, [927, 929, 7, 103, 930]), (2, [915, 917, 5, 103, 918])] 3)
noncomputable def z_h52 : List (Nat × Nat × Nat × Nat × Nat × Nat × Nat) := []
noncomputable def z_m53 : zMi := (RX4, yX4_readPart, cX4_readPart, 2, none, [])
noncomputable def z_c53 : List zI := [(2, 1, 0, 0), (54, 95, 0, 6), (31, 10, 0, 0), (2, 0, 0, 0), (2, 1, 0, 0), (0, 0, 0, 0), (0, 0, 0, 999), (54, 96, 2, 6), (54, 54, 1, 3), (30, 60, 0, 0), (2, 1, 0, 0), (58, 36, 0, 0), (54, 91, 1, 6), (31, 18, 0, 0), (2, 0, 0, 0), (0, 0, 0, -1), (54, 54, 1, 3), (30, 60, 0, 0), (2, 1, 0, 0), (58, 37, 0, 0), (54, 91, 1, 6), (31, 26, 0, 0), (2, 0, 0, 0), (0, 0, 0, -2), (54, 54, 1, 3), (30, 60, 0, 0), (2, 1, 0, 0), (58, 38, 0, 0), (54, 91, 1, 6), (31, 34, 0, 0), (2, 0, 0, 0), (0, 0, 0, -3), (54, 54, 1, 3), (30, 60, 0, 0), (2, 1, 0, 0), (58, 39, 0, 0), (54, 91, 1, 6), (31, 42, 0, 0), (2, 0, 0, 0), (0, 0, 0, -4), (54, 54, 1, 3), (30, 60, 0, 0), (2, 1, 0, 0), (58, 40, 0, 0), (54, 91, 1, 6), (31, 50, 0, 0), (2, 0, 0, 0), (0, 0, 0, -5), (54, 54, 1, 3), (30, 60, 0, 0), (2, 1, 0, 0), (58, 41, 0, 0), (54, 91, 1, 6), (31, 58, 0, 0), (2, 0, 0, 0), (0, 0, 0, -6), (54, 54, 1, 3), (30, 60, 0, 0), (2, 1, 0, 0), (54, 90, 0, 6), (53, 0, 0, 0)]
noncomputable def z_i53 : List zJ := z_dec cX4_readPart 0 (z_wx [(1, [931, 932, 933, 102, 934]), (5, [904, 724, 725, 102, 726]), (0, [915, 917, 5, 103, 918]), (3, [900, 652, 653, 102, 654]), (3, [915, 917, 5, 103, 918]), (3, [900, 652, 653, 102, 654]), (3, [915, 917, 5, 103, 918]), (3, [900, 652, 653, 102, 654]), (3, [915, 917, 5, 103, 918]), (3, [900, 652, 653, 102, 654]), (3, [915, 917, 5, 103, 918]), (3, [900, 652, 653, 102, 654]), (3, [915, 917, 5, 103, 918]), (3, [900, 652, 653, 102, 654]), (3, [915, 917, 5, 103, 918]), (2, [941, 720, 721, 102, 722])] 1)
noncomputable def z_h53 : List (Nat × Nat × Nat × Nat × Nat × Nat × Nat) := []
noncomputable def z_m54 : zMi := (RX4, yX4_put, cX4_put, 2, none, [])
noncomputable def z_c54 : List zI := [(2, 0, 0, 0), (37, 3, 5, 0), (2, 0, 0, 0), (37, 3, 3, 0), (46, 0, 0, 0), (32, 18, 3, 0), (2, 0, 0, 0), (37, 3, 3, 0), (2, 0, 0, 0), (37, 3, 5, 0), (1, 1, 0, 0), (40, 0, 0, 0), (2, 0, 0, 0), (27, 0, 0, 0), (37, 3, 5, 0), (0, 0, 0, 1), (8, 0, 0, 0), (38, 3, 5, 0), (53, 0, 0, 0)]
noncomputable def z_i54 : List zJ := z_dec cX4_put 0 (z_wx [(1, [170]), (1, [168]), (3, [168]), (1, [170]), (4, [170]), (2, [170])] 1)
noncomputable def z_h54 : List (Nat × Nat × Nat × Nat × Nat × Nat × Nat) := []
noncomputable def z_m55 : zMi := (RX5, yX5_init, cX5_init, 1, none, [])
noncomputable def z_c55 : List zI := [(2, 0, 0, 0), (57, 0, 0, 0), (2, 0, 0, 0), (0, 0, 0, 300), (47, 0, 0, 0), (38, 4, 0, 2), (2, 0, 0, 0), (0, 0, 0, 0), (38, 4, 1, 0), (2, 0, 0, 0), (0, 0, 0, 0), (38, 4, 2, 0), (53, 0, 0, 0)]
noncomputable def z_i55 : List zJ := z_dec cX5_init 0 (z_wx [(1, [254, 136, 137]), (2, [158]), (0, [255]), (2, [256]), (2, [257])] 1)
noncomputable def z_h55 : List (Nat × Nat × Nat × Nat × Nat × Nat × Nat) := []
noncomputable def z_m56 : zMi := (RX5, yX5_copyFrom, cX5_copyFrom, 2, none, [])
noncomputable def z_c56 : List zI := [(2, 1, 0, 0), (37, 4, 0, 0), (0, 0, 0, 0), (2, 0, 0, 0), (37, 4, 0, 0), (0, 0, 0, 0), (0, 0, 0, 300), (61, 0, 0, 0), (2, 0, 0, 0), (2, 1, 0, 0), (37, 4, 1, 0), (38, 4, 1, 0), (2, 0, 0, 0), (2, 1, 0, 0), (37, 4, 2, 0), (38, 4, 2, 0), (53, 0, 0, 0)]
noncomputable def z_i56 : List zJ := z_dec cX5_copyFrom 0 (z_wx [(1, [255]), (2, [255]), (2, [436]), (2, [256]), (0, [256]), (2, [257]), (0, [257])] 1)
noncomputable def z_h56 : List (Nat × Nat × Nat × Nat × Nat × Nat × Nat) := []
noncomputable def z_m57 : zMi := (RX5, yX5_append, cX5_append, 7, none, [])
noncomputable def z_c57 : List zI := [(2, 0, 0, 0), (37, 4, 1, 0), (0, 0, 0, 5), (10, 0, 0, 0), (4, 6, 0, 0), (1, 6, 0, 0), (31, 14, 2, 0), (1, 6, 0, 0), (0, 0, 0, 5), (8, 0, 0, 0), (2, 0, 0, 0), (37, 4, 0, 0), (46, 0, 0, 0), (32, 15, 5, 0), (53, 0, 0, 0), (2, 0, 0, 0), (37, 4, 0, 0), (1, 6, 0, 0), (1, 1, 0, 0), (40, 0, 0, 0), (2, 0, 0, 0), (37, 4, 0, 0), (1, 6, 0, 0), (0, 0, 0, 1), (8, 0, 0, 0), (1, 2, 0, 0), (40, 0, 0, 0), (2, 0, 0, 0), (37, 4, 0, 0), (1, 6, 0, 0), (0, 0, 0, 2), (8, 0, 0, 0), (1, 3, 0, 0), (40, 0, 0, 0), (2, 0, 0, 0), (37, 4, 0, 0), (1, 6, 0, 0), (0, 0, 0, 3), (8, 0, 0, 0), (1, 4, 0, 0), (40, 0, 0, 0), (2, 0, 0, 0), (37, 4, 0, 0), (1, 6, 0, 0), (0, 0, 0, 4), (8, 0, 0, 0), (1, 5, 0, 0), (40, 0, 0, 0), (2, 0, 0, 0), (2, 0, 0, 0), (37, 4, 1, 0), (0, 0, 0, 1), (8, 0, 0, 0), (0, 0, 0, 60), (12, 0, 0, 0), (38, 4, 1, 0), (2, 0, 0, 0), (2, 0, 0, 0), (37, 4, 2, 0), (0, 0, 0, 1), (8, 0, 0, 0), (0, 0, 0, 60), (67, 0, 0, 0), (38, 4, 2, 0), (53, 0, 0, 0)]
noncomputable def z_i57 : List zJ := z_dec cX5_append 0 (z_wx [(1, [256]), (9, [255]), (4, [255]), (4, [255]), (6, [255]), (6, [255]), (6, [255]), (7, [256]), (4, [256]), (2, [257]), (3, [1263]), (0, [257])] 1)
noncomputable def z_h57 : List (Nat × Nat × Nat × Nat × Nat × Nat × Nat) := []
noncomputable def z_m58 : zMi := (RX5, yX5_entry, cX5_entry, 3, some .int, [])
noncomputable def z_c58 : List zI := [(1, 1, 0, 0), (31, 11, 2, 0), (1, 1, 0, 0), (2, 0, 0, 0), (37, 4, 2, 0), (32, 11, 3, 0), (1, 2, 0, 0), (31, 11, 2, 0), (1, 2, 0, 0), (0, 0, 0, 5), (32, 13, 2, 0), (0, 0, 0, -1), (50, 0, 0, 0), (2, 0, 0, 0), (37, 4, 0, 0), (2, 0, 0, 0), (37, 4, 1, 0), (0, 0, 0, 1), (9, 0, 0, 0), (1, 1, 0, 0), (9, 0, 0, 0), (0, 0, 0, 60), (55, 312, 2, 0), (0, 0, 0, 5), (10, 0, 0, 0), (1, 2, 0, 0), (8, 0, 0, 0), (39, 0, 0, 0), (50, 0, 0, 0)]
noncomputable def z_i58 : List zJ := z_dec cX5_entry 0 (z_wx [(4, [257]), (9, [255]), (1, [256]), (5, [1438, 452, 117, 453])] 6)
noncomputable def z_h58 : List (Nat × Nat × Nat × Nat × Nat × Nat × Nat) := []
noncomputable def z_m59 : zMi := (RX5, yX5_rowsOfFamily, cX5_rowsOfFamily, 4, some .int, [])
noncomputable def z_c59 : List zI := [(0, 0, 0, 0), (4, 2, 0, 0), (0, 0, 0, 0), (4, 3, 0, 0), (1, 3, 0, 0), (2, 0, 0, 0), (37, 4, 2, 0), (32, 17, 3, 0), (2, 0, 0, 0), (1, 3, 0, 0), (0, 0, 0, 2), (54, 58, 2, 4), (1, 1, 0, 0), (32, 15, 1, 0), (7, 2, 0, 1), (7, 3, 0, 1), (30, 4, 0, 0), (1, 2, 0, 0), (50, 0, 0, 0)]
noncomputable def z_i59 : List zJ := z_dec cX5_rowsOfFamily 0 (z_wx [(6, [257]), (4, [1434, 1435, 1436, 107, 1437])] 7)
noncomputable def z_h59 : List (Nat × Nat × Nat × Nat × Nat × Nat × Nat) := []
noncomputable def z_m60 : zMi := (RX5, yX5_latestDayOf, cX5_latestDayOf, 3, some .int, [])
noncomputable def z_c60 : List zI := [(0, 0, 0, 0), (4, 2, 0, 0), (1, 2, 0, 0), (2, 0, 0, 0), (37, 4, 2, 0), (32, 19, 3, 0), (2, 0, 0, 0), (1, 2, 0, 0), (0, 0, 0, 2), (54, 58, 2, 4), (1, 1, 0, 0), (32, 17, 1, 0), (2, 0, 0, 0), (1, 2, 0, 0), (0, 0, 0, 0), (54, 58, 2, 4), (50, 0, 0, 0), (7, 2, 0, 1), (30, 2, 0, 0), (0, 0, 0, -1), (50, 0, 0, 0)]
noncomputable def z_i60 : List zJ := z_dec cX5_latestDayOf 0 (z_wx [(4, [257]), (4, [1434, 1435, 1436, 107, 1437]), (5, [1434, 1435, 1436, 107, 1437])] 5)
noncomputable def z_h60 : List (Nat × Nat × Nat × Nat × Nat × Nat × Nat) := []
noncomputable def z_m61 : zMi := (RX6, yX6_init, cX6_init, 2, none, [])
noncomputable def z_c61 : List zI := [(2, 0, 0, 0), (57, 0, 0, 0), (2, 0, 0, 0), (0, 0, 0, 12), (48, 0, 0, 0), (38, 5, 0, 2), (2, 0, 0, 0), (0, 0, 0, 0), (38, 5, 1, 0), (2, 0, 0, 0), (0, 0, 0, 0), (38, 5, 2, 0), (0, 0, 0, 0), (4, 1, 0, 0), (1, 1, 0, 0), (0, 0, 0, 12), (32, 26, 3, 0), (2, 0, 0, 0), (37, 5, 0, 0), (1, 1, 0, 0), (49, 1, 0, 0), (27, 0, 0, 0), (56, 22, 0, 0), (45, 0, 0, 0), (7, 1, 0, 1), (30, 14, 0, 0), (53, 0, 0, 0)]
noncomputable def z_i61 : List zJ := z_dec cX6_init 0 (z_wx [(1, [351, 136, 137]), (2, [352]), (0, [355]), (2, [356]), (2, [357]), (6, [355]), (1, [352, 185, 104]), (1, [354, 187, 104, 188])] 4)
noncomputable def z_h61 : List (Nat × Nat × Nat × Nat × Nat × Nat × Nat) := []
noncomputable def z_m62 : zMi := (RX6, yX6_keep, cX6_keep, 2, none, [])
noncomputable def z_c62 : List zI := [(2, 0, 0, 0), (37, 5, 0, 0), (2, 0, 0, 0), (37, 5, 1, 0), (44, 0, 0, 0), (2, 1, 0, 0), (54, 23, 1, 1), (2, 0, 0, 0), (2, 0, 0, 0), (37, 5, 1, 0), (0, 0, 0, 1), (8, 0, 0, 0), (0, 0, 0, 12), (12, 0, 0, 0), (38, 5, 1, 0), (2, 0, 0, 0), (2, 0, 0, 0), (37, 5, 2, 0), (0, 0, 0, 1), (8, 0, 0, 0), (0, 0, 0, 12), (67, 0, 0, 0), (38, 5, 2, 0), (53, 0, 0, 0)]
noncomputable def z_i62 : List zJ := z_dec cX6_keep 0 (z_wx [(1, [355]), (1, [356]), (2, [415, 416, 417, 104, 418]), (2, [356]), (4, [356]), (2, [357]), (3, [437]), (0, [357])] 1)
noncomputable def z_h62 : List (Nat × Nat × Nat × Nat × Nat × Nat × Nat) := []
noncomputable def z_m63 : zMi := (RX6, yX6_takeBack, cX6_takeBack, 2, some .boolean, [])
noncomputable def z_c63 : List zI := [(2, 0, 0, 0), (37, 5, 2, 0), (31, 5, 1, 0), (0, 0, 0, 0), (50, 0, 0, 0), (2, 0, 0, 0), (2, 0, 0, 0), (37, 5, 1, 0), (0, 0, 0, 12), (8, 0, 0, 0), (0, 0, 0, 1), (9, 0, 0, 0), (0, 0, 0, 12), (12, 0, 0, 0), (38, 5, 1, 0), (2, 0, 0, 0), (27, 0, 0, 0), (37, 5, 2, 0), (0, 0, 0, 1), (9, 0, 0, 0), (38, 5, 2, 0), (2, 1, 0, 0), (2, 0, 0, 0), (37, 5, 0, 0), (2, 0, 0, 0), (37, 5, 1, 0), (44, 0, 0, 0), (54, 23, 1, 1), (0, 0, 0, 1), (50, 0, 0, 0)]
noncomputable def z_i63 : List zJ := z_dec cX6_takeBack 0 (z_wx [(1, [357]), (5, [356]), (6, [356]), (2, [357]), (2, [357]), (2, [355]), (1, [356]), (1, [415, 416, 417, 104, 418])] 2)
noncomputable def z_h63 : List (Nat × Nat × Nat × Nat × Nat × Nat × Nat) := []
noncomputable def z_m64 : zMi := (RX6, yX6_forget, cX6_forget, 1, none, [])
noncomputable def z_c64 : List zI := [(2, 0, 0, 0), (0, 0, 0, 0), (38, 5, 2, 0), (53, 0, 0, 0)]
noncomputable def z_i64 : List zJ := z_dec cX6_forget 0 (z_wx [(2, [357])] 1)
noncomputable def z_h64 : List (Nat × Nat × Nat × Nat × Nat × Nat × Nat) := []
noncomputable def z_m65 : zMi := (RX7, yX7_longestRow, cX7_longestRow, 3, some .int, [])
noncomputable def z_c65 : List zI := [(1, 0, 0, 0), (4, 1, 0, 0), (0, 0, 0, 0), (4, 2, 0, 0), (1, 1, 0, 0), (31, 16, 0, 0), (1, 2, 0, 0), (0, 0, 0, 24), (32, 16, 3, 0), (1, 0, 0, 0), (1, 1, 0, 0), (55, 66, 1, 0), (16, 0, 0, 0), (4, 1, 0, 0), (7, 2, 0, 1), (30, 4, 0, 0), (1, 2, 0, 0), (50, 0, 0, 0)]
noncomputable def z_i65 : List zJ := z_dec cX7_longestRow 0 (z_wx [(11, [1061, 1062, 127, 1063])] 6)
noncomputable def z_h65 : List (Nat × Nat × Nat × Nat × Nat × Nat × Nat) := []
noncomputable def z_m66 : zMi := (RX7, yX7_hourLater, cX7_hourLater, 1, some .int, [])
noncomputable def z_c66 : List zI := [(1, 0, 0, 0), (0, 0, 0, 1), (13, 0, 0, 0), (1, 0, 0, 0), (0, 0, 0, 23), (14, 0, 0, 0), (17, 0, 0, 0), (0, 0, 0, 16777215), (16, 0, 0, 0), (50, 0, 0, 0)]
noncomputable def z_i66 : List zJ := z_dec cX7_hourLater 0 (z_wx [(7, [461])] 2)
noncomputable def z_h66 : List (Nat × Nat × Nat × Nat × Nat × Nat × Nat) := []
noncomputable def z_m67 : zMi := (RX7, yX7_hourSooner, cX7_hourSooner, 1, some .int, [])
noncomputable def z_c67 : List zI := [(1, 0, 0, 0), (0, 0, 0, 1), (14, 0, 0, 0), (1, 0, 0, 0), (0, 0, 0, 23), (13, 0, 0, 0), (17, 0, 0, 0), (0, 0, 0, 16777215), (16, 0, 0, 0), (50, 0, 0, 0)]
noncomputable def z_i67 : List zJ := z_dec cX7_hourSooner 0 (z_wx [(7, [461])] 2)
noncomputable def z_h67 : List (Nat × Nat × Nat × Nat × Nat × Nat × Nat) := []
noncomputable def z_m68 : zMi := (RX7, yX7_comesIn, cX7_comesIn, 3, some .int, [])
noncomputable def z_c68 : List zI := [(0, 0, 0, 0), (4, 2, 0, 0), (1, 2, 0, 0), (0, 0, 0, 24), (32, 17, 3, 0), (2, 0, 0, 0), (2, 0, 0, 0), (37, 1, 7, 0), (1, 2, 0, 0), (8, 0, 0, 0), (54, 26, 1, 1), (1, 1, 0, 0), (32, 15, 1, 0), (1, 2, 0, 0), (50, 0, 0, 0), (7, 2, 0, 1), (30, 2, 0, 0), (0, 0, 0, -1), (50, 0, 0, 0)]
noncomputable def z_i68 : List zJ := z_dec cX7_comesIn 0 (z_wx [(7, [288]), (2, [447, 448, 449, 104, 450])] 8)
noncomputable def z_h68 : List (Nat × Nat × Nat × Nat × Nat × Nat × Nat) := []
noncomputable def z_m69 : zMi := (RX7, yX7_changesOf, cX7_changesOf, 3, some .int, [])
noncomputable def z_c69 : List zI := [(0, 0, 0, 0), (4, 1, 0, 0), (0, 0, 0, 0), (4, 2, 0, 0), (1, 2, 0, 0), (0, 0, 0, 24), (32, 19, 3, 0), (2, 0, 0, 0), (1, 2, 0, 0), (54, 26, 1, 1), (2, 0, 0, 0), (1, 2, 0, 0), (0, 0, 0, 1), (8, 0, 0, 0), (54, 26, 1, 1), (32, 17, 0, 0), (7, 1, 0, 1), (7, 2, 0, 1), (30, 4, 0, 0), (1, 1, 0, 0), (50, 0, 0, 0)]
noncomputable def z_i69 : List zJ := z_dec cX7_changesOf 0 (z_wx [(9, [447, 448, 449, 104, 450]), (4, [447, 448, 449, 104, 450])] 6)
noncomputable def z_h69 : List (Nat × Nat × Nat × Nat × Nat × Nat × Nat) := []
noncomputable def z_m70 : zMi := (RX7, yX7_meetings, cX7_meetings, 5, some .int, [])
noncomputable def z_c70 : List zI := [(2, 0, 0, 0), (0, 0, 0, 1), (1, 1, 0, 0), (13, 0, 0, 0), (54, 28, 1, 1), (4, 3, 0, 0), (2, 0, 0, 0), (0, 0, 0, 1), (1, 2, 0, 0), (13, 0, 0, 0), (54, 28, 1, 1), (4, 4, 0, 0), (1, 3, 0, 0), (1, 4, 0, 0), (55, 67, 1, 0), (16, 0, 0, 0), (1, 4, 0, 0), (1, 3, 0, 0), (55, 67, 1, 0), (16, 0, 0, 0), (17, 0, 0, 0), (50, 0, 0, 0)]
noncomputable def z_i70 : List zJ := z_dec cX7_meetings 0 (z_wx [(4, [466, 467, 468, 104, 469]), (5, [466, 467, 468, 104, 469]), (3, [552, 553, 127, 554]), (3, [552, 553, 127, 554])] 3)
noncomputable def z_h70 : List (Nat × Nat × Nat × Nat × Nat × Nat × Nat) := []
noncomputable def z_m71 : zMi := (RX7, yX7_gapsOf, cX7_gapsOf, 1, some .int, [])
noncomputable def z_c71 : List zI := [(0, 0, 0, 16777215), (2, 0, 0, 0), (2, 0, 0, 0), (37, 1, 1, 0), (54, 11, 0, 0), (54, 28, 1, 1), (0, 0, 0, -1), (18, 0, 0, 0), (16, 0, 0, 0), (50, 0, 0, 0)]
noncomputable def z_i71 : List zJ := z_dec cX7_gapsOf 0 (z_wx [(0, [461]), (2, [274]), (0, [462, 463, 464, 105, 465]), (0, [466, 467, 468, 104, 469])] 4)
noncomputable def z_h71 : List (Nat × Nat × Nat × Nat × Nat × Nat × Nat) := []
noncomputable def z_m72 : zMi := (RX7, yX7_loversOf, cX7_loversOf, 4, some .int, [])
noncomputable def z_c72 : List zI := [(0, 0, 0, 0), (4, 1, 0, 0), (0, 0, 0, 1), (4, 2, 0, 0), (1, 2, 0, 0), (2, 0, 0, 0), (37, 1, 1, 0), (37, 0, 4, 0), (32, 26, 3, 0), (0, 0, 0, 0), (4, 3, 0, 0), (1, 3, 0, 0), (1, 2, 0, 0), (32, 24, 3, 0), (2, 0, 0, 0), (1, 3, 0, 0), (1, 2, 0, 0), (55, 70, 3, 0), (55, 311, 1, 0), (0, 0, 0, 2), (32, 22, 2, 0), (7, 1, 0, 1), (7, 3, 0, 1), (30, 11, 0, 0), (7, 2, 0, 1), (30, 4, 0, 0), (1, 1, 0, 0), (50, 0, 0, 0)]
noncomputable def z_i72 : List zJ := z_dec cX7_loversOf 0 (z_wx [(6, [274]), (0, [210]), (9, [549, 550, 127, 551]), (0, [481, 482, 126, 483])] 9)
noncomputable def z_h72 : List (Nat × Nat × Nat × Nat × Nat × Nat × Nat) := []
noncomputable def z_m73 : zMi := (RX7, yX7_lessonOf, cX7_lessonOf, 5, some .int, [])
noncomputable def z_c73 : List zI := [(0, 0, 0, 0), (4, 2, 0, 0), (0, 0, 0, 0), (4, 3, 0, 0), (1, 3, 0, 0), (2, 0, 0, 0), (37, 1, 1, 0), (37, 0, 4, 0), (32, 29, 3, 0), (2, 0, 0, 0), (0, 0, 0, 1), (1, 3, 0, 0), (13, 0, 0, 0), (54, 28, 1, 1), (2, 0, 0, 0), (37, 1, 1, 0), (37, 0, 3, 0), (1, 3, 0, 0), (39, 0, 0, 0), (16, 0, 0, 0), (4, 4, 0, 0), (1, 2, 0, 0), (1, 4, 0, 0), (1, 1, 0, 0), (55, 74, 2, 0), (17, 0, 0, 0), (4, 2, 0, 0), (7, 3, 0, 1), (30, 4, 0, 0), (0, 0, 0, 0), (4, 3, 0, 0), (1, 3, 0, 0), (0, 0, 0, 24), (32, 45, 3, 0), (1, 2, 0, 0), (1, 3, 0, 0), (14, 0, 0, 0), (0, 0, 0, 1), (16, 0, 0, 0), (0, 0, 0, 1), (32, 43, 1, 0), (1, 3, 0, 0), (50, 0, 0, 0), (7, 3, 0, 1), (30, 31, 0, 0), (0, 0, 0, -1), (50, 0, 0, 0)]
noncomputable def z_i73 : List zJ := z_dec cX7_lessonOf 0 (z_wx [(6, [274]), (0, [210]), (5, [466, 467, 468, 104, 469]), (1, [274]), (0, [206]), (7, [1368, 1369, 127, 1370])] 22)
noncomputable def z_h73 : List (Nat × Nat × Nat × Nat × Nat × Nat × Nat) := []
noncomputable def z_m74 : zMi := (RX7, yX7_startsOfRows, cX7_startsOfRows, 4, some .int, [])
noncomputable def z_c74 : List zI := [(1, 0, 0, 0), (4, 2, 0, 0), (0, 0, 0, 1), (4, 3, 0, 0), (1, 3, 0, 0), (1, 1, 0, 0), (32, 14, 3, 0), (1, 0, 0, 0), (1, 2, 0, 0), (55, 67, 1, 0), (16, 0, 0, 0), (4, 2, 0, 0), (7, 3, 0, 1), (30, 4, 0, 0), (1, 2, 0, 0), (50, 0, 0, 0)]
noncomputable def z_i74 : List zJ := z_dec cX7_startsOfRows 0 (z_wx [(9, [552, 553, 127, 554])] 6)
noncomputable def z_h74 : List (Nat × Nat × Nat × Nat × Nat × Nat × Nat) := []
noncomputable def z_m75 : zMi := (RX7, yX7_widowsOf, cX7_widowsOf, 3, some .int, [])
noncomputable def z_c75 : List zI := [(0, 0, 0, 0), (4, 1, 0, 0), (0, 0, 0, 0), (4, 2, 0, 0), (1, 2, 0, 0), (2, 0, 0, 0), (37, 1, 1, 0), (37, 0, 4, 0), (32, 25, 3, 0), (2, 0, 0, 0), (0, 0, 0, 1), (1, 2, 0, 0), (13, 0, 0, 0), (54, 28, 1, 1), (55, 311, 1, 0), (0, 0, 0, 1), (32, 23, 1, 0), (1, 1, 0, 0), (0, 0, 0, 1), (1, 2, 0, 0), (13, 0, 0, 0), (17, 0, 0, 0), (4, 1, 0, 0), (7, 2, 0, 1), (30, 4, 0, 0), (1, 1, 0, 0), (50, 0, 0, 0)]
noncomputable def z_i75 : List zJ := z_dec cX7_widowsOf 0 (z_wx [(6, [274]), (0, [210]), (5, [466, 467, 468, 104, 469]), (0, [481, 482, 126, 483])] 12)
noncomputable def z_h75 : List (Nat × Nat × Nat × Nat × Nat × Nat × Nat) := []
noncomputable def z_m76 : zMi := (RX7, yX7_mostDealt, cX7_mostDealt, 6, some .int, [])
noncomputable def z_c76 : List zI := [(2, 0, 0, 0), (37, 1, 1, 0), (54, 11, 0, 0), (4, 1, 0, 0), (0, 0, 0, 24), (4, 2, 0, 0), (0, 0, 0, 0), (4, 3, 0, 0), (1, 3, 0, 0), (1, 1, 0, 0), (32, 34, 4, 0), (2, 0, 0, 0), (37, 1, 1, 0), (1, 3, 0, 0), (54, 15, 1, 0), (55, 311, 1, 0), (4, 4, 0, 0), (2, 0, 0, 0), (1, 1, 0, 0), (1, 3, 0, 0), (0, 0, 0, -1), (18, 0, 0, 0), (16, 0, 0, 0), (54, 28, 1, 1), (55, 311, 1, 0), (4, 5, 0, 0), (1, 2, 0, 0), (1, 4, 0, 0), (1, 5, 0, 0), (8, 0, 0, 0), (67, 0, 0, 0), (4, 2, 0, 0), (7, 3, 0, 1), (30, 8, 0, 0), (1, 2, 0, 0), (50, 0, 0, 0)]
noncomputable def z_i76 : List zJ := z_dec cX7_mostDealt 0 (z_wx [(1, [274]), (0, [462, 463, 464, 105, 465]), (9, [274]), (1, [477, 478, 479, 105, 480]), (0, [481, 482, 126, 483]), (7, [466, 467, 468, 104, 469]), (0, [481, 482, 126, 483]), (5, [487])] 5)
noncomputable def z_h76 : List (Nat × Nat × Nat × Nat × Nat × Nat × Nat) := []
noncomputable def z_m77 : zMi := (RX7, yX7_bestSwap, cX7_bestSwap, 6, some .int, [])
noncomputable def z_c77 : List zI := [(0, 0, 0, -1), (4, 1, 0, 0), (0, 0, 0, 0), (4, 2, 0, 0), (0, 0, 0, 0), (4, 3, 0, 0), (1, 3, 0, 0), (0, 0, 0, 24), (32, 36, 3, 0), (1, 3, 0, 0), (0, 0, 0, 1), (8, 0, 0, 0), (4, 4, 0, 0), (1, 4, 0, 0), (0, 0, 0, 24), (32, 34, 3, 0), (2, 0, 0, 0), (1, 3, 0, 0), (1, 4, 0, 0), (55, 78, 3, 0), (4, 5, 0, 0), (1, 5, 0, 0), (1, 2, 0, 0), (32, 32, 5, 0), (1, 5, 0, 0), (4, 2, 0, 0), (0, 0, 0, 24), (1, 3, 0, 0), (10, 0, 0, 0), (1, 4, 0, 0), (8, 0, 0, 0), (4, 1, 0, 0), (7, 4, 0, 1), (30, 13, 0, 0), (7, 3, 0, 1), (30, 6, 0, 0), (1, 1, 0, 0), (50, 0, 0, 0)]
noncomputable def z_i77 : List zJ := z_dec cX7_bestSwap 0 (z_wx [(19, [495, 496, 127, 497])] 18)
noncomputable def z_h77 : List (Nat × Nat × Nat × Nat × Nat × Nat × Nat) := []
noncomputable def z_m78 : zMi := (RX7, yX7_swapGain, cX7_swapGain, 7, some .int, [])
noncomputable def z_c78 : List zI := [(2, 0, 0, 0), (1, 1, 0, 0), (54, 26, 1, 1), (4, 3, 0, 0), (2, 0, 0, 0), (1, 2, 0, 0), (54, 26, 1, 1), (4, 4, 0, 0), (1, 3, 0, 0), (0, 0, 0, -1), (32, 17, 0, 0), (1, 4, 0, 0), (0, 0, 0, -1), (32, 17, 0, 0), (1, 3, 0, 0), (1, 4, 0, 0), (32, 19, 1, 0), (0, 0, 0, 0), (50, 0, 0, 0), (2, 0, 0, 0), (1, 3, 0, 0), (1, 1, 0, 0), (1, 2, 0, 0), (55, 79, 4, 0), (4, 5, 0, 0), (2, 0, 0, 0), (1, 4, 0, 0), (1, 2, 0, 0), (1, 1, 0, 0), (55, 79, 4, 0), (4, 6, 0, 0), (1, 5, 0, 0), (31, 35, 2, 0), (1, 6, 0, 0), (31, 37, 3, 0), (0, 0, 0, 0), (30, 40, 0, 0), (1, 5, 0, 0), (1, 6, 0, 0), (8, 0, 0, 0), (50, 0, 0, 0)]
noncomputable def z_i78 : List zJ := z_dec cX7_swapGain 0 (z_wx [(2, [447, 448, 449, 104, 450]), (3, [447, 448, 449, 104, 450]), (16, [498, 499, 127, 500]), (5, [498, 499, 127, 500])] 11)
noncomputable def z_h78 : List (Nat × Nat × Nat × Nat × Nat × Nat × Nat) := []
noncomputable def z_m79 : zMi := (RX7, yX7_moveGain, cX7_moveGain, 6, some .int, [])
noncomputable def z_c79 : List zI := [(2, 0, 0, 0), (37, 1, 1, 0), (1, 1, 0, 0), (1, 2, 0, 0), (54, 14, 2, 0), (31, 8, 0, 0), (0, 0, 0, 1), (30, 9, 0, 0), (0, 0, 0, 0), (4, 4, 0, 0), (2, 0, 0, 0), (37, 1, 1, 0), (1, 1, 0, 0), (1, 3, 0, 0), (54, 14, 2, 0), (31, 18, 0, 0), (0, 0, 0, 1), (30, 19, 0, 0), (0, 0, 0, 0), (4, 5, 0, 0), (1, 5, 0, 0), (1, 4, 0, 0), (9, 0, 0, 0), (50, 0, 0, 0)]
noncomputable def z_i79 : List zJ := z_dec cX7_moveGain 0 (z_wx [(1, [274]), (2, [501, 502, 503, 105, 504]), (6, [274]), (2, [501, 502, 503, 105, 504])] 9)
noncomputable def z_h79 : List (Nat × Nat × Nat × Nat × Nat × Nat × Nat) := []
noncomputable def z_m80 : zMi := (RX7, yX7_fewestChanges, cX7_fewestChanges, 3, some .int, [])
noncomputable def z_c80 : List zI := [(2, 0, 0, 0), (55, 71, 1, 0), (31, 5, 1, 0), (0, 0, 0, 0), (30, 6, 0, 0), (0, 0, 0, 1), (4, 1, 0, 0), (0, 0, 0, 0), (4, 2, 0, 0), (1, 2, 0, 0), (2, 0, 0, 0), (37, 1, 1, 0), (37, 0, 4, 0), (32, 23, 3, 0), (2, 0, 0, 0), (0, 0, 0, 1), (1, 2, 0, 0), (13, 0, 0, 0), (54, 28, 1, 1), (31, 21, 0, 0), (7, 1, 0, 1), (7, 2, 0, 1), (30, 9, 0, 0), (1, 1, 0, 0), (0, 0, 0, 2), (32, 28, 3, 0), (0, 0, 0, 0), (30, 29, 0, 0), (1, 1, 0, 0), (50, 0, 0, 0)]
noncomputable def z_i80 : List zJ := z_dec cX7_fewestChanges 0 (z_wx [(1, [516, 459, 127, 460]), (9, [274]), (0, [210]), (5, [466, 467, 468, 104, 469])] 11)
noncomputable def z_h80 : List (Nat × Nat × Nat × Nat × Nat × Nat × Nat) := []
noncomputable def z_m81 : zMi := (RX7, yX7_cornerOf, cX7_cornerOf, 4, some .int, [])
noncomputable def z_c81 : List zI := [(2, 0, 0, 0), (55, 69, 1, 0), (31, 12, 1, 0), (2, 0, 0, 0), (0, 0, 0, 0), (1, 1, 0, 0), (55, 82, 3, 0), (31, 10, 0, 0), (0, 0, 0, 12), (30, 11, 0, 0), (0, 0, 0, 0), (50, 0, 0, 0), (0, 0, 0, 0), (4, 2, 0, 0), (0, 0, 0, 0), (4, 3, 0, 0), (1, 3, 0, 0), (0, 0, 0, 24), (32, 43, 3, 0), (2, 0, 0, 0), (1, 3, 0, 0), (1, 1, 0, 0), (55, 82, 3, 0), (31, 41, 0, 0), (2, 0, 0, 0), (1, 3, 0, 0), (0, 0, 0, 1), (9, 0, 0, 0), (54, 26, 1, 1), (2, 0, 0, 0), (1, 3, 0, 0), (54, 26, 1, 1), (32, 41, 0, 0), (1, 2, 0, 0), (2, 0, 0, 0), (1, 3, 0, 0), (55, 83, 2, 0), (0, 0, 0, 2), (11, 0, 0, 0), (8, 0, 0, 0), (4, 2, 0, 0), (7, 3, 0, 1), (30, 16, 0, 0), (1, 2, 0, 0), (50, 0, 0, 0)]
noncomputable def z_i81 : List zJ := z_dec cX7_cornerOf 0 (z_wx [(1, [1310, 445, 127, 446]), (4, [1311, 1312, 127, 1313]), (15, [1311, 1312, 127, 1313]), (5, [447, 448, 449, 104, 450]), (2, [447, 448, 449, 104, 450]), (4, [1314, 1315, 127, 1316])] 8)
noncomputable def z_h81 : List (Nat × Nat × Nat × Nat × Nat × Nat × Nat) := []
noncomputable def z_m82 : zMi := (RX7, yX7_isOthers, cX7_isOthers, 4, some .boolean, [])
noncomputable def z_c82 : List zI := [(2, 0, 0, 0), (1, 1, 0, 0), (54, 26, 1, 1), (4, 3, 0, 0), (1, 3, 0, 0), (0, 0, 0, -1), (32, 12, 0, 0), (1, 3, 0, 0), (1, 2, 0, 0), (32, 12, 0, 0), (0, 0, 0, 1), (30, 13, 0, 0), (0, 0, 0, 0), (50, 0, 0, 0)]
noncomputable def z_i82 : List zJ := z_dec cX7_isOthers 0 (z_wx [(2, [447, 448, 449, 104, 450])] 11)
noncomputable def z_h82 : List (Nat × Nat × Nat × Nat × Nat × Nat × Nat) := []
noncomputable def z_m83 : zMi := (RX7, yX7_rowFrom, cX7_rowFrom, 3, some .int, [])
noncomputable def z_c83 : List zI := [(0, 0, 0, 1), (4, 2, 0, 0), (1, 2, 0, 0), (0, 0, 0, 24), (32, 16, 3, 0), (2, 0, 0, 0), (1, 1, 0, 0), (1, 2, 0, 0), (8, 0, 0, 0), (54, 26, 1, 1), (2, 0, 0, 0), (1, 1, 0, 0), (54, 26, 1, 1), (32, 16, 1, 0), (7, 2, 0, 1), (30, 2, 0, 0), (1, 2, 0, 0), (50, 0, 0, 0)]
noncomputable def z_i83 : List zJ := z_dec cX7_rowFrom 0 (z_wx [(9, [447, 448, 449, 104, 450]), (2, [447, 448, 449, 104, 450])] 5)
noncomputable def z_h83 : List (Nat × Nat × Nat × Nat × Nat × Nat × Nat) := []
noncomputable def z_m84 : zMi := (RX8, yX8_init, cX8_init, 1, none, [])
noncomputable def z_c84 : List zI := [(2, 0, 0, 0), (57, 0, 0, 0), (2, 0, 0, 0), (0, 0, 0, 400), (47, 0, 0, 0), (38, 6, 0, 2), (2, 0, 0, 0), (0, 0, 0, 0), (38, 6, 1, 0), (2, 0, 0, 0), (0, 0, 0, 0), (38, 6, 2, 0), (2, 0, 0, 0), (0, 0, 0, -1), (38, 6, 3, 0), (53, 0, 0, 0)]
noncomputable def z_i84 : List zJ := z_dec cX8_init 0 (z_wx [(1, [143, 136, 137]), (2, [158]), (0, [144]), (2, [145]), (2, [147]), (2, [148])] 1)
noncomputable def z_h84 : List (Nat × Nat × Nat × Nat × Nat × Nat × Nat) := []
noncomputable def z_m85 : zMi := (RX8, yX8_append, cX8_append, 3, none, [])
noncomputable def z_c85 : List zI := [(0, 0, 0, 24), (4, 2, 0, 0), (1, 2, 0, 0), (31, 26, 2, 0), (2, 0, 0, 0), (37, 6, 1, 0), (0, 0, 0, 400), (32, 26, 3, 0), (2, 0, 0, 0), (37, 6, 0, 0), (2, 0, 0, 0), (37, 6, 1, 0), (1, 1, 0, 0), (1, 2, 0, 0), (15, 0, 0, 0), (0, 0, 0, 255), (16, 0, 0, 0), (40, 0, 0, 0), (2, 0, 0, 0), (27, 0, 0, 0), (37, 6, 1, 0), (0, 0, 0, 1), (8, 0, 0, 0), (38, 6, 1, 0), (7, 2, 0, -8), (30, 2, 0, 0), (53, 0, 0, 0)]
noncomputable def z_i85 : List zJ := z_dec cX8_append 0 (z_wx [(5, [145]), (3, [144]), (1, [145]), (8, [145]), (2, [145])] 3)
noncomputable def z_h85 : List (Nat × Nat × Nat × Nat × Nat × Nat × Nat) := []
noncomputable def z_m86 : zMi := (RX8, yX8_byteAt, cX8_byteAt, 2, some .int, [])
noncomputable def z_c86 : List zI := [(1, 1, 0, 0), (31, 14, 2, 0), (1, 1, 0, 0), (2, 0, 0, 0), (37, 6, 1, 0), (32, 14, 3, 0), (1, 1, 0, 0), (0, 0, 0, 400), (32, 14, 3, 0), (2, 0, 0, 0), (37, 6, 0, 0), (1, 1, 0, 0), (39, 0, 0, 0), (30, 15, 0, 0), (0, 0, 0, -1), (50, 0, 0, 0)]
noncomputable def z_i86 : List zJ := z_dec cX8_byteAt 0 (z_wx [(4, [145]), (5, [144])] 5)
noncomputable def z_h86 : List (Nat × Nat × Nat × Nat × Nat × Nat × Nat) := []
noncomputable def z_m87 : zMi := (RX8, yX8_beginText, cX8_beginText, 1, none, [])
noncomputable def z_c87 : List zI := [(2, 0, 0, 0), (0, 0, 0, 0), (38, 6, 2, 0), (2, 0, 0, 0), (0, 0, 0, -1), (38, 6, 3, 0), (2, 0, 0, 0), (54, 97, 0, 6), (53, 0, 0, 0)]
noncomputable def z_i87 : List zJ := z_dec cX8_beginText 0 (z_wx [(2, [147]), (2, [148]), (1, [635, 637, 0, 102, 638])] 1)
noncomputable def z_h87 : List (Nat × Nat × Nat × Nat × Nat × Nat × Nat) := []
noncomputable def z_m88 : zMi := (RX8, yX8_firstWrong, cX8_firstWrong, 1, some .int, [])
noncomputable def z_c88 : List zI := [(2, 0, 0, 0), (37, 6, 3, 0), (50, 0, 0, 0)]
noncomputable def z_i88 : List zJ := z_dec cX8_firstWrong 0 (z_wx [(1, [148])] 1)
noncomputable def z_h88 : List (Nat × Nat × Nat × Nat × Nat × Nat × Nat) := []
noncomputable def z_m89 : zMi := (RX8, yX8_goesOn, cX8_goesOn, 1, some .boolean, [])
noncomputable def z_c89 : List zI := [(2, 0, 0, 0), (37, 6, 3, 0), (0, 0, 0, -1), (32, 11, 1, 0), (2, 0, 0, 0), (37, 6, 2, 0), (2, 0, 0, 0), (37, 6, 1, 0), (32, 11, 3, 0), (0, 0, 0, 1), (30, 12, 0, 0), (0, 0, 0, 0), (50, 0, 0, 0)]
noncomputable def z_i89 : List zJ := z_dec cX8_goesOn 0 (z_wx [(1, [148]), (3, [147]), (1, [145])] 5)
noncomputable def z_h89 : List (Nat × Nat × Nat × Nat × Nat × Nat × Nat) := []
noncomputable def z_m90 : zMi := (RX8, yX8_refuse, cX8_refuse, 1, none, [])
noncomputable def z_c90 : List zI := [(2, 0, 0, 0), (37, 6, 3, 0), (0, 0, 0, -1), (32, 8, 1, 0), (2, 0, 0, 0), (2, 0, 0, 0), (37, 6, 2, 0), (38, 6, 3, 0), (53, 0, 0, 0)]
noncomputable def z_i90 : List zJ := z_dec cX8_refuse 0 (z_wx [(1, [148]), (4, [147]), (0, [148])] 1)
noncomputable def z_h90 : List (Nat × Nat × Nat × Nat × Nat × Nat × Nat) := []
noncomputable def z_m91 : zMi := (RX8, yX8_takeWord, cX8_takeWord, 4, some .boolean, [])
noncomputable def z_c91 : List zI := [(2, 0, 0, 0), (37, 6, 2, 0), (2, 1, 0, 0), (59, 0, 0, 0), (8, 0, 0, 0), (4, 2, 0, 0), (2, 0, 0, 0), (37, 6, 3, 0), (0, 0, 0, -1), (32, 19, 1, 0), (1, 2, 0, 0), (2, 0, 0, 0), (37, 6, 1, 0), (32, 19, 4, 0), (2, 0, 0, 0), (1, 2, 0, 0), (54, 86, 1, 6), (55, 98, 1, 0), (31, 21, 0, 0), (0, 0, 0, 0), (50, 0, 0, 0), (0, 0, 0, 0), (4, 3, 0, 0), (1, 3, 0, 0), (2, 1, 0, 0), (59, 0, 0, 0), (32, 41, 3, 0), (2, 0, 0, 0), (2, 0, 0, 0), (37, 6, 2, 0), (1, 3, 0, 0), (8, 0, 0, 0), (54, 86, 1, 6), (2, 1, 0, 0), (1, 3, 0, 0), (60, 0, 0, 0), (32, 39, 0, 0), (0, 0, 0, 0), (50, 0, 0, 0), (7, 3, 0, 1), (30, 23, 0, 0), (2, 0, 0, 0), (1, 2, 0, 0), (38, 6, 2, 0), (2, 0, 0, 0), (54, 97, 0, 6), (0, 0, 0, 1), (50, 0, 0, 0)]
noncomputable def z_i91 : List zJ := z_dec cX8_takeWord 0 (z_wx [(1, [147]), (1, [655]), (3, [148]), (4, [145]), (3, [665, 666, 667, 102, 668]), (0, [669, 670, 102, 671]), (7, [655]), (3, [147]), (2, [665, 666, 667, 102, 668]), (2, [672]), (7, [147]), (1, [635, 637, 0, 102, 638])] 2)
noncomputable def z_h91 : List (Nat × Nat × Nat × Nat × Nat × Nat × Nat) := []
noncomputable def z_m92 : zMi := (RX8, yX8_needWord, cX8_needWord, 2, none, [])
noncomputable def z_c92 : List zI := [(2, 0, 0, 0), (2, 1, 0, 0), (54, 91, 1, 6), (31, 6, 1, 0), (2, 0, 0, 0), (54, 90, 0, 6), (53, 0, 0, 0)]
noncomputable def z_i92 : List zJ := z_dec cX8_needWord 0 (z_wx [(2, [718, 652, 653, 102, 654]), (2, [719, 720, 721, 102, 722])] 1)
noncomputable def z_h92 : List (Nat × Nat × Nat × Nat × Nat × Nat × Nat) := []
noncomputable def z_m93 : zMi := (RX8, yX8_takeSign, cX8_takeSign, 2, some .boolean, [])
noncomputable def z_c93 : List zI := [(2, 0, 0, 0), (37, 6, 3, 0), (0, 0, 0, -1), (32, 10, 1, 0), (2, 0, 0, 0), (2, 0, 0, 0), (37, 6, 2, 0), (54, 86, 1, 6), (1, 1, 0, 0), (32, 12, 0, 0), (0, 0, 0, 0), (50, 0, 0, 0), (2, 0, 0, 0), (27, 0, 0, 0), (37, 6, 2, 0), (0, 0, 0, 1), (8, 0, 0, 0), (38, 6, 2, 0), (2, 0, 0, 0), (54, 97, 0, 6), (0, 0, 0, 1), (50, 0, 0, 0)]
noncomputable def z_i93 : List zJ := z_dec cX8_takeSign 0 (z_wx [(1, [148]), (4, [147]), (0, [665, 666, 667, 102, 668]), (6, [147]), (2, [147]), (1, [635, 637, 0, 102, 638])] 2)
noncomputable def z_h93 : List (Nat × Nat × Nat × Nat × Nat × Nat × Nat) := []
noncomputable def z_m94 : zMi := (RX8, yX8_needSign, cX8_needSign, 2, none, [])
noncomputable def z_c94 : List zI := [(2, 0, 0, 0), (1, 1, 0, 0), (54, 93, 1, 6), (31, 6, 1, 0), (2, 0, 0, 0), (54, 90, 0, 6), (53, 0, 0, 0)]
noncomputable def z_i94 : List zJ := z_dec cX8_needSign 0 (z_wx [(2, [788, 789, 790, 102, 791]), (2, [719, 720, 721, 102, 722])] 1)
noncomputable def z_h94 : List (Nat × Nat × Nat × Nat × Nat × Nat × Nat) := []
noncomputable def z_m95 : zMi := (RX8, yX8_seesNumber, cX8_seesNumber, 1, some .boolean, [])
noncomputable def z_c95 : List zI := [(2, 0, 0, 0), (37, 6, 3, 0), (0, 0, 0, -1), (32, 12, 1, 0), (2, 0, 0, 0), (2, 0, 0, 0), (37, 6, 2, 0), (54, 86, 1, 6), (55, 99, 1, 0), (31, 12, 0, 0), (0, 0, 0, 1), (30, 13, 0, 0), (0, 0, 0, 0), (50, 0, 0, 0)]
noncomputable def z_i95 : List zJ := z_dec cX8_seesNumber 0 (z_wx [(1, [148]), (4, [147]), (0, [665, 666, 667, 102, 668]), (0, [727, 728, 102, 729])] 5)
noncomputable def z_h95 : List (Nat × Nat × Nat × Nat × Nat × Nat × Nat) := []
noncomputable def z_m96 : zMi := (RX8, yX8_takeNumber, cX8_takeNumber, 6, some .int, [])
noncomputable def z_c96 : List zI := [(2, 0, 0, 0), (37, 6, 2, 0), (4, 3, 0, 0), (0, 0, 0, 0), (4, 4, 0, 0), (1, 3, 0, 0), (2, 0, 0, 0), (37, 6, 1, 0), (32, 32, 3, 0), (2, 0, 0, 0), (1, 3, 0, 0), (54, 86, 1, 6), (55, 99, 1, 0), (31, 32, 0, 0), (1, 3, 0, 0), (2, 0, 0, 0), (37, 6, 2, 0), (9, 0, 0, 0), (0, 0, 0, 3), (32, 30, 3, 0), (1, 4, 0, 0), (0, 0, 0, 10), (10, 0, 0, 0), (2, 0, 0, 0), (1, 3, 0, 0), (54, 86, 1, 6), (8, 0, 0, 0), (0, 0, 0, 48), (9, 0, 0, 0), (4, 4, 0, 0), (7, 3, 0, 1), (30, 5, 0, 0), (1, 3, 0, 0), (2, 0, 0, 0), (37, 6, 2, 0), (9, 0, 0, 0), (4, 5, 0, 0), (1, 5, 0, 0), (0, 0, 0, 1), (32, 49, 2, 0), (1, 5, 0, 0), (0, 0, 0, 3), (32, 49, 4, 0), (1, 4, 0, 0), (1, 1, 0, 0), (32, 49, 2, 0), (1, 4, 0, 0), (1, 2, 0, 0), (32, 53, 5, 0), (2, 0, 0, 0), (54, 90, 0, 6), (1, 1, 0, 0), (50, 0, 0, 0), (2, 0, 0, 0), (1, 3, 0, 0), (38, 6, 2, 0), (2, 0, 0, 0), (54, 97, 0, 6), (1, 4, 0, 0), (50, 0, 0, 0)]
noncomputable def z_i96 : List zJ := z_dec cX8_takeNumber 0 (z_wx [(1, [147]), (5, [145]), (3, [665, 666, 667, 102, 668]), (0, [727, 728, 102, 729]), (3, [147]), (8, [665, 666, 667, 102, 668]), (8, [147]), (15, [719, 720, 721, 102, 722]), (4, [147]), (1, [635, 637, 0, 102, 638])] 2)
noncomputable def z_h96 : List (Nat × Nat × Nat × Nat × Nat × Nat × Nat) := []
noncomputable def z_m97 : zMi := (RX8, yX8_skipBlanks, cX8_skipBlanks, 1, none, [])
noncomputable def z_c97 : List zI := [(2, 0, 0, 0), (37, 6, 2, 0), (2, 0, 0, 0), (37, 6, 1, 0), (32, 23, 3, 0), (2, 0, 0, 0), (37, 6, 2, 0), (0, 0, 0, 400), (32, 23, 3, 0), (2, 0, 0, 0), (37, 6, 0, 0), (2, 0, 0, 0), (37, 6, 2, 0), (39, 0, 0, 0), (0, 0, 0, 32), (32, 23, 1, 0), (2, 0, 0, 0), (27, 0, 0, 0), (37, 6, 2, 0), (0, 0, 0, 1), (8, 0, 0, 0), (38, 6, 2, 0), (30, 0, 0, 0), (53, 0, 0, 0)]
noncomputable def z_i97 : List zJ := z_dec cX8_skipBlanks 0 (z_wx [(1, [147]), (1, [145]), (2, [147]), (3, [144]), (1, [147]), (5, [147]), (2, [147])] 2)
noncomputable def z_h97 : List (Nat × Nat × Nat × Nat × Nat × Nat × Nat) := []
noncomputable def z_m98 : zMi := (RX8, yX8_isLetter, cX8_isLetter, 1, some .boolean, [])
noncomputable def z_c98 : List zI := [(1, 0, 0, 0), (0, 0, 0, 97), (32, 8, 2, 0), (1, 0, 0, 0), (0, 0, 0, 122), (32, 8, 4, 0), (0, 0, 0, 1), (30, 9, 0, 0), (0, 0, 0, 0), (50, 0, 0, 0)]
noncomputable def z_i98 : List zJ := z_dec cX8_isLetter 0 (z_wx [] 10)
noncomputable def z_h98 : List (Nat × Nat × Nat × Nat × Nat × Nat × Nat) := []
noncomputable def z_m99 : zMi := (RX8, yX8_isDigit, cX8_isDigit, 1, some .boolean, [])
noncomputable def z_c99 : List zI := [(1, 0, 0, 0), (0, 0, 0, 48), (32, 8, 2, 0), (1, 0, 0, 0), (0, 0, 0, 57), (32, 8, 4, 0), (0, 0, 0, 1), (30, 9, 0, 0), (0, 0, 0, 0), (50, 0, 0, 0)]
noncomputable def z_i99 : List zJ := z_dec cX8_isDigit 0 (z_wx [] 10)
noncomputable def z_h99 : List (Nat × Nat × Nat × Nat × Nat × Nat × Nat) := []
noncomputable def z_m100 : zMi := (RX9, yX9_init, cX9_init, 1, none, [])
noncomputable def z_c100 : List zI := [(2, 0, 0, 0), (57, 0, 0, 0), (2, 0, 0, 0), (0, 0, 0, 8), (47, 0, 0, 0), (38, 7, 0, 2), (2, 0, 0, 0), (0, 0, 0, 8), (47, 0, 0, 0), (38, 7, 1, 2), (2, 0, 0, 0), (0, 0, 0, 0), (38, 7, 2, 0), (2, 0, 0, 0), (0, 0, 0, 0), (38, 7, 3, 0), (53, 0, 0, 0)]
noncomputable def z_i100 : List zJ := z_dec cX9_init 0 (z_wx [(1, [228, 136, 137]), (2, [158]), (0, [229]), (2, [158]), (0, [232]), (2, [235]), (2, [237])] 1)
noncomputable def z_h100 : List (Nat × Nat × Nat × Nat × Nat × Nat × Nat) := []
noncomputable def z_m101 : zMi := (RX9, yX9_copyFrom, cX9_copyFrom, 2, none, [])
noncomputable def z_c101 : List zI := [(2, 1, 0, 0), (37, 7, 0, 0), (0, 0, 0, 0), (2, 0, 0, 0), (37, 7, 0, 0), (0, 0, 0, 0), (0, 0, 0, 8), (61, 0, 0, 0), (2, 1, 0, 0), (37, 7, 1, 0), (0, 0, 0, 0), (2, 0, 0, 0), (37, 7, 1, 0), (0, 0, 0, 0), (0, 0, 0, 8), (61, 0, 0, 0), (2, 0, 0, 0), (2, 1, 0, 0), (37, 7, 2, 0), (38, 7, 2, 0), (2, 0, 0, 0), (2, 1, 0, 0), (37, 7, 3, 0), (38, 7, 3, 0), (53, 0, 0, 0)]
noncomputable def z_i101 : List zJ := z_dec cX9_copyFrom 0 (z_wx [(1, [229]), (2, [229]), (2, [431]), (1, [232]), (2, [232]), (2, [431]), (2, [235]), (0, [235]), (2, [237]), (0, [237])] 1)
noncomputable def z_h101 : List (Nat × Nat × Nat × Nat × Nat × Nat × Nat) := []
noncomputable def z_m102 : zMi := (RX9, yX9_has, cX9_has, 2, some .boolean, [])
noncomputable def z_c102 : List zI := [(1, 1, 0, 0), (31, 11, 2, 0), (1, 1, 0, 0), (2, 0, 0, 0), (37, 7, 3, 0), (32, 11, 3, 0), (1, 1, 0, 0), (0, 0, 0, 8), (32, 11, 3, 0), (0, 0, 0, 1), (30, 12, 0, 0), (0, 0, 0, 0), (50, 0, 0, 0)]
noncomputable def z_i102 : List zJ := z_dec cX9_has 0 (z_wx [(4, [237])] 8)
noncomputable def z_h102 : List (Nat × Nat × Nat × Nat × Nat × Nat × Nat) := []
noncomputable def z_m103 : zMi := (RX9, yX9_hasRoom, cX9_hasRoom, 1, some .boolean, [])
noncomputable def z_c103 : List zI := [(2, 0, 0, 0), (37, 7, 3, 0), (0, 0, 0, 8), (32, 6, 3, 0), (0, 0, 0, 1), (30, 7, 0, 0), (0, 0, 0, 0), (50, 0, 0, 0)]
noncomputable def z_i103 : List zJ := z_dec cX9_hasRoom 0 (z_wx [(1, [237])] 6)
noncomputable def z_h103 : List (Nat × Nat × Nat × Nat × Nat × Nat × Nat) := []
noncomputable def z_m104 : zMi := (RX9, yX9_bring, cX9_bring, 4, none, [])
noncomputable def z_c104 : List zI := [(2, 0, 0, 0), (54, 103, 0, 7), (31, 4, 1, 0), (53, 0, 0, 0), (2, 0, 0, 0), (37, 7, 0, 0), (2, 0, 0, 0), (37, 7, 3, 0), (1, 1, 0, 0), (40, 0, 0, 0), (2, 0, 0, 0), (37, 7, 1, 0), (2, 0, 0, 0), (37, 7, 3, 0), (1, 2, 0, 0), (40, 0, 0, 0), (1, 3, 0, 0), (31, 22, 0, 0), (2, 0, 0, 0), (2, 0, 0, 0), (37, 7, 3, 0), (54, 106, 1, 7), (2, 0, 0, 0), (27, 0, 0, 0), (37, 7, 3, 0), (0, 0, 0, 1), (8, 0, 0, 0), (38, 7, 3, 0), (53, 0, 0, 0)]
noncomputable def z_i104 : List zJ := z_dec cX9_bring 0 (z_wx [(1, [769, 753, 754, 106, 755]), (3, [229]), (1, [237]), (3, [232]), (1, [237]), (6, [237]), (0, [770, 771, 772, 106, 773]), (2, [237]), (2, [237])] 1)
noncomputable def z_h104 : List (Nat × Nat × Nat × Nat × Nat × Nat × Nat) := []
noncomputable def z_m105 : zMi := (RX9, yX9_isLeft, cX9_isLeft, 2, some .boolean, [])
noncomputable def z_c105 : List zI := [(2, 0, 0, 0), (37, 7, 2, 0), (1, 1, 0, 0), (14, 0, 0, 0), (0, 0, 0, 1), (16, 0, 0, 0), (0, 0, 0, 1), (32, 10, 1, 0), (0, 0, 0, 1), (30, 11, 0, 0), (0, 0, 0, 0), (50, 0, 0, 0)]
noncomputable def z_i105 : List zJ := z_dec cX9_isLeft 0 (z_wx [(1, [235])] 10)
noncomputable def z_h105 : List (Nat × Nat × Nat × Nat × Nat × Nat × Nat) := []
noncomputable def z_m106 : zMi := (RX9, yX9_putDown, cX9_putDown, 2, none, [])
noncomputable def z_c106 : List zI := [(2, 0, 0, 0), (27, 0, 0, 0), (37, 7, 2, 0), (0, 0, 0, 1), (1, 1, 0, 0), (13, 0, 0, 0), (17, 0, 0, 0), (38, 7, 2, 0), (53, 0, 0, 0)]
noncomputable def z_i106 : List zJ := z_dec cX9_putDown 0 (z_wx [(2, [235]), (4, [235])] 1)
noncomputable def z_h106 : List (Nat × Nat × Nat × Nat × Nat × Nat × Nat) := []
noncomputable def z_m107 : zMi := (RX9, yX9_takeAlong, cX9_takeAlong, 2, none, [])
noncomputable def z_c107 : List zI := [(2, 0, 0, 0), (27, 0, 0, 0), (37, 7, 2, 0), (0, 0, 0, 1), (1, 1, 0, 0), (13, 0, 0, 0), (0, 0, 0, -1), (18, 0, 0, 0), (16, 0, 0, 0), (38, 7, 2, 0), (53, 0, 0, 0)]
noncomputable def z_i107 : List zJ := z_dec cX9_takeAlong 0 (z_wx [(2, [235]), (6, [235])] 1)
noncomputable def z_h107 : List (Nat × Nat × Nat × Nat × Nat × Nat × Nat) := []
noncomputable def z_m108 : zMi := (RX9, yX9_bulkLeft, cX9_bulkLeft, 1, some .int, [])
noncomputable def z_c108 : List zI := [(2, 0, 0, 0), (0, 0, 0, -1), (54, 109, 1, 7), (50, 0, 0, 0)]
noncomputable def z_i108 : List zJ := z_dec cX9_bulkLeft 0 (z_wx [(2, [1087, 579, 580, 106, 581])] 1)
noncomputable def z_h108 : List (Nat × Nat × Nat × Nat × Nat × Nat × Nat) := []
noncomputable def z_m109 : zMi := (RX9, yX9_bulkLeftByOthers, cX9_bulkLeftByOthers, 4, some .int, [])
noncomputable def z_c109 : List zI := [(0, 0, 0, 0), (4, 2, 0, 0), (0, 0, 0, 0), (4, 3, 0, 0), (1, 3, 0, 0), (2, 0, 0, 0), (37, 7, 3, 0), (32, 31, 3, 0), (2, 0, 0, 0), (37, 7, 2, 0), (1, 3, 0, 0), (14, 0, 0, 0), (0, 0, 0, 1), (16, 0, 0, 0), (0, 0, 0, 1), (32, 29, 1, 0), (2, 0, 0, 0), (37, 7, 0, 0), (1, 3, 0, 0), (39, 0, 0, 0), (1, 1, 0, 0), (32, 29, 0, 0), (1, 2, 0, 0), (2, 0, 0, 0), (37, 7, 1, 0), (1, 3, 0, 0), (39, 0, 0, 0), (8, 0, 0, 0), (4, 2, 0, 0), (7, 3, 0, 1), (30, 4, 0, 0), (1, 2, 0, 0), (50, 0, 0, 0)]
noncomputable def z_i109 : List zJ := z_dec cX9_bulkLeftByOthers 0 (z_wx [(6, [237]), (2, [235]), (7, [229]), (6, [232])] 8)
noncomputable def z_h109 : List (Nat × Nat × Nat × Nat × Nat × Nat × Nat) := []
noncomputable def z_m110 : zMi := (RX10, yX10_worthOf, cX10_worthOf, 5, some .int, [])
noncomputable def z_c110 : List zI := [(2, 0, 0, 0), (1, 1, 0, 0), (54, 28, 1, 1), (4, 2, 0, 0), (1, 2, 0, 0), (0, 0, 0, -12582976), (16, 0, 0, 0), (4, 3, 0, 0), (1, 3, 0, 0), (2, 0, 0, 0), (37, 1, 1, 0), (1, 1, 0, 0), (54, 15, 1, 0), (16, 0, 0, 0), (4, 4, 0, 0), (0, 0, 0, 3), (1, 2, 0, 0), (0, 0, 0, 12582975), (16, 0, 0, 0), (55, 311, 1, 0), (10, 0, 0, 0), (1, 3, 0, 0), (55, 311, 1, 0), (8, 0, 0, 0), (1, 4, 0, 0), (55, 311, 1, 0), (8, 0, 0, 0), (50, 0, 0, 0)]
noncomputable def z_i110 : List zJ := z_dec cX10_worthOf 0 (z_wx [(2, [524, 467, 468, 104, 469]), (2, [525]), (4, [272]), (1, [526, 478, 479, 105, 480]), (4, [527]), (1, [528, 482, 126, 483]), (2, [528, 482, 126, 483]), (2, [528, 482, 126, 483])] 2)
noncomputable def z_h110 : List (Nat × Nat × Nat × Nat × Nat × Nat × Nat) := []
noncomputable def z_m111 : zMi := (RX10, yX10_partOf, cX10_partOf, 11, some .int, [])
noncomputable def z_c111 : List zI := [(2, 0, 0, 0), (37, 1, 1, 0), (54, 11, 0, 0), (4, 3, 0, 0), (2, 0, 0, 0), (37, 1, 1, 0), (37, 0, 4, 0), (4, 4, 0, 0), (2, 0, 0, 0), (1, 3, 0, 0), (55, 110, 2, 0), (4, 5, 0, 0), (1, 5, 0, 0), (31, 16, 4, 0), (0, 0, 0, 0), (50, 0, 0, 0), (25, 0, 0, 0), (6, 6, 0, 0), (0, 0, 0, 0), (4, 8, 0, 0), (1, 8, 0, 0), (1, 3, 0, 0), (32, 61, 4, 0), (1, 8, 0, 0), (1, 1, 0, 0), (14, 0, 0, 0), (0, 0, 0, 1), (16, 0, 0, 0), (31, 59, 1, 0), (1, 8, 0, 0), (55, 311, 1, 0), (4, 9, 0, 0), (2, 0, 0, 0), (1, 8, 0, 0), (0, 0, 0, 1), (1, 1, 0, 0), (13, 0, 0, 0), (17, 0, 0, 0), (55, 110, 2, 0), (2, 0, 0, 0), (1, 8, 0, 0), (55, 110, 2, 0), (9, 0, 0, 0), (4, 10, 0, 0), (3, 6, 0, 0), (1, 9, 0, 0), (55, 112, 1, 0), (1, 4, 0, 0), (0, 0, 0, 1), (9, 0, 0, 0), (1, 9, 0, 0), (9, 0, 0, 0), (55, 112, 1, 0), (23, 0, 0, 0), (1, 10, 0, 0), (19, 0, 0, 0), (23, 0, 0, 0), (22, 0, 0, 0), (6, 6, 0, 0), (7, 8, 0, 1), (30, 20, 0, 0), (25, 0, 0, 100), (1, 2, 0, 0), (19, 0, 0, 0), (23, 0, 0, 0), (3, 6, 0, 0), (23, 0, 0, 0), (1, 4, 0, 0), (55, 112, 1, 0), (1, 5, 0, 0), (19, 0, 0, 0), (23, 0, 0, 0), (24, 0, 0, 0), (20, 0, 0, 0), (50, 0, 0, 0)]
noncomputable def z_i111 : List zJ := z_dec cX10_partOf 0 (z_wx [(1, [272]), (0, [1294, 463, 464, 105, 465]), (2, [272]), (0, [208]), (3, [1295, 522, 129, 523]), (19, [528, 482, 126, 483]), (7, [1295, 522, 129, 523]), (2, [1295, 522, 129, 523]), (4, [1296, 1297, 129, 1298]), (5, [1296, 1297, 129, 1298]), (8, [1299]), (6, [1296, 1297, 129, 1298])] 6)
noncomputable def z_h111 : List (Nat × Nat × Nat × Nat × Nat × Nat × Nat) := []
noncomputable def z_m112 : zMi := (RX10, yX10_ordersOf, cX10_ordersOf, 4, some .long, [])
noncomputable def z_c112 : List zI := [(25, 0, 0, 1), (6, 1, 0, 0), (0, 0, 0, 2), (4, 3, 0, 0), (1, 3, 0, 0), (1, 0, 0, 0), (32, 14, 4, 0), (3, 1, 0, 0), (1, 3, 0, 0), (19, 0, 0, 0), (23, 0, 0, 0), (6, 1, 0, 0), (7, 3, 0, 1), (30, 4, 0, 0), (3, 1, 0, 0), (51, 0, 0, 0)]
noncomputable def z_i112 : List zJ := z_dec cX10_ordersOf 0 (z_wx [] 16)
noncomputable def z_h112 : List (Nat × Nat × Nat × Nat × Nat × Nat × Nat) := []
noncomputable def z_m113 : zMi := (RX10, yX10_settledBids, cX10_settledBids, 7, some .int, [])
noncomputable def z_c113 : List zI := [(0, 0, 0, 0), (4, 4, 0, 0), (0, 0, 0, 0), (4, 5, 0, 0), (1, 5, 0, 0), (0, 0, 0, 1), (32, 40, 4, 0), (0, 0, 0, 0), (4, 6, 0, 0), (1, 6, 0, 0), (0, 0, 0, 1), (32, 38, 4, 0), (2, 0, 0, 0), (1, 1, 0, 0), (1, 3, 0, 0), (1, 5, 0, 0), (1, 6, 0, 0), (55, 114, 5, 0), (31, 36, 0, 0), (2, 0, 0, 0), (1, 2, 0, 0), (1, 3, 0, 0), (1, 6, 0, 0), (1, 5, 0, 0), (55, 114, 5, 0), (31, 36, 0, 0), (1, 4, 0, 0), (0, 0, 0, 1), (0, 0, 0, 2), (1, 5, 0, 0), (10, 0, 0, 0), (1, 6, 0, 0), (8, 0, 0, 0), (13, 0, 0, 0), (17, 0, 0, 0), (4, 4, 0, 0), (7, 6, 0, 1), (30, 9, 0, 0), (7, 5, 0, 1), (30, 4, 0, 0), (1, 4, 0, 0), (50, 0, 0, 0)]
noncomputable def z_i113 : List zJ := z_dec cX10_settledBids 0 (z_wx [(17, [1327, 1328, 129, 1329]), (6, [1327, 1328, 129, 1329])] 17)
noncomputable def z_h113 : List (Nat × Nat × Nat × Nat × Nat × Nat × Nat) := []
noncomputable def z_m114 : zMi := (RX10, yX10_staysWith, cX10_staysWith, 5, some .boolean, [])
noncomputable def z_c114 : List zI := [(2, 0, 0, 0), (1, 1, 0, 0), (1, 2, 0, 0), (1, 3, 0, 0), (1, 4, 0, 0), (55, 115, 5, 0), (2, 0, 0, 0), (1, 1, 0, 0), (1, 2, 0, 0), (0, 0, 0, 1), (1, 3, 0, 0), (9, 0, 0, 0), (1, 4, 0, 0), (55, 115, 5, 0), (32, 17, 2, 0), (0, 0, 0, 1), (30, 18, 0, 0), (0, 0, 0, 0), (50, 0, 0, 0)]
noncomputable def z_i114 : List zJ := z_dec cX10_staysWith 0 (z_wx [(5, [1330, 1331, 129, 1332]), (7, [1330, 1331, 129, 1332])] 5)
noncomputable def z_h114 : List (Nat × Nat × Nat × Nat × Nat × Nat × Nat) := []
noncomputable def z_m115 : zMi := (RX10, yX10_bidGain, cX10_bidGain, 6, some .int, [])
noncomputable def z_c115 : List zI := [(2, 0, 0, 0), (37, 1, 15, 0), (0, 0, 0, 1), (1, 3, 0, 0), (8, 0, 0, 0), (10, 0, 0, 0), (4, 5, 0, 0), (1, 5, 0, 0), (2, 0, 0, 0), (37, 1, 15, 0), (0, 0, 0, 1), (1, 4, 0, 0), (8, 0, 0, 0), (10, 0, 0, 0), (32, 17, 4, 0), (0, 0, 0, 0), (50, 0, 0, 0), (2, 0, 0, 0), (37, 1, 1, 0), (1, 1, 0, 0), (1, 2, 0, 0), (54, 14, 2, 0), (31, 25, 0, 0), (0, 0, 0, 30), (30, 26, 0, 0), (0, 0, 0, 15), (1, 5, 0, 0), (9, 0, 0, 0), (50, 0, 0, 0)]
noncomputable def z_i115 : List zJ := z_dec cX10_bidGain 0 (z_wx [(1, [303]), (7, [303]), (8, [272]), (2, [1333, 502, 503, 105, 504])] 7)
noncomputable def z_h115 : List (Nat × Nat × Nat × Nat × Nat × Nat × Nat) := []
noncomputable def z_m116 : zMi := (RX10, yX10_richestOf, cX10_richestOf, 6, some .int, [])
noncomputable def z_c116 : List zI := [(0, 0, 0, -1), (4, 1, 0, 0), (0, 0, 0, -1), (4, 2, 0, 0), (0, 0, 0, 0), (4, 3, 0, 0), (1, 3, 0, 0), (2, 0, 0, 0), (37, 1, 1, 0), (37, 0, 4, 0), (32, 38, 3, 0), (2, 0, 0, 0), (0, 0, 0, 1), (1, 3, 0, 0), (13, 0, 0, 0), (54, 28, 1, 1), (55, 311, 1, 0), (4, 4, 0, 0), (2, 0, 0, 0), (37, 1, 1, 0), (37, 0, 0, 0), (1, 3, 0, 0), (39, 0, 0, 0), (2, 0, 0, 0), (37, 1, 15, 0), (1, 4, 0, 0), (10, 0, 0, 0), (8, 0, 0, 0), (4, 5, 0, 0), (1, 5, 0, 0), (1, 2, 0, 0), (32, 36, 5, 0), (1, 5, 0, 0), (4, 2, 0, 0), (1, 3, 0, 0), (4, 1, 0, 0), (7, 3, 0, 1), (30, 6, 0, 0), (1, 1, 0, 0), (50, 0, 0, 0)]
noncomputable def z_i116 : List zJ := z_dec cX10_richestOf 0 (z_wx [(8, [272]), (0, [208]), (5, [524, 467, 468, 104, 469]), (0, [528, 482, 126, 483]), (2, [272]), (0, [197]), (3, [303])] 15)
noncomputable def z_h116 : List (Nat × Nat × Nat × Nat × Nat × Nat × Nat) := []
noncomputable def z_m117 : zMi := (RX11, yX11_init, cX11_init, 1, none, [])
noncomputable def z_c117 : List zI := [(2, 0, 0, 0), (57, 0, 0, 0), (2, 0, 0, 0), (49, 6, 0, 0), (27, 0, 0, 0), (73, 84, 0, 0), (38, 8, 0, 2), (2, 0, 0, 0), (49, 3, 0, 0), (27, 0, 0, 0), (73, 46, 0, 0), (38, 8, 1, 2), (2, 0, 0, 0), (49, 1, 0, 0), (27, 0, 0, 0), (56, 22, 0, 0), (38, 8, 2, 2), (2, 0, 0, 0), (49, 1, 0, 0), (27, 0, 0, 0), (56, 22, 0, 0), (38, 8, 3, 2), (2, 0, 0, 0), (49, 1, 0, 0), (27, 0, 0, 0), (56, 22, 0, 0), (38, 8, 4, 2), (2, 0, 0, 0), (49, 5, 0, 0), (27, 0, 0, 0), (56, 61, 0, 0), (38, 8, 5, 2), (2, 0, 0, 0), (0, 0, 0, 0), (38, 8, 6, 1), (2, 0, 0, 0), (0, 0, 0, -1), (38, 8, 7, 0), (53, 0, 0, 0)]
noncomputable def z_i117 : List zJ := z_dec cX11_init 0 (z_wx [(1, [135, 136, 137]), (1, [138, 139, 102]), (1, [141, 102, 142]), (0, [366]), (1, [159, 160, 103]), (1, [162, 103, 163]), (0, [367]), (1, [184, 185, 104]), (1, [186, 187, 104, 188]), (0, [368]), (1, [184, 185, 104]), (1, [186, 187, 104, 188]), (0, [369]), (1, [184, 185, 104]), (1, [186, 187, 104, 188]), (0, [370]), (1, [346, 347, 109]), (1, [348, 349, 109, 350]), (0, [371]), (2, [372]), (2, [373])] 1)
noncomputable def z_h117 : List (Nat × Nat × Nat × Nat × Nat × Nat × Nat) := []
noncomputable def z_m118 : zMi := (RX11, yX11_feed, cX11_feed, 6, some .int, [])
noncomputable def z_c118 : List zI := [(2, 0, 0, 0), (37, 8, 0, 0), (37, 6, 1, 0), (0, 0, 0, 20), (8, 0, 0, 0), (0, 0, 0, 400), (32, 9, 5, 0), (0, 0, 0, -1), (50, 0, 0, 0), (2, 0, 0, 0), (37, 8, 0, 0), (1, 1, 0, 0), (54, 85, 1, 6), (2, 0, 0, 0), (37, 8, 0, 0), (1, 2, 0, 0), (54, 85, 1, 6), (2, 0, 0, 0), (37, 8, 0, 0), (1, 3, 0, 0), (54, 85, 1, 6), (2, 0, 0, 0), (37, 8, 0, 0), (1, 4, 0, 0), (54, 85, 1, 6), (2, 0, 0, 0), (37, 8, 0, 0), (1, 5, 0, 0), (54, 85, 1, 6), (2, 0, 0, 0), (37, 8, 0, 0), (37, 6, 1, 0), (50, 0, 0, 0)]
noncomputable def z_i118 : List zJ := z_dec cX11_feed 0 (z_wx [(1, [366]), (0, [146]), (7, [366]), (1, [395, 396, 397, 102, 398]), (1, [366]), (1, [395, 396, 397, 102, 398]), (1, [366]), (1, [395, 396, 397, 102, 398]), (1, [366]), (1, [395, 396, 397, 102, 398]), (1, [366]), (1, [395, 396, 397, 102, 398]), (1, [366]), (0, [146])] 1)
noncomputable def z_h118 : List (Nat × Nat × Nat × Nat × Nat × Nat × Nat) := []
noncomputable def z_m119 : zMi := (RX11, yX11_end, cX11_end, 2, some .boolean, [])
noncomputable def z_c119 : List zI := [(1, 1, 0, 0), (31, 7, 2, 0), (1, 1, 0, 0), (2, 0, 0, 0), (37, 8, 0, 0), (37, 6, 1, 0), (32, 9, 5, 0), (0, 0, 0, 0), (50, 0, 0, 0), (2, 0, 0, 0), (37, 8, 0, 0), (1, 1, 0, 0), (38, 6, 1, 0), (0, 0, 0, 1), (50, 0, 0, 0)]
noncomputable def z_i119 : List zJ := z_dec cX11_end 0 (z_wx [(4, [366]), (0, [146]), (4, [366]), (1, [146])] 2)
noncomputable def z_h119 : List (Nat × Nat × Nat × Nat × Nat × Nat × Nat) := []
noncomputable def z_m120 : zMi := (RX11, yX11_deed, cX11_deed, 1, some .int, [])
noncomputable def z_c120 : List zI := [(2, 0, 0, 0), (37, 8, 3, 0), (2, 0, 0, 0), (37, 8, 2, 0), (54, 23, 1, 1), (2, 0, 0, 0), (2, 0, 0, 0), (37, 8, 3, 0), (2, 0, 0, 0), (37, 8, 0, 0), (55, 0, 2, 0), (38, 8, 7, 0), (2, 0, 0, 0), (37, 8, 0, 0), (0, 0, 0, 0), (38, 6, 1, 0), (2, 0, 0, 0), (37, 8, 7, 0), (0, 0, 0, -1), (32, 25, 0, 0), (62, 0, 0, 0), (99, 0, 0, 0), (99, 0, 0, 0), (99, 0, 0, 0), (99, 0, 0, 0), (2, 0, 0, 0), (37, 8, 2, 0), (37, 1, 6, 0), (0, 0, 0, 12), (32, 35, 2, 0), (62, 1, 1, 0), (99, 0, 0, 0), (99, 0, 0, 0), (99, 0, 0, 0), (99, 0, 0, 0), (2, 0, 0, 0), (37, 8, 2, 0), (2, 0, 0, 0), (37, 8, 3, 0), (54, 23, 1, 1), (2, 0, 0, 0), (37, 8, 2, 0), (27, 0, 0, 0), (37, 1, 6, 0), (0, 0, 0, 1), (8, 0, 0, 0), (38, 1, 6, 0), (2, 0, 0, 0), (37, 8, 5, 0), (54, 64, 0, 5), (2, 0, 0, 0), (37, 8, 2, 0), (37, 1, 6, 0), (50, 0, 0, 0)]
noncomputable def z_i120 : List zJ := z_dec cX11_deed 0 (z_wx [(1, [369]), (1, [368]), (0, [598, 416, 417, 104, 418]), (2, [369]), (1, [366]), (0, [628, 629, 112, 630]), (0, [373]), (1, [366]), (1, [146]), (1, [373]), (2, [796, 121, 70, 72]), (5, [368]), (0, [285]), (2, [866, 122, 80, 82]), (5, [368]), (1, [369]), (0, [598, 416, 417, 104, 418]), (1, [368]), (1, [285]), (2, [285]), (1, [371]), (0, [603, 604, 605, 109, 606]), (1, [368]), (0, [285])] 1)
noncomputable def z_h120 : List (Nat × Nat × Nat × Nat × Nat × Nat × Nat) := []
noncomputable def z_m121 : zMi := (RX11, yX11_law, cX11_law, 2, some .int, [])
noncomputable def z_c121 : List zI := [(2, 0, 0, 0), (2, 0, 0, 0), (37, 8, 1, 0), (2, 0, 0, 0), (37, 8, 0, 0), (54, 47, 1, 3), (38, 8, 7, 0), (2, 0, 0, 0), (37, 8, 0, 0), (0, 0, 0, 0), (38, 6, 1, 0), (2, 0, 0, 0), (37, 8, 7, 0), (0, 0, 0, -1), (32, 20, 0, 0), (62, 0, 2, 0), (99, 0, 0, 0), (99, 0, 0, 0), (99, 0, 0, 0), (99, 0, 0, 0), (2, 0, 0, 0), (37, 8, 1, 0), (54, 48, 0, 3), (5, 1, 0, 0), (2, 0, 0, 0), (37, 8, 2, 0), (2, 1, 0, 0), (38, 1, 5, 2), (2, 0, 0, 0), (37, 8, 5, 0), (54, 64, 0, 5), (2, 1, 0, 0), (37, 2, 0, 0), (50, 0, 0, 0)]
noncomputable def z_i121 : List zJ := z_dec cX11_law 0 (z_wx [(2, [367]), (1, [366]), (0, [889, 890, 891, 103, 892]), (0, [373]), (1, [366]), (1, [146]), (1, [373]), (2, [796, 121, 90, 72]), (5, [367]), (0, [946, 947, 948, 103, 949]), (2, [368]), (1, [283]), (1, [371]), (0, [603, 604, 605, 109, 606]), (1, [971])] 1)
noncomputable def z_h121 : List (Nat × Nat × Nat × Nat × Nat × Nat × Nat) := []
noncomputable def z_m122 : zMi := (RX11, yX11_fault, cX11_fault, 1, some .int, [])
noncomputable def z_c122 : List zI := [(2, 0, 0, 0), (37, 8, 7, 0), (50, 0, 0, 0)]
noncomputable def z_i122 : List zJ := z_dec cX11_fault 0 (z_wx [(1, [373])] 1)
noncomputable def z_h122 : List (Nat × Nat × Nat × Nat × Nat × Nat × Nat) := []
noncomputable def z_m123 : zMi := (RX11, yX11_holds, cX11_holds, 2, some .int, [])
noncomputable def z_c123 : List zI := [(2, 0, 0, 0), (1, 1, 0, 0), (54, 166, 1, 8), (2, 0, 0, 0), (37, 8, 2, 0), (37, 1, 0, 0), (1, 1, 0, 0), (39, 0, 0, 0), (50, 0, 0, 0)]
noncomputable def z_i123 : List zJ := z_dec cX11_holds 0 (z_wx [(2, [998, 1000, 8, 101, 1001]), (1, [368]), (0, [270])] 3)
noncomputable def z_h123 : List (Nat × Nat × Nat × Nat × Nat × Nat × Nat) := []
noncomputable def z_m124 : zMi := (RX11, yX11_family, cX11_family, 4, some .int, [])
noncomputable def z_c124 : List zI := [(2, 0, 0, 0), (1, 1, 0, 0), (54, 167, 1, 8), (2, 0, 0, 0), (1, 2, 0, 0), (0, 0, 0, 8), (54, 169, 2, 8), (2, 0, 0, 0), (37, 8, 2, 0), (0, 0, 0, 1), (1, 1, 0, 0), (13, 0, 0, 0), (54, 28, 1, 1), (4, 3, 0, 0), (1, 2, 0, 0), (35, 2, 0, 0), (2, 0, 0, 0), (37, 8, 2, 0), (37, 1, 1, 0), (1, 1, 0, 0), (54, 16, 1, 0), (50, 0, 0, 0), (2, 0, 0, 0), (37, 8, 2, 0), (37, 1, 1, 0), (37, 0, 1, 0), (1, 1, 0, 0), (39, 0, 0, 0), (50, 0, 0, 0), (2, 0, 0, 0), (37, 8, 2, 0), (37, 1, 1, 0), (37, 0, 2, 0), (1, 1, 0, 0), (39, 0, 0, 0), (50, 0, 0, 0), (2, 0, 0, 0), (37, 8, 2, 0), (37, 1, 1, 0), (37, 0, 3, 0), (1, 1, 0, 0), (39, 0, 0, 0), (50, 0, 0, 0), (1, 3, 0, 0), (50, 0, 0, 0), (1, 3, 0, 0), (55, 311, 1, 0), (50, 0, 0, 0), (1, 3, 0, 0), (55, 65, 1, 0), (50, 0, 0, 0), (1, 3, 0, 0), (2, 0, 0, 0), (37, 8, 2, 0), (37, 1, 1, 0), (37, 0, 3, 0), (1, 1, 0, 0), (39, 0, 0, 0), (16, 0, 0, 0), (55, 311, 1, 0), (50, 0, 0, 0), (2, 0, 0, 0), (37, 8, 2, 0), (1, 1, 0, 0), (55, 68, 2, 0), (50, 0, 0, 0)]
noncomputable def z_i124 : List zJ := z_dec cX11_family 0 (z_wx [(2, [1026, 1028, 9, 101, 1029]), (3, [1032, 1034, 10, 101, 1035]), (1, [368]), (3, [1052, 467, 468, 104, 469]), (4, [368]), (0, [275]), (1, [1053, 1054, 1055, 105, 1056]), (2, [368]), (0, [275]), (0, [199]), (4, [368]), (0, [275]), (0, [202]), (4, [368]), (0, [275]), (0, [205]), (6, [1057, 482, 126, 483]), (2, [1058, 1059, 127, 1060]), (3, [368]), (0, [275]), (0, [205]), (3, [1057, 482, 126, 483]), (2, [368]), (1, [1064, 1065, 127, 1066])] 1)
noncomputable def z_h124 : List (Nat × Nat × Nat × Nat × Nat × Nat × Nat) := []
noncomputable def z_m125 : zMi := (RX11, yX11_does, cX11_does, 4, some .int, [])
noncomputable def z_c125 : List zI := [(2, 0, 0, 0), (1, 1, 0, 0), (54, 167, 1, 8), (2, 0, 0, 0), (1, 2, 0, 0), (54, 166, 1, 8), (2, 0, 0, 0), (1, 3, 0, 0), (0, 0, 0, 1), (54, 169, 2, 8), (1, 3, 0, 0), (31, 18, 1, 0), (2, 0, 0, 0), (37, 8, 2, 0), (1, 1, 0, 0), (1, 2, 0, 0), (54, 30, 2, 1), (30, 23, 0, 0), (2, 0, 0, 0), (37, 8, 2, 0), (1, 1, 0, 0), (1, 2, 0, 0), (54, 31, 2, 1), (50, 0, 0, 0)]
noncomputable def z_i125 : List zJ := z_dec cX11_does 0 (z_wx [(2, [1026, 1028, 9, 101, 1029]), (2, [998, 1000, 8, 101, 1001]), (3, [1032, 1034, 10, 101, 1035]), (3, [368]), (2, [1074, 1075, 1076, 104, 1077]), (2, [368]), (2, [1104, 1105, 1106, 104, 1107])] 1)
noncomputable def z_h125 : List (Nat × Nat × Nat × Nat × Nat × Nat × Nat) := []
noncomputable def z_m126 : zMi := (RX11, yX11_thing, cX11_thing, 3, some .int, [])
noncomputable def z_c126 : List zI := [(2, 0, 0, 0), (1, 1, 0, 0), (54, 168, 1, 8), (2, 0, 0, 0), (1, 2, 0, 0), (0, 0, 0, 3), (54, 169, 2, 8), (1, 2, 0, 0), (35, 3, 0, 0), (2, 0, 0, 0), (37, 8, 2, 0), (37, 1, 2, 0), (37, 7, 0, 0), (1, 1, 0, 0), (39, 0, 0, 0), (50, 0, 0, 0), (2, 0, 0, 0), (37, 8, 2, 0), (37, 1, 2, 0), (37, 7, 1, 0), (1, 1, 0, 0), (39, 0, 0, 0), (50, 0, 0, 0), (2, 0, 0, 0), (37, 8, 2, 0), (37, 1, 2, 0), (1, 1, 0, 0), (54, 105, 1, 7), (31, 31, 0, 0), (0, 0, 0, 1), (30, 32, 0, 0), (0, 0, 0, 0), (50, 0, 0, 0), (2, 0, 0, 0), (37, 8, 2, 0), (1, 1, 0, 0), (54, 32, 1, 1), (50, 0, 0, 0)]
noncomputable def z_i126 : List zJ := z_dec cX11_thing 0 (z_wx [(2, [1115, 1117, 13, 101, 1118]), (3, [1032, 1034, 10, 101, 1035]), (3, [368]), (0, [278]), (0, [230]), (4, [368]), (0, [278]), (0, [233]), (4, [368]), (0, [278]), (1, [1124, 1125, 1126, 106, 1127]), (6, [368]), (1, [1128, 1129, 1130, 104, 1131])] 1)
noncomputable def z_h126 : List (Nat × Nat × Nat × Nat × Nat × Nat × Nat) := []
noncomputable def z_m127 : zMi := (RX11, yX11_sell, cX11_sell, 4, some .int, [])
noncomputable def z_c127 : List zI := [(2, 0, 0, 0), (1, 1, 0, 0), (54, 166, 1, 8), (2, 0, 0, 0), (1, 2, 0, 0), (54, 167, 1, 8), (2, 0, 0, 0), (37, 8, 2, 0), (37, 1, 0, 0), (1, 1, 0, 0), (39, 0, 0, 0), (4, 3, 0, 0), (2, 0, 0, 0), (1, 3, 0, 0), (1, 2, 0, 0), (54, 171, 2, 8), (2, 0, 0, 0), (1, 3, 0, 0), (0, 0, 0, -1), (32, 31, 0, 0), (2, 0, 0, 0), (37, 8, 2, 0), (37, 1, 1, 0), (1, 2, 0, 0), (54, 16, 1, 0), (2, 0, 0, 0), (37, 8, 2, 0), (37, 1, 15, 0), (32, 31, 2, 0), (0, 0, 0, 1), (30, 32, 0, 0), (0, 0, 0, 0), (54, 172, 1, 8), (2, 0, 0, 0), (37, 8, 5, 0), (2, 0, 0, 0), (37, 8, 2, 0), (54, 62, 1, 5), (2, 0, 0, 0), (37, 8, 2, 0), (37, 1, 1, 0), (1, 2, 0, 0), (2, 0, 0, 0), (37, 8, 2, 0), (37, 1, 15, 0), (54, 17, 2, 0), (2, 0, 0, 0), (37, 8, 2, 0), (37, 1, 1, 0), (1, 3, 0, 0), (2, 0, 0, 0), (37, 8, 2, 0), (37, 1, 15, 0), (54, 18, 2, 0), (2, 0, 0, 0), (37, 8, 2, 0), (37, 1, 0, 0), (1, 1, 0, 0), (1, 2, 0, 0), (40, 0, 0, 0), (2, 0, 0, 0), (37, 8, 2, 0), (37, 1, 1, 0), (1, 3, 0, 0), (54, 16, 1, 0), (50, 0, 0, 0)]
noncomputable def z_i127 : List zJ := z_dec cX11_sell 0 (z_wx [(2, [998, 1000, 8, 101, 1001]), (2, [1026, 1028, 9, 101, 1029]), (1, [368]), (0, [270]), (6, [1141, 1143, 14, 101, 1144]), (5, [368]), (0, [275]), (1, [1053, 1054, 1055, 105, 1056]), (1, [368]), (0, [304]), (4, [1146, 1148, 15, 101, 1149]), (1, [371]), (1, [368]), (0, [411, 412, 413, 109, 414]), (1, [368]), (0, [275]), (2, [368]), (0, [304]), (0, [1166, 1167, 1168, 105, 1169]), (1, [368]), (0, [275]), (2, [368]), (0, [304]), (0, [1173, 1174, 1175, 105, 1176]), (1, [368]), (0, [270]), (4, [368]), (0, [275]), (1, [1053, 1054, 1055, 105, 1056])] 1)
noncomputable def z_h127 : List (Nat × Nat × Nat × Nat × Nat × Nat × Nat) := []
noncomputable def z_m128 : zMi := (RX11, yX11_buy, cX11_buy, 3, some .int, [])
noncomputable def z_c128 : List zI := [(2, 0, 0, 0), (1, 1, 0, 0), (54, 166, 1, 8), (2, 0, 0, 0), (1, 2, 0, 0), (54, 167, 1, 8), (2, 0, 0, 0), (2, 0, 0, 0), (37, 8, 2, 0), (37, 1, 0, 0), (1, 1, 0, 0), (39, 0, 0, 0), (0, 0, 0, -1), (32, 25, 1, 0), (2, 0, 0, 0), (37, 8, 2, 0), (37, 1, 1, 0), (1, 2, 0, 0), (54, 16, 1, 0), (2, 0, 0, 0), (37, 8, 2, 0), (37, 1, 15, 0), (32, 25, 2, 0), (0, 0, 0, 1), (30, 26, 0, 0), (0, 0, 0, 0), (54, 172, 1, 8), (2, 0, 0, 0), (37, 8, 5, 0), (2, 0, 0, 0), (37, 8, 2, 0), (54, 62, 1, 5), (2, 0, 0, 0), (37, 8, 2, 0), (37, 1, 1, 0), (1, 2, 0, 0), (2, 0, 0, 0), (37, 8, 2, 0), (37, 1, 15, 0), (54, 17, 2, 0), (2, 0, 0, 0), (37, 8, 2, 0), (37, 1, 0, 0), (1, 1, 0, 0), (1, 2, 0, 0), (40, 0, 0, 0), (2, 0, 0, 0), (37, 8, 2, 0), (37, 1, 1, 0), (1, 2, 0, 0), (54, 16, 1, 0), (50, 0, 0, 0)]
noncomputable def z_i128 : List zJ := z_dec cX11_buy 0 (z_wx [(2, [998, 1000, 8, 101, 1001]), (2, [1026, 1028, 9, 101, 1029]), (2, [368]), (0, [270]), (5, [368]), (0, [275]), (1, [1053, 1054, 1055, 105, 1056]), (1, [368]), (0, [304]), (4, [1146, 1148, 15, 101, 1149]), (1, [371]), (1, [368]), (0, [411, 412, 413, 109, 414]), (1, [368]), (0, [275]), (2, [368]), (0, [304]), (0, [1166, 1167, 1168, 105, 1169]), (1, [368]), (0, [270]), (4, [368]), (0, [275]), (1, [1053, 1054, 1055, 105, 1056])] 1)
noncomputable def z_h128 : List (Nat × Nat × Nat × Nat × Nat × Nat × Nat) := []
noncomputable def z_m129 : zMi := (RX11, yX11_swap, cX11_swap, 5, some .int, [])
noncomputable def z_c129 : List zI := [(2, 0, 0, 0), (1, 1, 0, 0), (54, 166, 1, 8), (2, 0, 0, 0), (1, 2, 0, 0), (54, 166, 1, 8), (2, 0, 0, 0), (1, 1, 0, 0), (1, 2, 0, 0), (54, 171, 2, 8), (2, 0, 0, 0), (37, 8, 2, 0), (37, 1, 0, 0), (1, 1, 0, 0), (39, 0, 0, 0), (4, 3, 0, 0), (2, 0, 0, 0), (37, 8, 2, 0), (37, 1, 0, 0), (1, 2, 0, 0), (39, 0, 0, 0), (4, 4, 0, 0), (2, 0, 0, 0), (1, 3, 0, 0), (0, 0, 0, -1), (32, 34, 0, 0), (1, 4, 0, 0), (0, 0, 0, -1), (32, 34, 0, 0), (1, 3, 0, 0), (1, 4, 0, 0), (32, 34, 0, 0), (0, 0, 0, 1), (30, 35, 0, 0), (0, 0, 0, 0), (54, 172, 1, 8), (2, 0, 0, 0), (37, 8, 5, 0), (2, 0, 0, 0), (37, 8, 2, 0), (54, 62, 1, 5), (2, 0, 0, 0), (37, 8, 2, 0), (37, 1, 0, 0), (1, 1, 0, 0), (1, 4, 0, 0), (40, 0, 0, 0), (2, 0, 0, 0), (37, 8, 2, 0), (37, 1, 0, 0), (1, 2, 0, 0), (1, 3, 0, 0), (40, 0, 0, 0), (1, 4, 0, 0), (50, 0, 0, 0)]
noncomputable def z_i129 : List zJ := z_dec cX11_swap 0 (z_wx [(2, [998, 1000, 8, 101, 1001]), (2, [998, 1000, 8, 101, 1001]), (3, [1141, 1143, 14, 101, 1144]), (1, [368]), (0, [270]), (4, [368]), (0, [270]), (16, [1146, 1148, 15, 101, 1149]), (1, [371]), (1, [368]), (0, [411, 412, 413, 109, 414]), (1, [368]), (0, [270]), (4, [368]), (0, [270])] 5)
noncomputable def z_h129 : List (Nat × Nat × Nat × Nat × Nat × Nat × Nat) := []
noncomputable def z_m130 : zMi := (RX11, yX11_free, cX11_free, 3, some .int, [])
noncomputable def z_c130 : List zI := [(2, 0, 0, 0), (1, 1, 0, 0), (54, 166, 1, 8), (2, 0, 0, 0), (37, 8, 2, 0), (37, 1, 0, 0), (1, 1, 0, 0), (39, 0, 0, 0), (4, 2, 0, 0), (2, 0, 0, 0), (1, 2, 0, 0), (0, 0, 0, -1), (32, 15, 0, 0), (0, 0, 0, 1), (30, 16, 0, 0), (0, 0, 0, 0), (54, 172, 1, 8), (2, 0, 0, 0), (37, 8, 5, 0), (2, 0, 0, 0), (37, 8, 2, 0), (54, 62, 1, 5), (2, 0, 0, 0), (37, 8, 2, 0), (37, 1, 0, 0), (1, 1, 0, 0), (0, 0, 0, -1), (40, 0, 0, 0), (1, 2, 0, 0), (50, 0, 0, 0)]
noncomputable def z_i130 : List zJ := z_dec cX11_free 0 (z_wx [(2, [998, 1000, 8, 101, 1001]), (1, [368]), (0, [270]), (10, [1146, 1148, 15, 101, 1149]), (1, [371]), (1, [368]), (0, [411, 412, 413, 109, 414]), (1, [368]), (0, [270])] 5)
noncomputable def z_h130 : List (Nat × Nat × Nat × Nat × Nat × Nat × Nat) := []
noncomputable def z_m131 : zMi := (RX11, yX11_leave, cX11_leave, 2, some .int, [])
noncomputable def z_c131 : List zI := [(2, 0, 0, 0), (1, 1, 0, 0), (54, 168, 1, 8), (2, 0, 0, 0), (2, 0, 0, 0), (37, 8, 2, 0), (37, 1, 2, 0), (37, 7, 0, 0), (1, 1, 0, 0), (39, 0, 0, 0), (2, 0, 0, 0), (37, 8, 2, 0), (54, 27, 0, 1), (32, 22, 1, 0), (2, 0, 0, 0), (37, 8, 2, 0), (37, 1, 2, 0), (1, 1, 0, 0), (54, 105, 1, 7), (31, 22, 1, 0), (0, 0, 0, 1), (30, 23, 0, 0), (0, 0, 0, 0), (54, 172, 1, 8), (2, 0, 0, 0), (37, 8, 5, 0), (2, 0, 0, 0), (37, 8, 2, 0), (54, 62, 1, 5), (2, 0, 0, 0), (37, 8, 2, 0), (37, 1, 2, 0), (1, 1, 0, 0), (54, 106, 1, 7), (2, 0, 0, 0), (37, 8, 2, 0), (37, 1, 2, 0), (54, 108, 0, 7), (50, 0, 0, 0)]
noncomputable def z_i131 : List zJ := z_dec cX11_leave 0 (z_wx [(2, [1115, 1117, 13, 101, 1118]), (2, [368]), (0, [278]), (0, [230]), (3, [368]), (0, [573, 574, 575, 104, 576]), (2, [368]), (0, [278]), (1, [1124, 1125, 1126, 106, 1127]), (4, [1146, 1148, 15, 101, 1149]), (1, [371]), (1, [368]), (0, [411, 412, 413, 109, 414]), (1, [368]), (0, [278]), (1, [1206, 771, 772, 106, 773]), (1, [368]), (0, [278]), (0, [1207, 1084, 1085, 106, 1086])] 1)
noncomputable def z_h131 : List (Nat × Nat × Nat × Nat × Nat × Nat × Nat) := []
noncomputable def z_m132 : zMi := (RX11, yX11_fetch, cX11_fetch, 2, some .int, [])
noncomputable def z_c132 : List zI := [(2, 0, 0, 0), (1, 1, 0, 0), (54, 168, 1, 8), (2, 0, 0, 0), (2, 0, 0, 0), (37, 8, 2, 0), (37, 1, 2, 0), (37, 7, 0, 0), (1, 1, 0, 0), (39, 0, 0, 0), (2, 0, 0, 0), (37, 8, 2, 0), (54, 27, 0, 1), (32, 22, 1, 0), (2, 0, 0, 0), (37, 8, 2, 0), (37, 1, 2, 0), (1, 1, 0, 0), (54, 105, 1, 7), (31, 22, 0, 0), (0, 0, 0, 1), (30, 23, 0, 0), (0, 0, 0, 0), (54, 172, 1, 8), (2, 0, 0, 0), (37, 8, 5, 0), (2, 0, 0, 0), (37, 8, 2, 0), (54, 62, 1, 5), (2, 0, 0, 0), (37, 8, 2, 0), (37, 1, 2, 0), (1, 1, 0, 0), (54, 107, 1, 7), (2, 0, 0, 0), (37, 8, 2, 0), (37, 1, 2, 0), (54, 108, 0, 7), (50, 0, 0, 0)]
noncomputable def z_i132 : List zJ := z_dec cX11_fetch 0 (z_wx [(2, [1115, 1117, 13, 101, 1118]), (2, [368]), (0, [278]), (0, [230]), (3, [368]), (0, [573, 574, 575, 104, 576]), (2, [368]), (0, [278]), (1, [1124, 1125, 1126, 106, 1127]), (4, [1146, 1148, 15, 101, 1149]), (1, [371]), (1, [368]), (0, [411, 412, 413, 109, 414]), (1, [368]), (0, [278]), (1, [1215, 1216, 1217, 106, 1218]), (1, [368]), (0, [278]), (0, [1207, 1084, 1085, 106, 1086])] 1)
noncomputable def z_h132 : List (Nat × Nat × Nat × Nat × Nat × Nat × Nat) := []
noncomputable def z_m133 : zMi := (RX11, yX11_quiet, cX11_quiet, 2, some .int, [])
noncomputable def z_c133 : List zI := [(2, 0, 0, 0), (37, 8, 2, 0), (54, 27, 0, 1), (4, 1, 0, 0), (2, 0, 0, 0), (1, 1, 0, 0), (0, 0, 0, -1), (32, 23, 0, 0), (2, 0, 0, 0), (37, 8, 2, 0), (37, 1, 11, 0), (31, 23, 5, 0), (2, 0, 0, 0), (37, 8, 2, 0), (37, 1, 1, 0), (1, 1, 0, 0), (54, 16, 1, 0), (2, 0, 0, 0), (37, 8, 2, 0), (37, 1, 11, 0), (32, 23, 2, 0), (0, 0, 0, 1), (30, 24, 0, 0), (0, 0, 0, 0), (54, 172, 1, 8), (2, 0, 0, 0), (37, 8, 5, 0), (2, 0, 0, 0), (37, 8, 2, 0), (54, 62, 1, 5), (2, 0, 0, 0), (37, 8, 2, 0), (37, 1, 1, 0), (1, 1, 0, 0), (2, 0, 0, 0), (37, 8, 2, 0), (37, 1, 11, 0), (54, 17, 2, 0), (2, 0, 0, 0), (37, 8, 2, 0), (0, 0, 0, 0), (38, 1, 11, 0), (2, 0, 0, 0), (37, 8, 2, 0), (37, 1, 1, 0), (1, 1, 0, 0), (54, 16, 1, 0), (50, 0, 0, 0)]
noncomputable def z_i133 : List zJ := z_dec cX11_quiet 0 (z_wx [(1, [368]), (0, [573, 574, 575, 104, 576]), (6, [368]), (0, [295]), (2, [368]), (0, [275]), (1, [1053, 1054, 1055, 105, 1056]), (1, [368]), (0, [295]), (4, [1146, 1148, 15, 101, 1149]), (1, [371]), (1, [368]), (0, [411, 412, 413, 109, 414]), (1, [368]), (0, [275]), (2, [368]), (0, [295]), (0, [1166, 1167, 1168, 105, 1169]), (1, [368]), (1, [295]), (1, [368]), (0, [275]), (1, [1053, 1054, 1055, 105, 1056])] 1)
noncomputable def z_h133 : List (Nat × Nat × Nat × Nat × Nat × Nat × Nat) := []
noncomputable def z_m134 : zMi := (RX11, yX11_dust, cX11_dust, 2, some .int, [])
noncomputable def z_c134 : List zI := [(2, 0, 0, 0), (37, 8, 2, 0), (37, 1, 10, 0), (4, 1, 0, 0), (2, 0, 0, 0), (37, 8, 5, 0), (2, 0, 0, 0), (37, 8, 2, 0), (54, 62, 1, 5), (2, 0, 0, 0), (37, 8, 2, 0), (0, 0, 0, 0), (38, 1, 10, 0), (1, 1, 0, 0), (50, 0, 0, 0)]
noncomputable def z_i134 : List zJ := z_dec cX11_dust 0 (z_wx [(1, [368]), (0, [293]), (2, [371]), (1, [368]), (0, [411, 412, 413, 109, 414]), (1, [368]), (1, [293])] 2)
noncomputable def z_h134 : List (Nat × Nat × Nat × Nat × Nat × Nat × Nat) := []
noncomputable def z_m135 : zMi := (RX11, yX11_hours, cX11_hours, 4, some .int, [])
noncomputable def z_c135 : List zI := [(2, 0, 0, 0), (1, 1, 0, 0), (0, 0, 0, 1), (0, 0, 0, 100), (54, 170, 3, 8), (2, 0, 0, 0), (37, 8, 5, 0), (2, 0, 0, 0), (37, 8, 2, 0), (54, 62, 1, 5), (0, 0, 0, 0), (4, 2, 0, 0), (0, 0, 0, 0), (4, 3, 0, 0), (1, 3, 0, 0), (1, 1, 0, 0), (32, 26, 3, 0), (1, 2, 0, 0), (2, 0, 0, 0), (37, 8, 2, 0), (0, 0, 0, 1), (54, 34, 1, 1), (8, 0, 0, 0), (4, 2, 0, 0), (7, 3, 0, 1), (30, 14, 0, 0), (1, 2, 0, 0), (50, 0, 0, 0)]
noncomputable def z_i135 : List zJ := z_dec cX11_hours 0 (z_wx [(4, [1233, 1235, 16, 101, 1236]), (1, [371]), (1, [368]), (0, [411, 412, 413, 109, 414]), (9, [368]), (1, [1238, 1239, 1240, 104, 1241])] 6)
noncomputable def z_h135 : List (Nat × Nat × Nat × Nat × Nat × Nat × Nat) := []
noncomputable def z_m136 : zMi := (RX11, yX11_changes, cX11_changes, 1, some .int, [])
noncomputable def z_c136 : List zI := [(2, 0, 0, 0), (37, 8, 2, 0), (55, 69, 1, 0), (50, 0, 0, 0)]
noncomputable def z_i136 : List zJ := z_dec cX11_changes 0 (z_wx [(1, [368]), (0, [444, 445, 127, 446])] 1)
noncomputable def z_h136 : List (Nat × Nat × Nat × Nat × Nat × Nat × Nat) := []
noncomputable def z_m137 : zMi := (RX11, yX11_met, cX11_met, 3, some .int, [])
noncomputable def z_c137 : List zI := [(2, 0, 0, 0), (1, 1, 0, 0), (54, 167, 1, 8), (2, 0, 0, 0), (1, 2, 0, 0), (54, 167, 1, 8), (2, 0, 0, 0), (1, 1, 0, 0), (1, 2, 0, 0), (54, 171, 2, 8), (2, 0, 0, 0), (37, 8, 2, 0), (1, 1, 0, 0), (1, 2, 0, 0), (55, 70, 3, 0), (50, 0, 0, 0)]
noncomputable def z_i137 : List zJ := z_dec cX11_met 0 (z_wx [(2, [1026, 1028, 9, 101, 1029]), (2, [1026, 1028, 9, 101, 1029]), (3, [1141, 1143, 14, 101, 1144]), (1, [368]), (2, [1283, 550, 127, 551])] 1)
noncomputable def z_h137 : List (Nat × Nat × Nat × Nat × Nat × Nat × Nat) := []
noncomputable def z_m138 : zMi := (RX11, yX11_gaps, cX11_gaps, 1, some .int, [])
noncomputable def z_c138 : List zI := [(2, 0, 0, 0), (37, 8, 2, 0), (55, 71, 1, 0), (50, 0, 0, 0)]
noncomputable def z_i138 : List zJ := z_dec cX11_gaps 0 (z_wx [(1, [368]), (0, [458, 459, 127, 460])] 1)
noncomputable def z_h138 : List (Nat × Nat × Nat × Nat × Nat × Nat × Nat) := []
noncomputable def z_m139 : zMi := (RX11, yX11_deal, cX11_deal, 1, some .int, [])
noncomputable def z_c139 : List zI := [(2, 0, 0, 0), (37, 8, 2, 0), (55, 76, 1, 0), (50, 0, 0, 0)]
noncomputable def z_i139 : List zJ := z_dec cX11_deal 0 (z_wx [(1, [368]), (0, [474, 475, 127, 476])] 1)
noncomputable def z_h139 : List (Nat × Nat × Nat × Nat × Nat × Nat × Nat) := []
noncomputable def z_m140 : zMi := (RX11, yX11_trade, cX11_trade, 1, some .int, [])
noncomputable def z_c140 : List zI := [(2, 0, 0, 0), (37, 8, 2, 0), (55, 77, 1, 0), (50, 0, 0, 0)]
noncomputable def z_i140 : List zJ := z_dec cX11_trade 0 (z_wx [(1, [368]), (0, [492, 493, 127, 494])] 1)
noncomputable def z_h140 : List (Nat × Nat × Nat × Nat × Nat × Nat × Nat) := []
noncomputable def z_m141 : zMi := (RX11, yX11_fewest, cX11_fewest, 1, some .int, [])
noncomputable def z_c141 : List zI := [(2, 0, 0, 0), (37, 8, 2, 0), (55, 80, 1, 0), (50, 0, 0, 0)]
noncomputable def z_i141 : List zJ := z_dec cX11_fewest 0 (z_wx [(1, [368]), (0, [513, 514, 127, 515])] 1)
noncomputable def z_h141 : List (Nat × Nat × Nat × Nat × Nat × Nat × Nat) := []
noncomputable def z_m142 : zMi := (RX11, yX11_worth, cX11_worth, 2, some .int, [])
noncomputable def z_c142 : List zI := [(2, 0, 0, 0), (37, 8, 2, 0), (1, 1, 0, 0), (55, 110, 2, 0), (50, 0, 0, 0)]
noncomputable def z_i142 : List zJ := z_dec cX11_worth 0 (z_wx [(1, [368]), (1, [521, 522, 129, 523])] 1)
noncomputable def z_h142 : List (Nat × Nat × Nat × Nat × Nat × Nat × Nat) := []
noncomputable def z_m143 : zMi := (RX11, yX11_part, cX11_part, 3, some .int, [])
noncomputable def z_c143 : List zI := [(2, 0, 0, 0), (1, 1, 0, 0), (54, 167, 1, 8), (2, 0, 0, 0), (1, 2, 0, 0), (0, 0, 0, 0), (0, 0, 0, 999), (54, 170, 3, 8), (2, 0, 0, 0), (37, 8, 2, 0), (1, 1, 0, 0), (1, 2, 0, 0), (55, 111, 3, 0), (50, 0, 0, 0)]
noncomputable def z_i143 : List zJ := z_dec cX11_part 0 (z_wx [(2, [1026, 1028, 9, 101, 1029]), (4, [1233, 1235, 16, 101, 1236]), (1, [368]), (2, [1291, 1292, 129, 1293])] 1)
noncomputable def z_h143 : List (Nat × Nat × Nat × Nat × Nat × Nat × Nat) := []
noncomputable def z_m144 : zMi := (RX11, yX11_corner, cX11_corner, 2, some .int, [])
noncomputable def z_c144 : List zI := [(2, 0, 0, 0), (1, 1, 0, 0), (54, 167, 1, 8), (2, 0, 0, 0), (37, 8, 2, 0), (1, 1, 0, 0), (55, 81, 2, 0), (50, 0, 0, 0)]
noncomputable def z_i144 : List zJ := z_dec cX11_corner 0 (z_wx [(2, [1026, 1028, 9, 101, 1029]), (1, [368]), (1, [1307, 1308, 127, 1309])] 1)
noncomputable def z_h144 : List (Nat × Nat × Nat × Nat × Nat × Nat × Nat) := []
noncomputable def z_m145 : zMi := (RX11, yX11_bids, cX11_bids, 4, some .int, [])
noncomputable def z_c145 : List zI := [(2, 0, 0, 0), (1, 1, 0, 0), (54, 167, 1, 8), (2, 0, 0, 0), (1, 2, 0, 0), (54, 167, 1, 8), (2, 0, 0, 0), (1, 3, 0, 0), (54, 166, 1, 8), (2, 0, 0, 0), (1, 1, 0, 0), (1, 2, 0, 0), (54, 171, 2, 8), (2, 0, 0, 0), (37, 8, 2, 0), (1, 1, 0, 0), (1, 2, 0, 0), (1, 3, 0, 0), (55, 113, 4, 0), (50, 0, 0, 0)]
noncomputable def z_i145 : List zJ := z_dec cX11_bids 0 (z_wx [(2, [1026, 1028, 9, 101, 1029]), (2, [1026, 1028, 9, 101, 1029]), (2, [998, 1000, 8, 101, 1001]), (3, [1141, 1143, 14, 101, 1144]), (1, [368]), (3, [1324, 1325, 129, 1326])] 1)
noncomputable def z_h145 : List (Nat × Nat × Nat × Nat × Nat × Nat × Nat) := []
noncomputable def z_m146 : zMi := (RX11, yX11_who, cX11_who, 4, some .int, [])
noncomputable def z_c146 : List zI := [(2, 0, 0, 0), (54, 173, 0, 8), (4, 2, 0, 0), (1, 2, 0, 0), (31, 13, 0, 0), (1, 1, 0, 0), (31, 10, 0, 0), (2, 0, 0, 0), (54, 175, 0, 8), (30, 14, 0, 0), (2, 0, 0, 0), (54, 174, 0, 8), (30, 14, 0, 0), (0, 0, 0, -1), (4, 3, 0, 0), (2, 0, 0, 0), (37, 8, 0, 0), (0, 0, 0, 0), (38, 6, 1, 0), (1, 2, 0, 0), (31, 26, 1, 0), (62, 0, 3, 0), (99, 0, 0, 0), (99, 0, 0, 0), (99, 0, 0, 0), (99, 0, 0, 0), (1, 3, 0, 0), (50, 0, 0, 0)]
noncomputable def z_i146 : List zJ := z_dec cX11_who 0 (z_wx [(1, [1341, 1343, 21, 101, 1344]), (6, [1346, 1348, 22, 101, 1349]), (2, [1352, 1354, 23, 101, 1355]), (4, [366]), (1, [146]), (2, [796, 121, 275, 72])] 6)
noncomputable def z_h146 : List (Nat × Nat × Nat × Nat × Nat × Nat × Nat) := []
noncomputable def z_m147 : zMi := (RX11, yX11_common, cX11_common, 1, some .int, [])
noncomputable def z_c147 : List zI := [(2, 0, 0, 0), (37, 8, 2, 0), (37, 1, 1, 0), (54, 21, 0, 0), (50, 0, 0, 0)]
noncomputable def z_i147 : List zJ := z_dec cX11_common 0 (z_wx [(1, [368]), (0, [275]), (0, [533, 534, 535, 105, 536])] 1)
noncomputable def z_h147 : List (Nat × Nat × Nat × Nat × Nat × Nat × Nat) := []
noncomputable def z_m148 : zMi := (RX11, yX11_lovers, cX11_lovers, 1, some .int, [])
noncomputable def z_c148 : List zI := [(2, 0, 0, 0), (37, 8, 2, 0), (55, 72, 1, 0), (50, 0, 0, 0)]
noncomputable def z_i148 : List zJ := z_dec cX11_lovers 0 (z_wx [(1, [368]), (0, [546, 547, 127, 548])] 1)
noncomputable def z_h148 : List (Nat × Nat × Nat × Nat × Nat × Nat × Nat) := []
noncomputable def z_m149 : zMi := (RX11, yX11_lesson, cX11_lesson, 2, some .int, [])
noncomputable def z_c149 : List zI := [(2, 0, 0, 0), (1, 1, 0, 0), (0, 0, 0, 1), (0, 0, 0, 24), (54, 170, 3, 8), (2, 0, 0, 0), (37, 8, 2, 0), (1, 1, 0, 0), (55, 73, 2, 0), (50, 0, 0, 0)]
noncomputable def z_i149 : List zJ := z_dec cX11_lesson 0 (z_wx [(4, [1233, 1235, 16, 101, 1236]), (1, [368]), (1, [1365, 1366, 127, 1367])] 1)
noncomputable def z_h149 : List (Nat × Nat × Nat × Nat × Nat × Nat × Nat) := []
noncomputable def z_m150 : zMi := (RX11, yX11_widows, cX11_widows, 1, some .int, [])
noncomputable def z_c150 : List zI := [(2, 0, 0, 0), (37, 8, 2, 0), (55, 75, 1, 0), (50, 0, 0, 0)]
noncomputable def z_i150 : List zJ := z_dec cX11_widows 0 (z_wx [(1, [368]), (0, [559, 560, 127, 561])] 1)
noncomputable def z_h150 : List (Nat × Nat × Nat × Nat × Nat × Nat × Nat) := []
noncomputable def z_m151 : zMi := (RX11, yX11_ahead, cX11_ahead, 4, some .int, [])
noncomputable def z_c151 : List zI := [(2, 0, 0, 0), (1, 1, 0, 0), (0, 0, 0, 0), (0, 0, 0, 200), (54, 170, 3, 8), (2, 0, 0, 0), (1, 2, 0, 0), (0, 0, 0, 2), (54, 169, 2, 8), (2, 0, 0, 0), (37, 8, 3, 0), (2, 0, 0, 0), (37, 8, 2, 0), (54, 23, 1, 1), (0, 0, 0, 0), (4, 3, 0, 0), (1, 3, 0, 0), (1, 1, 0, 0), (32, 26, 3, 0), (2, 0, 0, 0), (37, 8, 3, 0), (0, 0, 0, 0), (54, 34, 1, 1), (29, 0, 0, 0), (7, 3, 0, 1), (30, 16, 0, 0), (1, 2, 0, 0), (36, 0, 0, 0), (2, 0, 0, 0), (37, 8, 3, 0), (37, 1, 9, 0), (50, 0, 0, 0), (2, 0, 0, 0), (37, 8, 3, 0), (37, 1, 10, 0), (50, 0, 0, 0), (2, 0, 0, 0), (37, 8, 3, 0), (54, 27, 0, 1), (50, 0, 0, 0)]
noncomputable def z_i151 : List zJ := z_dec cX11_ahead 0 (z_wx [(4, [1233, 1235, 16, 101, 1236]), (3, [1032, 1034, 10, 101, 1035]), (1, [369]), (1, [368]), (0, [598, 416, 417, 104, 418]), (6, [369]), (1, [1238, 1239, 1240, 104, 1241]), (6, [369]), (0, [291]), (2, [369]), (0, [293]), (2, [369]), (0, [573, 574, 575, 104, 576])] 1)
noncomputable def z_h151 : List (Nat × Nat × Nat × Nat × Nat × Nat × Nat) := []
noncomputable def z_m152 : zMi := (RX11, yX11_dusty, cX11_dusty, 3, some .int, [])
noncomputable def z_c152 : List zI := [(2, 0, 0, 0), (1, 1, 0, 0), (0, 0, 0, 1), (0, 0, 0, 99), (54, 170, 3, 8), (2, 0, 0, 0), (37, 8, 3, 0), (2, 0, 0, 0), (37, 8, 2, 0), (54, 23, 1, 1), (0, 0, 0, 0), (4, 2, 0, 0), (1, 2, 0, 0), (0, 0, 0, 200), (32, 29, 4, 0), (2, 0, 0, 0), (37, 8, 3, 0), (37, 1, 10, 0), (1, 1, 0, 0), (32, 22, 2, 0), (1, 2, 0, 0), (50, 0, 0, 0), (2, 0, 0, 0), (37, 8, 3, 0), (0, 0, 0, 0), (54, 34, 1, 1), (29, 0, 0, 0), (7, 2, 0, 1), (30, 12, 0, 0), (0, 0, 0, -1), (50, 0, 0, 0)]
noncomputable def z_i152 : List zJ := z_dec cX11_dusty 0 (z_wx [(4, [1233, 1235, 16, 101, 1236]), (1, [369]), (1, [368]), (0, [598, 416, 417, 104, 418]), (6, [369]), (0, [293]), (5, [369]), (1, [1238, 1239, 1240, 104, 1241])] 5)
noncomputable def z_h152 : List (Nat × Nat × Nat × Nat × Nat × Nat × Nat) := []
noncomputable def z_m153 : zMi := (RX11, yX11_warmest, cX11_warmest, 5, some .int, [])
noncomputable def z_c153 : List zI := [(2, 0, 0, 0), (1, 1, 0, 0), (0, 0, 0, 1), (0, 0, 0, 200), (54, 170, 3, 8), (2, 0, 0, 0), (37, 8, 3, 0), (2, 0, 0, 0), (37, 8, 2, 0), (54, 23, 1, 1), (0, 0, 0, 0), (4, 2, 0, 0), (2, 0, 0, 0), (37, 8, 3, 0), (37, 1, 9, 0), (4, 3, 0, 0), (0, 0, 0, 1), (4, 4, 0, 0), (1, 4, 0, 0), (1, 1, 0, 0), (32, 39, 4, 0), (2, 0, 0, 0), (37, 8, 3, 0), (0, 0, 0, 0), (54, 34, 1, 1), (29, 0, 0, 0), (2, 0, 0, 0), (37, 8, 3, 0), (37, 1, 9, 0), (1, 3, 0, 0), (32, 37, 5, 0), (2, 0, 0, 0), (37, 8, 3, 0), (37, 1, 9, 0), (4, 3, 0, 0), (1, 4, 0, 0), (4, 2, 0, 0), (7, 4, 0, 1), (30, 18, 0, 0), (1, 2, 0, 0), (50, 0, 0, 0)]
noncomputable def z_i153 : List zJ := z_dec cX11_warmest 0 (z_wx [(4, [1233, 1235, 16, 101, 1236]), (1, [369]), (1, [368]), (0, [598, 416, 417, 104, 418]), (3, [369]), (0, [291]), (7, [369]), (1, [1238, 1239, 1240, 104, 1241]), (2, [369]), (0, [291]), (3, [369]), (0, [291])] 7)
noncomputable def z_h153 : List (Nat × Nat × Nat × Nat × Nat × Nat × Nat) := []
noncomputable def z_m154 : zMi := (RX11, yX11_ruin, cX11_ruin, 3, some .int, [])
noncomputable def z_c154 : List zI := [(2, 0, 0, 0), (1, 1, 0, 0), (54, 167, 1, 8), (2, 0, 0, 0), (37, 8, 3, 0), (2, 0, 0, 0), (37, 8, 2, 0), (54, 23, 1, 1), (0, 0, 0, 0), (4, 2, 0, 0), (1, 2, 0, 0), (0, 0, 0, 200), (32, 28, 4, 0), (2, 0, 0, 0), (37, 8, 3, 0), (37, 1, 1, 0), (1, 1, 0, 0), (54, 16, 1, 0), (31, 21, 1, 0), (1, 2, 0, 0), (50, 0, 0, 0), (2, 0, 0, 0), (37, 8, 3, 0), (0, 0, 0, 0), (54, 34, 1, 1), (29, 0, 0, 0), (7, 2, 0, 1), (30, 10, 0, 0), (0, 0, 0, -1), (50, 0, 0, 0)]
noncomputable def z_i154 : List zJ := z_dec cX11_ruin 0 (z_wx [(2, [1026, 1028, 9, 101, 1029]), (1, [369]), (1, [368]), (0, [598, 416, 417, 104, 418]), (6, [369]), (0, [275]), (1, [1053, 1054, 1055, 105, 1056]), (4, [369]), (1, [1238, 1239, 1240, 104, 1241])] 5)
noncomputable def z_h154 : List (Nat × Nat × Nat × Nat × Nat × Nat × Nat) := []
noncomputable def z_m155 : zMi := (RX11, yX11_rich, cX11_rich, 1, some .int, [])
noncomputable def z_c155 : List zI := [(2, 0, 0, 0), (37, 8, 2, 0), (55, 116, 1, 0), (50, 0, 0, 0)]
noncomputable def z_i155 : List zJ := z_dec cX11_rich 0 (z_wx [(1, [368]), (0, [566, 567, 129, 568])] 1)
noncomputable def z_h155 : List (Nat × Nat × Nat × Nat × Nat × Nat × Nat) := []
noncomputable def z_m156 : zMi := (RX11, yX11_cramped, cX11_cramped, 1, some .int, [])
noncomputable def z_c156 : List zI := [(2, 0, 0, 0), (37, 8, 2, 0), (37, 1, 2, 0), (2, 0, 0, 0), (37, 8, 2, 0), (54, 27, 0, 1), (54, 109, 1, 7), (50, 0, 0, 0)]
noncomputable def z_i156 : List zJ := z_dec cX11_cramped 0 (z_wx [(1, [368]), (0, [278]), (1, [368]), (0, [573, 574, 575, 104, 576]), (0, [578, 579, 580, 106, 581])] 1)
noncomputable def z_h156 : List (Nat × Nat × Nat × Nat × Nat × Nat × Nat) := []
noncomputable def z_m157 : zMi := (RX11, yX11_trial, cX11_trial, 4, some .int, [])
noncomputable def z_c157 : List zI := [(2, 0, 0, 0), (1, 1, 0, 0), (0, 0, 0, 0), (0, 0, 0, 200), (54, 170, 3, 8), (1, 2, 0, 0), (31, 15, 1, 0), (2, 0, 0, 0), (37, 8, 2, 0), (1, 1, 0, 0), (2, 0, 0, 0), (37, 8, 2, 0), (37, 1, 17, 0), (54, 38, 2, 1), (50, 0, 0, 0), (2, 0, 0, 0), (37, 8, 3, 0), (2, 0, 0, 0), (37, 8, 2, 0), (54, 23, 1, 1), (0, 0, 0, 0), (4, 3, 0, 0), (1, 3, 0, 0), (1, 1, 0, 0), (32, 32, 3, 0), (2, 0, 0, 0), (37, 8, 3, 0), (0, 0, 0, 1), (54, 34, 1, 1), (29, 0, 0, 0), (7, 3, 0, 1), (30, 22, 0, 0), (2, 0, 0, 0), (37, 8, 3, 0), (37, 1, 1, 0), (54, 19, 0, 0), (50, 0, 0, 0)]
noncomputable def z_i157 : List zJ := z_dec cX11_trial 0 (z_wx [(4, [1233, 1235, 16, 101, 1236]), (3, [368]), (2, [368]), (0, [308]), (0, [1406, 1407, 1408, 104, 1409]), (2, [369]), (1, [368]), (0, [598, 416, 417, 104, 418]), (6, [369]), (1, [1238, 1239, 1240, 104, 1241]), (4, [369]), (0, [275]), (0, [1410, 1411, 1412, 105, 1413])] 1)
noncomputable def z_h157 : List (Nat × Nat × Nat × Nat × Nat × Nat × Nat) := []
noncomputable def z_m158 : zMi := (RX11, yX11_span, cX11_span, 6, some .int, [])
noncomputable def z_c158 : List zI := [(2, 0, 0, 0), (1, 1, 0, 0), (0, 0, 0, 0), (0, 0, 0, 200), (54, 170, 3, 8), (2, 0, 0, 0), (37, 8, 2, 0), (1, 1, 0, 0), (0, 0, 0, 1), (54, 38, 2, 1), (4, 3, 0, 0), (0, 0, 0, 2), (4, 4, 0, 0), (1, 4, 0, 0), (0, 0, 0, 6), (32, 34, 4, 0), (2, 0, 0, 0), (37, 8, 2, 0), (1, 1, 0, 0), (1, 4, 0, 0), (54, 38, 2, 1), (4, 5, 0, 0), (1, 2, 0, 0), (31, 28, 0, 0), (1, 3, 0, 0), (1, 5, 0, 0), (68, 0, 0, 0), (30, 31, 0, 0), (1, 3, 0, 0), (1, 5, 0, 0), (67, 0, 0, 0), (4, 3, 0, 0), (7, 4, 0, 1), (30, 13, 0, 0), (1, 3, 0, 0), (50, 0, 0, 0)]
noncomputable def z_i158 : List zJ := z_dec cX11_span 0 (z_wx [(4, [1233, 1235, 16, 101, 1236]), (1, [368]), (2, [1406, 1407, 1408, 104, 1409]), (7, [368]), (2, [1406, 1407, 1408, 104, 1409]), (5, [1421]), (3, [1422])] 5)
noncomputable def z_h158 : List (Nat × Nat × Nat × Nat × Nat × Nat × Nat) := []
noncomputable def z_m159 : zMi := (RX11, yX11_led, cX11_led, 3, some .int, [])
noncomputable def z_c159 : List zI := [(2, 0, 0, 0), (1, 1, 0, 0), (54, 167, 1, 8), (1, 2, 0, 0), (31, 11, 0, 0), (2, 0, 0, 0), (37, 8, 2, 0), (37, 1, 3, 0), (1, 1, 0, 0), (54, 60, 1, 4), (30, 16, 0, 0), (2, 0, 0, 0), (37, 8, 2, 0), (37, 1, 3, 0), (1, 1, 0, 0), (54, 59, 1, 4), (50, 0, 0, 0)]
noncomputable def z_i159 : List zJ := z_dec cX11_led 0 (z_wx [(2, [1026, 1028, 9, 101, 1029]), (3, [368]), (0, [280]), (1, [1430, 1431, 1432, 107, 1433]), (2, [368]), (0, [280]), (1, [1439, 1440, 1441, 107, 1442])] 1)
noncomputable def z_h159 : List (Nat × Nat × Nat × Nat × Nat × Nat × Nat) := []
noncomputable def z_m160 : zMi := (RX11, yX11_log, cX11_log, 3, some .int, [])
noncomputable def z_c160 : List zI := [(2, 0, 0, 0), (1, 2, 0, 0), (0, 0, 0, 4), (54, 169, 2, 8), (2, 0, 0, 0), (37, 8, 2, 0), (37, 1, 3, 0), (1, 1, 0, 0), (1, 2, 0, 0), (54, 58, 2, 4), (50, 0, 0, 0)]
noncomputable def z_i160 : List zJ := z_dec cX11_log 0 (z_wx [(3, [1032, 1034, 10, 101, 1035]), (1, [368]), (0, [280]), (2, [1450, 1435, 1436, 107, 1437])] 1)
noncomputable def z_h160 : List (Nat × Nat × Nat × Nat × Nat × Nat × Nat) := []
noncomputable def z_m161 : zMi := (RX11, yX11_seed, cX11_seed, 3, some .int, [])
noncomputable def z_c161 : List zI := [(2, 0, 0, 0), (37, 8, 2, 0), (37, 1, 17, 0), (4, 2, 0, 0), (2, 0, 0, 0), (37, 8, 2, 0), (1, 1, 0, 0), (38, 1, 17, 0), (1, 2, 0, 0), (50, 0, 0, 0)]
noncomputable def z_i161 : List zJ := z_dec cX11_seed 0 (z_wx [(1, [368]), (0, [308]), (2, [368]), (1, [308])] 2)
noncomputable def z_h161 : List (Nat × Nat × Nat × Nat × Nat × Nat × Nat) := []
noncomputable def z_m162 : zMi := (RX11, yX11_undo, cX11_undo, 1, some .boolean, [])
noncomputable def z_c162 : List zI := [(2, 0, 0, 0), (37, 8, 5, 0), (2, 0, 0, 0), (37, 8, 2, 0), (54, 63, 1, 5), (50, 0, 0, 0)]
noncomputable def z_i162 : List zJ := z_dec cX11_undo 0 (z_wx [(1, [371]), (1, [368]), (0, [590, 591, 592, 109, 593])] 1)
noncomputable def z_h162 : List (Nat × Nat × Nat × Nat × Nat × Nat × Nat) := []
noncomputable def z_m163 : zMi := (RX11, yX11_image, cX11_image, 1, none, [])
noncomputable def z_c163 : List zI := [(2, 0, 0, 0), (37, 8, 4, 0), (2, 0, 0, 0), (37, 8, 2, 0), (54, 23, 1, 1), (2, 0, 0, 0), (0, 0, 0, 1), (38, 8, 6, 1), (53, 0, 0, 0)]
noncomputable def z_i163 : List zJ := z_dec cX11_image 0 (z_wx [(1, [370]), (1, [368]), (0, [598, 416, 417, 104, 418]), (2, [372])] 1)
noncomputable def z_h163 : List (Nat × Nat × Nat × Nat × Nat × Nat × Nat) := []
noncomputable def z_m164 : zMi := (RX11, yX11_back, cX11_back, 1, some .boolean, [])
noncomputable def z_c164 : List zI := [(2, 0, 0, 0), (37, 8, 6, 0), (31, 5, 1, 0), (0, 0, 0, 0), (50, 0, 0, 0), (2, 0, 0, 0), (37, 8, 2, 0), (2, 0, 0, 0), (37, 8, 4, 0), (54, 23, 1, 1), (2, 0, 0, 0), (37, 8, 5, 0), (54, 64, 0, 5), (0, 0, 0, 1), (50, 0, 0, 0)]
noncomputable def z_i164 : List zJ := z_dec cX11_back 0 (z_wx [(1, [372]), (4, [368]), (1, [370]), (0, [598, 416, 417, 104, 418]), (1, [371]), (0, [603, 604, 605, 109, 606])] 2)
noncomputable def z_h164 : List (Nat × Nat × Nat × Nat × Nat × Nat × Nat) := []
noncomputable def z_m165 : zMi := (RX11, yX11_count, cX11_count, 2, some .int, [])
noncomputable def z_c165 : List zI := [(1, 1, 0, 0), (35, 4, 0, 0), (2, 0, 0, 0), (37, 8, 2, 0), (37, 1, 1, 0), (37, 0, 4, 0), (50, 0, 0, 0), (2, 0, 0, 0), (37, 8, 2, 0), (37, 1, 2, 0), (37, 7, 3, 0), (50, 0, 0, 0), (2, 0, 0, 0), (37, 8, 2, 0), (37, 1, 6, 0), (50, 0, 0, 0), (2, 0, 0, 0), (37, 8, 2, 0), (54, 25, 0, 1), (50, 0, 0, 0), (2, 0, 0, 0), (37, 8, 2, 0), (37, 1, 2, 0), (37, 7, 2, 0), (50, 0, 0, 0), (2, 0, 0, 0), (37, 8, 2, 0), (54, 27, 0, 1), (50, 0, 0, 0), (2, 0, 0, 0), (37, 8, 2, 0), (37, 1, 3, 0), (37, 4, 2, 0), (50, 0, 0, 0), (2, 0, 0, 0), (37, 8, 5, 0), (37, 5, 2, 0), (50, 0, 0, 0), (2, 0, 0, 0), (37, 8, 2, 0), (1, 1, 0, 0), (54, 24, 1, 1), (50, 0, 0, 0)]
noncomputable def z_i165 : List zJ := z_dec cX11_count 0 (z_wx [(3, [368]), (0, [275]), (0, [211]), (2, [368]), (0, [278]), (0, [239]), (2, [368]), (0, [285]), (2, [368]), (0, [611, 612, 613, 104, 614]), (2, [368]), (0, [278]), (0, [236]), (2, [368]), (0, [573, 574, 575, 104, 576]), (2, [368]), (0, [280]), (0, [258]), (2, [371]), (0, [358]), (2, [368]), (1, [615, 616, 617, 104, 618])] 1)
noncomputable def z_h165 : List (Nat × Nat × Nat × Nat × Nat × Nat × Nat) := []
noncomputable def z_m166 : zMi := (RX11, yX11_needHour, cX11_needHour, 2, none, [])
noncomputable def z_c166 : List zI := [(1, 1, 0, 0), (31, 5, 2, 0), (1, 1, 0, 0), (0, 0, 0, 24), (32, 10, 2, 0), (62, 2, 4, 0), (99, 0, 0, 0), (99, 0, 0, 0), (99, 0, 0, 0), (99, 0, 0, 0), (53, 0, 0, 0)]
noncomputable def z_i166 : List zJ := z_dec cX11_needHour 0 (z_wx [(5, [1002, 124, 353, 355])] 5)
noncomputable def z_h166 : List (Nat × Nat × Nat × Nat × Nat × Nat × Nat) := []
noncomputable def z_m167 : zMi := (RX11, yX11_needFamily, cX11_needFamily, 2, none, [])
noncomputable def z_c167 : List zI := [(2, 0, 0, 0), (37, 8, 2, 0), (37, 1, 1, 0), (1, 1, 0, 0), (54, 9, 1, 0), (31, 11, 1, 0), (62, 2, 5, 0), (99, 0, 0, 0), (99, 0, 0, 0), (99, 0, 0, 0), (99, 0, 0, 0), (53, 0, 0, 0)]
noncomputable def z_i167 : List zJ := z_dec cX11_needFamily 0 (z_wx [(1, [368]), (0, [275]), (1, [1030, 506, 507, 105, 508]), (1, [1002, 124, 359, 355])] 5)
noncomputable def z_h167 : List (Nat × Nat × Nat × Nat × Nat × Nat × Nat) := []
noncomputable def z_m168 : zMi := (RX11, yX11_needThing, cX11_needThing, 2, none, [])
noncomputable def z_c168 : List zI := [(2, 0, 0, 0), (37, 8, 2, 0), (37, 1, 2, 0), (1, 1, 0, 0), (54, 102, 1, 7), (31, 11, 1, 0), (62, 2, 6, 0), (99, 0, 0, 0), (99, 0, 0, 0), (99, 0, 0, 0), (99, 0, 0, 0), (53, 0, 0, 0)]
noncomputable def z_i168 : List zJ := z_dec cX11_needThing 0 (z_wx [(1, [368]), (0, [278]), (1, [1119, 1120, 1121, 106, 1122]), (1, [1002, 124, 362, 355])] 5)
noncomputable def z_h168 : List (Nat × Nat × Nat × Nat × Nat × Nat × Nat) := []
noncomputable def z_m169 : zMi := (RX11, yX11_needWhat, cX11_needWhat, 3, none, [])
noncomputable def z_c169 : List zI := [(1, 1, 0, 0), (31, 5, 2, 0), (1, 1, 0, 0), (1, 2, 0, 0), (32, 10, 5, 0), (62, 3, 7, 0), (99, 0, 0, 0), (99, 0, 0, 0), (99, 0, 0, 0), (99, 0, 0, 0), (53, 0, 0, 0)]
noncomputable def z_i169 : List zJ := z_dec cX11_needWhat 0 (z_wx [(5, [1036, 125, 366, 368])] 5)
noncomputable def z_h169 : List (Nat × Nat × Nat × Nat × Nat × Nat × Nat) := []
noncomputable def z_m170 : zMi := (RX11, yX11_needBetween, cX11_needBetween, 4, none, [])
noncomputable def z_c170 : List zI := [(1, 1, 0, 0), (1, 2, 0, 0), (32, 6, 2, 0), (1, 1, 0, 0), (1, 3, 0, 0), (32, 11, 5, 0), (62, 0, 8, 0), (99, 0, 0, 0), (99, 0, 0, 0), (99, 0, 0, 0), (99, 0, 0, 0), (53, 0, 0, 0)]
noncomputable def z_i170 : List zJ := z_dec cX11_needBetween 0 (z_wx [(6, [796, 121, 369, 72])] 5)
noncomputable def z_h170 : List (Nat × Nat × Nat × Nat × Nat × Nat × Nat) := []
noncomputable def z_m171 : zMi := (RX11, yX11_needOther, cX11_needOther, 3, none, [])
noncomputable def z_c171 : List zI := [(1, 1, 0, 0), (1, 2, 0, 0), (32, 8, 1, 0), (62, 0, 9, 0), (99, 0, 0, 0), (99, 0, 0, 0), (99, 0, 0, 0), (99, 0, 0, 0), (53, 0, 0, 0)]
noncomputable def z_i171 : List zJ := z_dec cX11_needOther 0 (z_wx [(3, [796, 121, 371, 72])] 5)
noncomputable def z_h171 : List (Nat × Nat × Nat × Nat × Nat × Nat × Nat) := []
noncomputable def z_m172 : zMi := (RX11, yX11_needThat, cX11_needThat, 2, none, [])
noncomputable def z_c172 : List zI := [(1, 1, 0, 0), (31, 7, 1, 0), (62, 4, 10, 0), (99, 0, 0, 0), (99, 0, 0, 0), (99, 0, 0, 0), (99, 0, 0, 0), (53, 0, 0, 0)]
noncomputable def z_i172 : List zJ := z_dec cX11_needThat 0 (z_wx [(2, [1150, 128, 375, 377])] 5)
noncomputable def z_h172 : List (Nat × Nat × Nat × Nat × Nat × Nat × Nat) := []
noncomputable def z_m173 : zMi := (RX11, yX11_tellsRisings, cX11_tellsRisings, 2, some .boolean, [])
noncomputable def z_c173 : List zI := [(0, 0, 0, 0), (4, 1, 0, 0), (1, 1, 0, 0), (2, 0, 0, 0), (37, 8, 0, 0), (37, 6, 1, 0), (32, 17, 3, 0), (2, 0, 0, 0), (37, 8, 0, 0), (1, 1, 0, 0), (54, 86, 1, 6), (0, 0, 0, 9), (32, 15, 5, 0), (0, 0, 0, 0), (50, 0, 0, 0), (7, 1, 0, 1), (30, 2, 0, 0), (2, 0, 0, 0), (37, 8, 0, 0), (37, 6, 1, 0), (0, 0, 0, 20), (32, 24, 4, 0), (0, 0, 0, 1), (30, 25, 0, 0), (0, 0, 0, 0), (50, 0, 0, 0)]
noncomputable def z_i173 : List zJ := z_dec cX11_tellsRisings 0 (z_wx [(4, [366]), (0, [146]), (2, [366]), (1, [1345, 666, 667, 102, 668]), (7, [366]), (0, [146])] 6)
noncomputable def z_h173 : List (Nat × Nat × Nat × Nat × Nat × Nat × Nat) := []
noncomputable def z_m174 : zMi := (RX11, yX11_suspects, cX11_suspects, 3, some .int, [])
noncomputable def z_c174 : List zI := [(2, 0, 0, 0), (37, 8, 2, 0), (37, 1, 1, 0), (54, 11, 0, 0), (4, 1, 0, 0), (0, 0, 0, 0), (4, 2, 0, 0), (1, 2, 0, 0), (2, 0, 0, 0), (37, 8, 0, 0), (37, 6, 1, 0), (32, 25, 3, 0), (1, 1, 0, 0), (2, 0, 0, 0), (37, 8, 2, 0), (37, 1, 1, 0), (2, 0, 0, 0), (37, 8, 0, 0), (1, 2, 0, 0), (54, 86, 1, 6), (54, 20, 1, 0), (16, 0, 0, 0), (4, 1, 0, 0), (7, 2, 0, 1), (30, 7, 0, 0), (1, 1, 0, 0), (50, 0, 0, 0)]
noncomputable def z_i174 : List zJ := z_dec cX11_suspects 0 (z_wx [(1, [368]), (0, [275]), (0, [1356, 463, 464, 105, 465]), (5, [366]), (0, [146]), (3, [368]), (0, [275]), (1, [366]), (1, [1345, 666, 667, 102, 668]), (0, [1350, 538, 539, 105, 540])] 6)
noncomputable def z_h174 : List (Nat × Nat × Nat × Nat × Nat × Nat × Nat) := []
noncomputable def z_m175 : zMi := (RX11, yX11_rowsOfSuspects, cX11_rowsOfSuspects, 4, some .int, [])
noncomputable def z_c175 : List zI := [(25, 0, 0, 1), (6, 1, 0, 0), (0, 0, 0, 0), (4, 3, 0, 0), (1, 3, 0, 0), (2, 0, 0, 0), (37, 8, 0, 0), (37, 6, 1, 0), (32, 24, 3, 0), (3, 1, 0, 0), (2, 0, 0, 0), (37, 8, 2, 0), (37, 1, 1, 0), (2, 0, 0, 0), (37, 8, 0, 0), (1, 3, 0, 0), (54, 86, 1, 6), (54, 20, 1, 0), (55, 311, 1, 0), (19, 0, 0, 0), (23, 0, 0, 0), (6, 1, 0, 0), (7, 3, 0, 1), (30, 4, 0, 0), (3, 1, 0, 0), (25, 0, 0, 9999), (26, 0, 0, 0), (31, 30, 5, 0), (0, 0, 0, 9999), (30, 32, 0, 0), (3, 1, 0, 0), (20, 0, 0, 0), (50, 0, 0, 0)]
noncomputable def z_i175 : List zJ := z_dec cX11_rowsOfSuspects 0 (z_wx [(6, [366]), (0, [146]), (3, [368]), (0, [275]), (1, [366]), (1, [1345, 666, 667, 102, 668]), (0, [1350, 538, 539, 105, 540]), (0, [1057, 482, 126, 483]), (6, [1351])] 7)
noncomputable def z_h175 : List (Nat × Nat × Nat × Nat × Nat × Nat × Nat) := []
noncomputable def z_m176 : zMi := (RX12, yX12_throwsIf, cX12_throwsIf, 3, some .boolean, [])
noncomputable def z_c176 : List zI := [(1, 1, 0, 0), (31, 5, 0, 0), (2, 0, 0, 0), (1, 2, 0, 0), (38, 9, 0, 0), (1, 1, 0, 0), (50, 0, 0, 0)]
noncomputable def z_i176 : List zJ := z_dec cX12_throwsIf 0 (z_wx [(4, [1461])] 2)
noncomputable def z_h176 : List (Nat × Nat × Nat × Nat × Nat × Nat × Nat) := []
noncomputable def z_m177 : zMi := (RX12, yX12_in, cX12_in, 3, some .boolean, [])
noncomputable def z_c177 : List zI := [(1, 0, 0, 0), (1, 1, 0, 0), (32, 8, 2, 0), (1, 0, 0, 0), (1, 2, 0, 0), (32, 8, 4, 0), (0, 0, 0, 1), (30, 9, 0, 0), (0, 0, 0, 0), (50, 0, 0, 0)]
noncomputable def z_i177 : List zJ := z_dec cX12_in 0 (z_wx [] 10)
noncomputable def z_h177 : List (Nat × Nat × Nat × Nat × Nat × Nat × Nat) := []
noncomputable def z_m178 : zMi := (RX12, yX12_has, cX12_has, 2, some .boolean, [])
noncomputable def z_c178 : List zI := [(1, 0, 0, 0), (1, 1, 0, 0), (14, 0, 0, 0), (0, 0, 0, 1), (16, 0, 0, 0), (0, 0, 0, 1), (32, 9, 1, 0), (0, 0, 0, 1), (30, 10, 0, 0), (0, 0, 0, 0), (50, 0, 0, 0)]
noncomputable def z_i178 : List zJ := z_dec cX12_has 0 (z_wx [] 11)
noncomputable def z_h178 : List (Nat × Nat × Nat × Nat × Nat × Nat × Nat) := []
noncomputable def z_m179 : zMi := (RX12, yX12_init, cX12_init, 2, none, [])
noncomputable def z_c179 : List zI := [(2, 0, 0, 0), (57, 0, 0, 0), (2, 0, 0, 0), (0, 0, 0, 2086), (47, 0, 0, 0), (38, 9, 1, 2), (2, 0, 0, 0), (0, 0, 0, 1237), (47, 0, 0, 0), (38, 9, 2, 2), (2, 0, 0, 0), (0, 0, 0, 1237), (47, 0, 0, 0), (38, 9, 3, 2), (2, 0, 0, 0), (0, 0, 0, 388), (47, 0, 0, 0), (38, 9, 4, 2), (2, 0, 0, 0), (0, 0, 0, 4656), (47, 0, 0, 0), (38, 9, 5, 2), (2, 0, 0, 0), (0, 0, 0, 400), (47, 1, 0, 0), (38, 9, 8, 2), (2, 0, 0, 0), (0, 0, 0, -1), (38, 9, 14, 0), (2, 0, 0, 0), (0, 0, 0, 5), (47, 0, 0, 0), (38, 9, 15, 2), (2, 0, 0, 0), (0, 0, 0, 400), (47, 0, 0, 0), (38, 9, 17, 2), (2, 0, 0, 0), (0, 0, 0, 24), (47, 0, 0, 0), (38, 9, 18, 2), (2, 0, 0, 0), (0, 0, 0, 6), (47, 0, 0, 0), (38, 9, 19, 2), (2, 0, 0, 0), (0, 0, 0, 6), (47, 0, 0, 0), (38, 9, 20, 2), (2, 0, 0, 0), (0, 0, 0, 6), (47, 0, 0, 0), (38, 9, 21, 2), (0, 0, 0, 0), (4, 1, 0, 0), (1, 1, 0, 0), (0, 0, 0, 24), (32, 67, 3, 0), (2, 0, 0, 0), (37, 9, 1, 0), (0, 0, 0, 16), (1, 1, 0, 0), (8, 0, 0, 0), (0, 0, 0, -1), (40, 0, 0, 0), (7, 1, 0, 1), (30, 55, 0, 0), (2, 0, 0, 0), (37, 9, 1, 0), (0, 0, 0, 6), (0, 0, 0, 10), (40, 0, 0, 0), (2, 0, 0, 0), (37, 9, 1, 0), (0, 0, 0, 9), (0, 0, 0, -1), (40, 0, 0, 0), (2, 0, 0, 0), (37, 9, 1, 0), (0, 0, 0, 10), (0, 0, 0, 1), (40, 0, 0, 0), (2, 0, 0, 0), (37, 9, 1, 0), (0, 0, 0, 11), (0, 0, 0, 2), (40, 0, 0, 0), (2, 0, 0, 0), (37, 9, 1, 0), (0, 0, 0, 12), (0, 0, 0, 10), (40, 0, 0, 0), (2, 0, 0, 0), (37, 9, 1, 0), (0, 0, 0, 15), (0, 0, 0, 1), (40, 0, 0, 0), (53, 0, 0, 0)]
noncomputable def z_i179 : List zJ := z_dec cX12_init 0 (z_wx [(1, [1460, 136, 137]), (2, [158]), (0, [1462]), (2, [158]), (0, [1463]), (2, [158]), (0, [1464]), (2, [158]), (0, [1465]), (2, [158]), (0, [1466]), (2, [865]), (0, [1469]), (2, [1475]), (2, [158]), (0, [1476]), (2, [158]), (0, [1478]), (2, [158]), (0, [1479]), (2, [158]), (0, [1480]), (2, [158]), (0, [1481]), (2, [158]), (0, [1482]), (6, [1462]), (8, [1462]), (4, [1462]), (4, [1462]), (4, [1462]), (4, [1462]), (4, [1462])] 4)
noncomputable def z_h179 : List (Nat × Nat × Nat × Nat × Nat × Nat × Nat) := []
noncomputable def z_m180 : zMi := (RX12, yX12_image, cX12_image, 2, none, [])
noncomputable def z_c180 : List zI := [(2, 0, 0, 0), (0, 0, 0, 0), (38, 9, 0, 0), (0, 0, 0, 0), (4, 1, 0, 0), (1, 1, 0, 0), (0, 0, 0, 1237), (32, 18, 3, 0), (2, 0, 0, 0), (37, 9, 2, 0), (1, 1, 0, 0), (2, 0, 0, 0), (37, 9, 1, 0), (1, 1, 0, 0), (39, 0, 0, 0), (40, 0, 0, 0), (7, 1, 0, 1), (30, 5, 0, 0), (2, 0, 0, 0), (0, 0, 0, 1), (38, 9, 6, 1), (53, 0, 0, 0)]
noncomputable def z_i180 : List zJ := z_dec cX12_image 0 (z_wx [(2, [1461]), (6, [1463]), (2, [1462]), (7, [1467])] 1)
noncomputable def z_h180 : List (Nat × Nat × Nat × Nat × Nat × Nat × Nat) := []
noncomputable def z_m181 : zMi := (RX12, yX12_back, cX12_back, 2, some .boolean, [])
noncomputable def z_c181 : List zI := [(2, 0, 0, 0), (0, 0, 0, 0), (38, 9, 0, 0), (2, 0, 0, 0), (37, 9, 6, 0), (31, 8, 1, 0), (0, 0, 0, 0), (50, 0, 0, 0), (0, 0, 0, 0), (4, 1, 0, 0), (1, 1, 0, 0), (0, 0, 0, 1237), (32, 23, 3, 0), (2, 0, 0, 0), (37, 9, 1, 0), (1, 1, 0, 0), (2, 0, 0, 0), (37, 9, 2, 0), (1, 1, 0, 0), (39, 0, 0, 0), (40, 0, 0, 0), (7, 1, 0, 1), (30, 10, 0, 0), (2, 0, 0, 0), (0, 0, 0, 0), (38, 9, 7, 0), (0, 0, 0, 1), (50, 0, 0, 0)]
noncomputable def z_i181 : List zJ := z_dec cX12_back 0 (z_wx [(2, [1461]), (1, [1467]), (9, [1462]), (2, [1463]), (7, [1468])] 2)
noncomputable def z_h181 : List (Nat × Nat × Nat × Nat × Nat × Nat × Nat) := []
noncomputable def z_m182 : zMi := (RX12, yX12_remembers, cX12_remembers, 2, none, [])
noncomputable def z_c182 : List zI := [(2, 0, 0, 0), (37, 9, 7, 0), (0, 0, 0, 12), (32, 22, 1, 0), (0, 0, 0, 0), (4, 1, 0, 0), (1, 1, 0, 0), (0, 0, 0, 4268), (32, 21, 3, 0), (2, 0, 0, 0), (37, 9, 5, 0), (1, 1, 0, 0), (2, 0, 0, 0), (37, 9, 5, 0), (1, 1, 0, 0), (0, 0, 0, 388), (8, 0, 0, 0), (39, 0, 0, 0), (40, 0, 0, 0), (7, 1, 0, 1), (30, 6, 0, 0), (30, 28, 0, 0), (2, 0, 0, 0), (27, 0, 0, 0), (37, 9, 7, 0), (0, 0, 0, 1), (8, 0, 0, 0), (38, 9, 7, 0), (0, 0, 0, 0), (4, 1, 0, 0), (1, 1, 0, 0), (0, 0, 0, 388), (32, 50, 3, 0), (2, 0, 0, 0), (37, 9, 5, 0), (0, 0, 0, 388), (2, 0, 0, 0), (37, 9, 7, 0), (0, 0, 0, 1), (9, 0, 0, 0), (10, 0, 0, 0), (1, 1, 0, 0), (8, 0, 0, 0), (2, 0, 0, 0), (37, 9, 1, 0), (1, 1, 0, 0), (39, 0, 0, 0), (40, 0, 0, 0), (7, 1, 0, 1), (30, 30, 0, 0), (53, 0, 0, 0)]
noncomputable def z_i182 : List zJ := z_dec cX12_remembers 0 (z_wx [(1, [1468]), (8, [1466]), (2, [1466]), (10, [1468]), (2, [1468]), (6, [1466]), (2, [1468]), (6, [1462])] 6)
noncomputable def z_h182 : List (Nat × Nat × Nat × Nat × Nat × Nat × Nat) := []
noncomputable def z_m183 : zMi := (RX12, yX12_undo, cX12_undo, 2, some .boolean, [])
noncomputable def z_c183 : List zI := [(2, 0, 0, 0), (0, 0, 0, 0), (38, 9, 0, 0), (2, 0, 0, 0), (37, 9, 7, 0), (31, 8, 1, 0), (0, 0, 0, 0), (50, 0, 0, 0), (2, 0, 0, 0), (27, 0, 0, 0), (37, 9, 7, 0), (0, 0, 0, 1), (9, 0, 0, 0), (38, 9, 7, 0), (0, 0, 0, 0), (4, 1, 0, 0), (1, 1, 0, 0), (0, 0, 0, 388), (32, 34, 3, 0), (2, 0, 0, 0), (37, 9, 1, 0), (1, 1, 0, 0), (2, 0, 0, 0), (37, 9, 5, 0), (0, 0, 0, 388), (2, 0, 0, 0), (37, 9, 7, 0), (10, 0, 0, 0), (1, 1, 0, 0), (8, 0, 0, 0), (39, 0, 0, 0), (40, 0, 0, 0), (7, 1, 0, 1), (30, 16, 0, 0), (0, 0, 0, 1), (50, 0, 0, 0)]
noncomputable def z_i183 : List zJ := z_dec cX12_undo 0 (z_wx [(2, [1461]), (1, [1468]), (5, [1468]), (2, [1468]), (6, [1462]), (2, [1466]), (2, [1468])] 9)
noncomputable def z_h183 : List (Nat × Nat × Nat × Nat × Nat × Nat × Nat) := []
noncomputable def z_m184 : zMi := (RX12, yX12_families, cX12_families, 1, some .int, [])
noncomputable def z_c184 : List zI := [(2, 0, 0, 0), (37, 9, 1, 0), (0, 0, 0, 0), (39, 0, 0, 0), (50, 0, 0, 0)]
noncomputable def z_i184 : List zJ := z_dec cX12_families 0 (z_wx [(1, [1462])] 3)
noncomputable def z_h184 : List (Nat × Nat × Nat × Nat × Nat × Nat × Nat) := []
noncomputable def z_m185 : zMi := (RX12, yX12_things, cX12_things, 1, some .int, [])
noncomputable def z_c185 : List zI := [(2, 0, 0, 0), (37, 9, 1, 0), (0, 0, 0, 1), (39, 0, 0, 0), (50, 0, 0, 0)]
noncomputable def z_i185 : List zJ := z_dec cX12_things 0 (z_wx [(1, [1462])] 3)
noncomputable def z_h185 : List (Nat × Nat × Nat × Nat × Nat × Nat × Nat) := []
noncomputable def z_m186 : zMi := (RX12, yX12_holderOf, cX12_holderOf, 2, some .int, [])
noncomputable def z_c186 : List zI := [(2, 0, 0, 0), (37, 9, 1, 0), (0, 0, 0, 16), (1, 1, 0, 0), (8, 0, 0, 0), (39, 0, 0, 0), (50, 0, 0, 0)]
noncomputable def z_i186 : List zJ := z_dec cX12_holderOf 0 (z_wx [(1, [1462])] 5)
noncomputable def z_h186 : List (Nat × Nat × Nat × Nat × Nat × Nat × Nat) := []
noncomputable def z_m187 : zMi := (RX12, yX12_nextOf, cX12_nextOf, 1, some .int, [])
noncomputable def z_c187 : List zI := [(1, 0, 0, 0), (0, 0, 0, 1), (8, 0, 0, 0), (0, 0, 0, 24), (12, 0, 0, 0), (50, 0, 0, 0)]
noncomputable def z_i187 : List zJ := z_dec cX12_nextOf 0 (z_wx [] 6)
noncomputable def z_h187 : List (Nat × Nat × Nat × Nat × Nat × Nat × Nat) := []
noncomputable def z_m188 : zMi := (RX12, yX12_inNow, cX12_inNow, 1, some .int, [])
noncomputable def z_c188 : List zI := [(2, 0, 0, 0), (2, 0, 0, 0), (37, 9, 1, 0), (0, 0, 0, 4), (39, 0, 0, 0), (54, 186, 1, 9), (50, 0, 0, 0)]
noncomputable def z_i188 : List zJ := z_dec cX12_inNow 0 (z_wx [(2, [1462]), (2, [1637, 1639, 39, 110, 1640])] 1)
noncomputable def z_h188 : List (Nat × Nat × Nat × Nat × Nat × Nat × Nat) := []
noncomputable def z_m189 : zMi := (RX12, yX12_at, cX12_at, 2, some .int, [])
noncomputable def z_c189 : List zI := [(0, 0, 0, 40), (0, 0, 0, 4), (1, 0, 0, 0), (10, 0, 0, 0), (8, 0, 0, 0), (1, 1, 0, 0), (8, 0, 0, 0), (50, 0, 0, 0)]
noncomputable def z_i189 : List zJ := z_dec cX12_at 0 (z_wx [] 8)
noncomputable def z_h189 : List (Nat × Nat × Nat × Nat × Nat × Nat × Nat) := []
noncomputable def z_m190 : zMi := (RX12, yX12_of, cX12_of, 3, some .int, [])
noncomputable def z_c190 : List zI := [(2, 0, 0, 0), (37, 9, 1, 0), (1, 1, 0, 0), (1, 2, 0, 0), (55, 189, 2, 0), (39, 0, 0, 0), (50, 0, 0, 0)]
noncomputable def z_i190 : List zJ := z_dec cX12_of 0 (z_wx [(1, [1462]), (2, [1627, 1628, 110, 1629])] 2)
noncomputable def z_h190 : List (Nat × Nat × Nat × Nat × Nat × Nat × Nat) := []
noncomputable def z_m191 : zMi := (RX12, yX12_wishes, cX12_wishes, 3, some .boolean, [])
noncomputable def z_c191 : List zI := [(2, 0, 0, 0), (1, 1, 0, 0), (0, 0, 0, 3), (54, 190, 2, 9), (1, 2, 0, 0), (55, 178, 2, 0), (50, 0, 0, 0)]
noncomputable def z_i191 : List zJ := z_dec cX12_wishes 0 (z_wx [(3, [1774, 1776, 62, 110, 1777]), (1, [1634, 1635, 110, 1636])] 1)
noncomputable def z_h191 : List (Nat × Nat × Nat × Nat × Nat × Nat × Nat) := []
noncomputable def z_m192 : zMi := (RX12, yX12_thingAt, cX12_thingAt, 2, some .int, [])
noncomputable def z_c192 : List zI := [(0, 0, 0, 64), (0, 0, 0, 3), (1, 0, 0, 0), (10, 0, 0, 0), (8, 0, 0, 0), (1, 1, 0, 0), (8, 0, 0, 0), (50, 0, 0, 0)]
noncomputable def z_i192 : List zJ := z_dec cX12_thingAt 0 (z_wx [] 8)
noncomputable def z_h192 : List (Nat × Nat × Nat × Nat × Nat × Nat × Nat) := []
noncomputable def z_m193 : zMi := (RX12, yX12_ofThing, cX12_ofThing, 3, some .int, [])
noncomputable def z_c193 : List zI := [(2, 0, 0, 0), (37, 9, 1, 0), (1, 1, 0, 0), (1, 2, 0, 0), (55, 192, 2, 0), (39, 0, 0, 0), (50, 0, 0, 0)]
noncomputable def z_i193 : List zJ := z_dec cX12_ofThing 0 (z_wx [(1, [1462]), (2, [1664, 1665, 110, 1666])] 2)
noncomputable def z_h193 : List (Nat × Nat × Nat × Nat × Nat × Nat × Nat) := []
noncomputable def z_m194 : zMi := (RX12, yX12_isLeft, cX12_isLeft, 2, some .boolean, [])
noncomputable def z_c194 : List zI := [(2, 0, 0, 0), (1, 1, 0, 0), (0, 0, 0, 2), (54, 193, 2, 9), (0, 0, 0, 1), (32, 8, 1, 0), (0, 0, 0, 1), (30, 9, 0, 0), (0, 0, 0, 0), (50, 0, 0, 0)]
noncomputable def z_i194 : List zJ := z_dec cX12_isLeft 0 (z_wx [(3, [1810, 1812, 70, 110, 1813])] 6)
noncomputable def z_h194 : List (Nat × Nat × Nat × Nat × Nat × Nat × Nat) := []
noncomputable def z_m195 : zMi := (RX12, yX12_noFamily, cX12_noFamily, 2, some .boolean, [])
noncomputable def z_c195 : List zI := [(1, 1, 0, 0), (0, 0, 0, 0), (2, 0, 0, 0), (54, 184, 0, 9), (0, 0, 0, 1), (9, 0, 0, 0), (55, 177, 3, 0), (31, 10, 1, 0), (0, 0, 0, 1), (30, 11, 0, 0), (0, 0, 0, 0), (50, 0, 0, 0)]
noncomputable def z_i195 : List zJ := z_dec cX12_noFamily 0 (z_wx [(3, [1598, 1600, 33, 110, 1601]), (2, [1742, 1743, 110, 1744])] 5)
noncomputable def z_h195 : List (Nat × Nat × Nat × Nat × Nat × Nat × Nat) := []
noncomputable def z_m196 : zMi := (RX12, yX12_noThing, cX12_noThing, 2, some .boolean, [])
noncomputable def z_c196 : List zI := [(1, 1, 0, 0), (0, 0, 0, 0), (2, 0, 0, 0), (54, 185, 0, 9), (0, 0, 0, 1), (9, 0, 0, 0), (55, 177, 3, 0), (31, 10, 1, 0), (0, 0, 0, 1), (30, 11, 0, 0), (0, 0, 0, 0), (50, 0, 0, 0)]
noncomputable def z_i196 : List zJ := z_dec cX12_noThing 0 (z_wx [(3, [1659, 1661, 44, 110, 1662]), (2, [1742, 1743, 110, 1744])] 5)
noncomputable def z_h196 : List (Nat × Nat × Nat × Nat × Nat × Nat × Nat) := []
noncomputable def z_m197 : zMi := (RX12, yX12_noHour, cX12_noHour, 1, some .boolean, [])
noncomputable def z_c197 : List zI := [(1, 0, 0, 0), (0, 0, 0, 0), (0, 0, 0, 23), (55, 177, 3, 0), (31, 7, 1, 0), (0, 0, 0, 1), (30, 8, 0, 0), (0, 0, 0, 0), (50, 0, 0, 0)]
noncomputable def z_i197 : List zJ := z_dec cX12_noHour 0 (z_wx [(3, [1742, 1743, 110, 1744])] 5)
noncomputable def z_h197 : List (Nat × Nat × Nat × Nat × Nat × Nat × Nat) := []
noncomputable def z_m198 : zMi := (RX12, yX12_drawn, cX12_drawn, 2, some .int, [])
noncomputable def z_c198 : List zI := [(2, 0, 0, 0), (37, 9, 1, 0), (0, 0, 0, 15), (0, 0, 0, 1103515245), (2, 0, 0, 0), (37, 9, 1, 0), (0, 0, 0, 15), (39, 0, 0, 0), (10, 0, 0, 0), (0, 0, 0, 12345), (8, 0, 0, 0), (40, 0, 0, 0), (2, 0, 0, 0), (37, 9, 1, 0), (0, 0, 0, 15), (39, 0, 0, 0), (0, 0, 0, 16), (14, 0, 0, 0), (0, 0, 0, 32767), (16, 0, 0, 0), (1, 1, 0, 0), (12, 0, 0, 0), (50, 0, 0, 0)]
noncomputable def z_i198 : List zJ := z_dec cX12_drawn 0 (z_wx [(1, [1462]), (1, [1910]), (1, [1462]), (7, [1462])] 9)
noncomputable def z_h198 : List (Nat × Nat × Nat × Nat × Nat × Nat × Nat) := []
noncomputable def z_m199 : zMi := (RX12, yX12_feed, cX12_feed, 7, some .int, [])
noncomputable def z_c199 : List zI := [(2, 0, 0, 0), (0, 0, 0, 0), (38, 9, 0, 0), (2, 0, 0, 0), (37, 9, 9, 0), (0, 0, 0, 20), (8, 0, 0, 0), (0, 0, 0, 400), (32, 11, 5, 0), (0, 0, 0, -1), (50, 0, 0, 0), (2, 0, 0, 0), (37, 9, 15, 0), (0, 0, 0, 0), (1, 1, 0, 0), (40, 0, 0, 0), (2, 0, 0, 0), (37, 9, 15, 0), (0, 0, 0, 1), (1, 2, 0, 0), (40, 0, 0, 0), (2, 0, 0, 0), (37, 9, 15, 0), (0, 0, 0, 2), (1, 3, 0, 0), (40, 0, 0, 0), (2, 0, 0, 0), (37, 9, 15, 0), (0, 0, 0, 3), (1, 4, 0, 0), (40, 0, 0, 0), (2, 0, 0, 0), (37, 9, 15, 0), (0, 0, 0, 4), (1, 5, 0, 0), (40, 0, 0, 0), (0, 0, 0, 0), (4, 6, 0, 0), (1, 6, 0, 0), (0, 0, 0, 20), (32, 65, 3, 0), (2, 0, 0, 0), (37, 9, 8, 0), (2, 0, 0, 0), (37, 9, 9, 0), (1, 6, 0, 0), (8, 0, 0, 0), (2, 0, 0, 0), (37, 9, 15, 0), (1, 6, 0, 0), (0, 0, 0, 4), (11, 0, 0, 0), (39, 0, 0, 0), (0, 0, 0, 24), (0, 0, 0, 8), (1, 6, 0, 0), (0, 0, 0, 4), (12, 0, 0, 0), (10, 0, 0, 0), (9, 0, 0, 0), (14, 0, 0, 0), (21, 0, 0, 0), (42, 0, 0, 0), (7, 6, 0, 1), (30, 38, 0, 0), (2, 0, 0, 0), (27, 0, 0, 0), (37, 9, 9, 0), (0, 0, 0, 20), (8, 0, 0, 0), (38, 9, 9, 0), (2, 0, 0, 0), (37, 9, 9, 0), (50, 0, 0, 0)]
noncomputable def z_i199 : List zJ := z_dec cX12_feed 0 (z_wx [(2, [1461]), (1, [1470]), (7, [1476]), (4, [1476]), (4, [1476]), (4, [1476]), (4, [1476]), (9, [1469]), (1, [1470]), (3, [1476]), (18, [1470]), (2, [1470]), (1, [1470])] 1)
noncomputable def z_h199 : List (Nat × Nat × Nat × Nat × Nat × Nat × Nat) := []
noncomputable def z_m200 : zMi := (RX12, yX12_end, cX12_end, 2, some .boolean, [])
noncomputable def z_c200 : List zI := [(2, 0, 0, 0), (0, 0, 0, 0), (38, 9, 0, 0), (1, 1, 0, 0), (31, 9, 2, 0), (1, 1, 0, 0), (2, 0, 0, 0), (37, 9, 9, 0), (32, 11, 5, 0), (0, 0, 0, 0), (50, 0, 0, 0), (2, 0, 0, 0), (1, 1, 0, 0), (38, 9, 9, 0), (0, 0, 0, 1), (50, 0, 0, 0)]
noncomputable def z_i200 : List zJ := z_dec cX12_end 0 (z_wx [(2, [1461]), (4, [1470]), (5, [1470])] 2)
noncomputable def z_h200 : List (Nat × Nat × Nat × Nat × Nat × Nat × Nat) := []
noncomputable def z_m201 : zMi := (RX12, yX12_isAt, cX12_isAt, 3, some .boolean, [])
noncomputable def z_c201 : List zI := [(2, 0, 0, 0), (37, 9, 10, 0), (2, 0, 0, 0), (37, 9, 11, 0), (32, 21, 3, 0), (2, 0, 0, 0), (37, 9, 8, 0), (2, 0, 0, 0), (37, 9, 10, 0), (41, 0, 0, 0), (1, 1, 0, 0), (32, 21, 2, 0), (2, 0, 0, 0), (37, 9, 8, 0), (2, 0, 0, 0), (37, 9, 10, 0), (41, 0, 0, 0), (1, 2, 0, 0), (32, 21, 4, 0), (0, 0, 0, 1), (30, 22, 0, 0), (0, 0, 0, 0), (50, 0, 0, 0)]
noncomputable def z_i201 : List zJ := z_dec cX12_isAt 0 (z_wx [(1, [1471]), (1, [1472]), (2, [1469]), (1, [1471]), (4, [1469]), (1, [1471])] 7)
noncomputable def z_h201 : List (Nat × Nat × Nat × Nat × Nat × Nat × Nat) := []
noncomputable def z_m202 : zMi := (RX12, yX12_blanks, cX12_blanks, 1, none, [])
noncomputable def z_c202 : List zI := [(2, 0, 0, 0), (0, 0, 0, 32), (0, 0, 0, 32), (54, 201, 2, 9), (31, 12, 0, 0), (2, 0, 0, 0), (27, 0, 0, 0), (37, 9, 10, 0), (0, 0, 0, 1), (8, 0, 0, 0), (38, 9, 10, 0), (30, 0, 0, 0), (2, 0, 0, 0), (2, 0, 0, 0), (37, 9, 10, 0), (38, 9, 12, 0), (53, 0, 0, 0)]
noncomputable def z_i202 : List zJ := z_dec cX12_blanks 0 (z_wx [(3, [1571, 1573, 27, 110, 1574]), (3, [1471]), (2, [1471]), (3, [1471]), (0, [1473])] 1)
noncomputable def z_h202 : List (Nat × Nat × Nat × Nat × Nat × Nat × Nat) := []
noncomputable def z_m203 : zMi := (RX12, yX12_letters, cX12_letters, 1, none, [])
noncomputable def z_c203 : List zI := [(2, 0, 0, 0), (54, 202, 0, 9), (2, 0, 0, 0), (0, 0, 0, 97), (0, 0, 0, 122), (54, 201, 2, 9), (31, 14, 0, 0), (2, 0, 0, 0), (27, 0, 0, 0), (37, 9, 10, 0), (0, 0, 0, 1), (8, 0, 0, 0), (38, 9, 10, 0), (30, 2, 0, 0), (53, 0, 0, 0)]
noncomputable def z_i203 : List zJ := z_dec cX12_letters 0 (z_wx [(1, [1567, 1569, 26, 110, 1570]), (3, [1571, 1573, 27, 110, 1574]), (3, [1471]), (2, [1471])] 2)
noncomputable def z_h203 : List (Nat × Nat × Nat × Nat × Nat × Nat × Nat) := []
noncomputable def z_m204 : zMi := (RX12, yX12_isWord, cX12_isWord, 4, some .boolean, [])
noncomputable def z_c204 : List zI := [(2, 0, 0, 0), (37, 9, 10, 0), (2, 0, 0, 0), (37, 9, 12, 0), (9, 0, 0, 0), (2, 1, 0, 0), (59, 0, 0, 0), (32, 10, 1, 0), (0, 0, 0, 1), (30, 11, 0, 0), (0, 0, 0, 0), (4, 2, 0, 0), (0, 0, 0, 0), (4, 3, 0, 0), (1, 2, 0, 0), (31, 37, 0, 0), (1, 3, 0, 0), (2, 1, 0, 0), (59, 0, 0, 0), (32, 37, 3, 0), (2, 0, 0, 0), (37, 9, 8, 0), (2, 0, 0, 0), (37, 9, 12, 0), (1, 3, 0, 0), (8, 0, 0, 0), (41, 0, 0, 0), (2, 1, 0, 0), (1, 3, 0, 0), (60, 0, 0, 0), (32, 33, 1, 0), (0, 0, 0, 1), (30, 34, 0, 0), (0, 0, 0, 0), (4, 2, 0, 0), (7, 3, 0, 1), (30, 14, 0, 0), (1, 2, 0, 0), (50, 0, 0, 0)]
noncomputable def z_i204 : List zJ := z_dec cX12_isWord 0 (z_wx [(1, [1471]), (1, [1473]), (2, [1592]), (11, [1592]), (2, [1469]), (1, [1473]), (5, [1593])] 9)
noncomputable def z_h204 : List (Nat × Nat × Nat × Nat × Nat × Nat × Nat) := []
noncomputable def z_m205 : zMi := (RX12, yX12_passes, cX12_passes, 2, some .boolean, [])
noncomputable def z_c205 : List zI := [(2, 0, 0, 0), (54, 203, 0, 9), (2, 0, 0, 0), (2, 1, 0, 0), (54, 204, 1, 9), (31, 8, 0, 0), (0, 0, 0, 1), (50, 0, 0, 0), (2, 0, 0, 0), (2, 0, 0, 0), (37, 9, 12, 0), (38, 9, 10, 0), (0, 0, 0, 0), (50, 0, 0, 0)]
noncomputable def z_i205 : List zJ := z_dec cX12_passes 0 (z_wx [(1, [1579, 1581, 29, 110, 1582]), (2, [1588, 1590, 31, 110, 1591]), (5, [1473]), (0, [1471])] 2)
noncomputable def z_h205 : List (Nat × Nat × Nat × Nat × Nat × Nat × Nat) := []
noncomputable def z_m206 : zMi := (RX12, yX12_sign, cX12_sign, 2, some .boolean, [])
noncomputable def z_c206 : List zI := [(2, 0, 0, 0), (54, 202, 0, 9), (2, 0, 0, 0), (1, 1, 0, 0), (1, 1, 0, 0), (54, 201, 2, 9), (31, 9, 1, 0), (0, 0, 0, 0), (50, 0, 0, 0), (2, 0, 0, 0), (27, 0, 0, 0), (37, 9, 10, 0), (0, 0, 0, 1), (8, 0, 0, 0), (38, 9, 10, 0), (0, 0, 0, 1), (50, 0, 0, 0)]
noncomputable def z_i206 : List zJ := z_dec cX12_sign 0 (z_wx [(1, [1567, 1569, 26, 110, 1570]), (3, [1571, 1573, 27, 110, 1574]), (5, [1471]), (2, [1471])] 2)
noncomputable def z_h206 : List (Nat × Nat × Nat × Nat × Nat × Nat × Nat) := []
noncomputable def z_m207 : zMi := (RX12, yX12_number, cX12_number, 4, some .int, [])
noncomputable def z_c207 : List zI := [(2, 0, 0, 0), (54, 202, 0, 9), (0, 0, 0, 0), (4, 3, 0, 0), (2, 0, 0, 0), (0, 0, 0, 48), (0, 0, 0, 57), (54, 201, 2, 9), (31, 37, 0, 0), (2, 0, 0, 0), (37, 9, 10, 0), (2, 0, 0, 0), (37, 9, 12, 0), (9, 0, 0, 0), (0, 0, 0, 3), (32, 28, 3, 0), (0, 0, 0, 10), (1, 3, 0, 0), (10, 0, 0, 0), (2, 0, 0, 0), (37, 9, 8, 0), (2, 0, 0, 0), (37, 9, 10, 0), (41, 0, 0, 0), (8, 0, 0, 0), (0, 0, 0, 48), (9, 0, 0, 0), (30, 29, 0, 0), (1, 3, 0, 0), (4, 3, 0, 0), (2, 0, 0, 0), (27, 0, 0, 0), (37, 9, 10, 0), (0, 0, 0, 1), (8, 0, 0, 0), (38, 9, 10, 0), (30, 4, 0, 0), (2, 0, 0, 0), (37, 9, 10, 0), (2, 0, 0, 0), (37, 9, 12, 0), (32, 55, 0, 0), (2, 0, 0, 0), (37, 9, 10, 0), (2, 0, 0, 0), (37, 9, 12, 0), (9, 0, 0, 0), (0, 0, 0, 3), (32, 55, 4, 0), (1, 3, 0, 0), (1, 1, 0, 0), (32, 55, 2, 0), (1, 3, 0, 0), (1, 2, 0, 0), (32, 57, 5, 0), (0, 0, 0, -1), (30, 58, 0, 0), (1, 3, 0, 0), (50, 0, 0, 0)]
noncomputable def z_i207 : List zJ := z_dec cX12_number 0 (z_wx [(1, [1567, 1569, 26, 110, 1570]), (5, [1571, 1573, 27, 110, 1574]), (2, [1471]), (1, [1473]), (7, [1469]), (1, [1471]), (9, [1471]), (2, [1471]), (2, [1471]), (1, [1473]), (2, [1471]), (1, [1473])] 13)
noncomputable def z_h207 : List (Nat × Nat × Nat × Nat × Nat × Nat × Nat) := []
noncomputable def z_m208 : zMi := (RX12, yX12_after, cX12_after, 4, some .int, [])
noncomputable def z_c208 : List zI := [(2, 0, 0, 0), (54, 203, 0, 9), (2, 0, 0, 0), (2, 1, 0, 0), (54, 204, 1, 9), (31, 11, 0, 0), (2, 0, 0, 0), (1, 2, 0, 0), (1, 3, 0, 0), (54, 207, 2, 9), (30, 12, 0, 0), (0, 0, 0, -1), (50, 0, 0, 0)]
noncomputable def z_i208 : List zJ := z_dec cX12_after 0 (z_wx [(1, [1579, 1581, 29, 110, 1582]), (2, [1588, 1590, 31, 110, 1591]), (4, [1607, 1609, 35, 110, 1610])] 3)
noncomputable def z_h208 : List (Nat × Nat × Nat × Nat × Nat × Nat × Nat) := []
noncomputable def z_m209 : zMi := (RX12, yX12_fault, cX12_fault, 1, some .int, [])
noncomputable def z_c209 : List zI := [(2, 0, 0, 0), (0, 0, 0, 0), (38, 9, 0, 0), (2, 0, 0, 0), (37, 9, 14, 0), (50, 0, 0, 0)]
noncomputable def z_i209 : List zJ := z_dec cX12_fault 0 (z_wx [(2, [1461]), (1, [1475])] 1)
noncomputable def z_h209 : List (Nat × Nat × Nat × Nat × Nat × Nat × Nat) := []
noncomputable def z_m210 : zMi := (RX12, yX12_uses, cX12_uses, 1, none, [])
noncomputable def z_c210 : List zI := [(2, 0, 0, 0), (0, 0, 0, 0), (38, 9, 0, 0), (2, 0, 0, 0), (2, 0, 0, 0), (37, 9, 9, 0), (38, 9, 11, 0), (2, 0, 0, 0), (0, 0, 0, 0), (38, 9, 9, 0), (2, 0, 0, 0), (0, 0, 0, 0), (38, 9, 10, 0), (53, 0, 0, 0)]
noncomputable def z_i210 : List zJ := z_dec cX12_uses 0 (z_wx [(2, [1461]), (2, [1470]), (0, [1472]), (2, [1470]), (2, [1471])] 1)
noncomputable def z_h210 : List (Nat × Nat × Nat × Nat × Nat × Nat × Nat) := []
noncomputable def z_m211 : zMi := (RX12, yX12_readNumber, cX12_readNumber, 5, some .boolean, [])
noncomputable def z_c211 : List zI := [(2, 0, 0, 0), (1, 2, 0, 0), (1, 3, 0, 0), (54, 207, 2, 9), (4, 4, 0, 0), (2, 0, 0, 0), (37, 9, 1, 0), (1, 1, 0, 0), (1, 4, 0, 0), (31, 15, 3, 0), (2, 0, 0, 0), (37, 9, 1, 0), (1, 1, 0, 0), (39, 0, 0, 0), (30, 16, 0, 0), (1, 4, 0, 0), (40, 0, 0, 0), (1, 4, 0, 0), (31, 21, 2, 0), (0, 0, 0, 1), (30, 22, 0, 0), (0, 0, 0, 0), (50, 0, 0, 0)]
noncomputable def z_i211 : List zJ := z_dec cX12_readNumber 0 (z_wx [(3, [1607, 1609, 35, 110, 1610]), (2, [1462]), (4, [1462])] 11)
noncomputable def z_h211 : List (Nat × Nat × Nat × Nat × Nat × Nat × Nat) := []
noncomputable def z_m212 : zMi := (RX12, yX12_hoursTold, cX12_hoursTold, 5, some .int, [])
noncomputable def z_c212 : List zI := [(2, 0, 0, 0), (0, 0, 0, 0), (0, 0, 0, 23), (54, 207, 2, 9), (4, 1, 0, 0), (1, 1, 0, 0), (31, 9, 3, 0), (0, 0, 0, -1), (30, 14, 0, 0), (2, 0, 0, 0), (58, 42, 0, 0), (0, 0, 0, 0), (0, 0, 0, 23), (54, 208, 3, 9), (4, 2, 0, 0), (1, 2, 0, 0), (31, 19, 3, 0), (0, 0, 0, -1), (50, 0, 0, 0), (0, 0, 0, 1), (1, 2, 0, 0), (13, 0, 0, 0), (4, 3, 0, 0), (1, 1, 0, 0), (4, 4, 0, 0), (1, 4, 0, 0), (1, 2, 0, 0), (32, 38, 0, 0), (1, 3, 0, 0), (0, 0, 0, 1), (1, 4, 0, 0), (13, 0, 0, 0), (17, 0, 0, 0), (4, 3, 0, 0), (1, 4, 0, 0), (55, 187, 1, 0), (4, 4, 0, 0), (30, 25, 0, 0), (1, 3, 0, 0), (50, 0, 0, 0)]
noncomputable def z_i212 : List zJ := z_dec cX12_hoursTold 0 (z_wx [(3, [1607, 1609, 35, 110, 1610]), (9, [1603, 1605, 34, 110, 1606]), (21, [1623, 1624, 110, 1625])] 4)
noncomputable def z_h212 : List (Nat × Nat × Nat × Nat × Nat × Nat × Nat) := []
noncomputable def z_m213 : zMi := (RX12, yX12_gives, cX12_gives, 4, none, [])
noncomputable def z_c213 : List zI := [(0, 0, 0, 0), (4, 3, 0, 0), (1, 3, 0, 0), (0, 0, 0, 24), (32, 22, 3, 0), (2, 0, 0, 0), (37, 9, 1, 0), (0, 0, 0, 16), (1, 3, 0, 0), (8, 0, 0, 0), (1, 1, 0, 0), (1, 3, 0, 0), (55, 178, 2, 0), (31, 16, 0, 0), (1, 2, 0, 0), (30, 19, 0, 0), (2, 0, 0, 0), (1, 3, 0, 0), (54, 186, 1, 9), (40, 0, 0, 0), (7, 3, 0, 1), (30, 2, 0, 0), (53, 0, 0, 0)]
noncomputable def z_i213 : List zJ := z_dec cX12_gives 0 (z_wx [(6, [1462]), (5, [1634, 1635, 110, 1636]), (5, [1637, 1639, 39, 110, 1640])] 4)
noncomputable def z_h213 : List (Nat × Nat × Nat × Nat × Nat × Nat × Nat) := []
noncomputable def z_m214 : zMi := (RX12, yX12_readFamily, cX12_readFamily, 7, some .boolean, [])
noncomputable def z_c214 : List zI := [(2, 0, 0, 0), (54, 184, 0, 9), (4, 1, 0, 0), (1, 1, 0, 0), (0, 0, 0, 6), (32, 8, 1, 0), (0, 0, 0, 0), (50, 0, 0, 0), (2, 0, 0, 0), (58, 43, 0, 0), (0, 0, 0, 0), (0, 0, 0, 999), (54, 208, 3, 9), (4, 2, 0, 0), (1, 2, 0, 0), (31, 18, 3, 0), (0, 0, 0, -1), (30, 23, 0, 0), (2, 0, 0, 0), (58, 44, 0, 0), (0, 0, 0, 0), (0, 0, 0, 9), (54, 208, 3, 9), (4, 3, 0, 0), (1, 3, 0, 0), (31, 28, 3, 0), (0, 0, 0, -1), (30, 33, 0, 0), (2, 0, 0, 0), (58, 45, 0, 0), (0, 0, 0, 0), (0, 0, 0, 9), (54, 208, 3, 9), (4, 4, 0, 0), (1, 4, 0, 0), (31, 38, 3, 0), (0, 0, 0, 0), (50, 0, 0, 0), (2, 0, 0, 0), (58, 46, 0, 0), (54, 205, 1, 9), (31, 45, 0, 0), (2, 0, 0, 0), (54, 212, 0, 9), (30, 46, 0, 0), (0, 0, 0, 0), (4, 5, 0, 0), (1, 5, 0, 0), (31, 51, 3, 0), (0, 0, 0, 0), (50, 0, 0, 0), (2, 0, 0, 0), (58, 47, 0, 0), (54, 205, 1, 9), (31, 58, 0, 0), (2, 0, 0, 0), (54, 212, 0, 9), (30, 59, 0, 0), (0, 0, 0, 0), (4, 6, 0, 0), (1, 6, 0, 0), (31, 64, 3, 0), (0, 0, 0, 0), (50, 0, 0, 0), (2, 0, 0, 0), (37, 9, 1, 0), (1, 1, 0, 0), (0, 0, 0, 0), (55, 189, 2, 0), (1, 2, 0, 0), (40, 0, 0, 0), (2, 0, 0, 0), (37, 9, 1, 0), (1, 1, 0, 0), (0, 0, 0, 1), (55, 189, 2, 0), (1, 3, 0, 0), (40, 0, 0, 0), (2, 0, 0, 0), (37, 9, 1, 0), (1, 1, 0, 0), (0, 0, 0, 2), (55, 189, 2, 0), (1, 4, 0, 0), (40, 0, 0, 0), (2, 0, 0, 0), (37, 9, 1, 0), (1, 1, 0, 0), (0, 0, 0, 3), (55, 189, 2, 0), (1, 6, 0, 0), (40, 0, 0, 0), (2, 0, 0, 0), (1, 5, 0, 0), (1, 1, 0, 0), (54, 213, 2, 9), (2, 0, 0, 0), (37, 9, 1, 0), (0, 0, 0, 0), (28, 0, 0, 0), (39, 0, 0, 0), (0, 0, 0, 1), (8, 0, 0, 0), (40, 0, 0, 0), (0, 0, 0, 1), (50, 0, 0, 0)]
noncomputable def z_i214 : List zJ := z_dec cX12_readFamily 0 (z_wx [(1, [1598, 1600, 33, 110, 1601]), (10, [1603, 1605, 34, 110, 1606]), (9, [1603, 1605, 34, 110, 1606]), (9, [1603, 1605, 34, 110, 1606]), (7, [1614, 1616, 36, 110, 1617]), (2, [1618, 1620, 37, 110, 1621]), (9, [1614, 1616, 36, 110, 1617]), (2, [1618, 1620, 37, 110, 1621]), (8, [1462]), (2, [1627, 1628, 110, 1629]), (3, [1462]), (2, [1627, 1628, 110, 1629]), (3, [1462]), (2, [1627, 1628, 110, 1629]), (3, [1462]), (2, [1627, 1628, 110, 1629]), (5, [1630, 1632, 38, 110, 1633]), (1, [1462])] 8)
noncomputable def z_h214 : List (Nat × Nat × Nat × Nat × Nat × Nat × Nat) := []
noncomputable def z_m215 : zMi := (RX12, yX12_familyTold, cX12_familyTold, 1, some .int, [])
noncomputable def z_c215 : List zI := [(2, 0, 0, 0), (0, 0, 0, 0), (2, 0, 0, 0), (54, 184, 0, 9), (0, 0, 0, 1), (9, 0, 0, 0), (54, 207, 2, 9), (50, 0, 0, 0)]
noncomputable def z_i215 : List zJ := z_dec cX12_familyTold 0 (z_wx [(3, [1598, 1600, 33, 110, 1601]), (2, [1607, 1609, 35, 110, 1610])] 1)
noncomputable def z_h215 : List (Nat × Nat × Nat × Nat × Nat × Nat × Nat) := []
noncomputable def z_m216 : zMi := (RX12, yX12_readHours, cX12_readHours, 3, some .boolean, [])
noncomputable def z_c216 : List zI := [(2, 0, 0, 0), (54, 215, 0, 9), (4, 1, 0, 0), (1, 1, 0, 0), (31, 7, 3, 0), (0, 0, 0, -1), (30, 9, 0, 0), (2, 0, 0, 0), (54, 212, 0, 9), (4, 2, 0, 0), (1, 2, 0, 0), (31, 16, 2, 0), (2, 0, 0, 0), (1, 2, 0, 0), (1, 1, 0, 0), (54, 213, 2, 9), (1, 2, 0, 0), (31, 20, 2, 0), (0, 0, 0, 1), (30, 21, 0, 0), (0, 0, 0, 0), (50, 0, 0, 0)]
noncomputable def z_i216 : List zJ := z_dec cX12_readHours 0 (z_wx [(1, [1645, 1647, 41, 110, 1648]), (6, [1618, 1620, 37, 110, 1621]), (6, [1630, 1632, 38, 110, 1633])] 6)
noncomputable def z_h216 : List (Nat × Nat × Nat × Nat × Nat × Nat × Nat) := []
noncomputable def z_m217 : zMi := (RX12, yX12_readFree, cX12_readFree, 2, some .boolean, [])
noncomputable def z_c217 : List zI := [(2, 0, 0, 0), (54, 212, 0, 9), (4, 1, 0, 0), (1, 1, 0, 0), (31, 9, 2, 0), (2, 0, 0, 0), (1, 1, 0, 0), (0, 0, 0, -1), (54, 213, 2, 9), (1, 1, 0, 0), (31, 13, 2, 0), (0, 0, 0, 1), (30, 14, 0, 0), (0, 0, 0, 0), (50, 0, 0, 0)]
noncomputable def z_i217 : List zJ := z_dec cX12_readFree 0 (z_wx [(1, [1618, 1620, 37, 110, 1621]), (6, [1630, 1632, 38, 110, 1633])] 6)
noncomputable def z_h217 : List (Nat × Nat × Nat × Nat × Nat × Nat × Nat) := []
noncomputable def z_m218 : zMi := (RX12, yX12_readWishes, cX12_readWishes, 3, some .boolean, [])
noncomputable def z_c218 : List zI := [(2, 0, 0, 0), (54, 215, 0, 9), (4, 1, 0, 0), (1, 1, 0, 0), (31, 7, 3, 0), (0, 0, 0, -1), (30, 9, 0, 0), (2, 0, 0, 0), (54, 212, 0, 9), (4, 2, 0, 0), (1, 2, 0, 0), (31, 22, 2, 0), (2, 0, 0, 0), (37, 9, 1, 0), (1, 1, 0, 0), (0, 0, 0, 3), (55, 189, 2, 0), (28, 0, 0, 0), (39, 0, 0, 0), (1, 2, 0, 0), (17, 0, 0, 0), (40, 0, 0, 0), (1, 2, 0, 0), (31, 26, 2, 0), (0, 0, 0, 1), (30, 27, 0, 0), (0, 0, 0, 0), (50, 0, 0, 0)]
noncomputable def z_i218 : List zJ := z_dec cX12_readWishes 0 (z_wx [(1, [1645, 1647, 41, 110, 1648]), (6, [1618, 1620, 37, 110, 1621]), (4, [1462]), (2, [1627, 1628, 110, 1629])] 11)
noncomputable def z_h218 : List (Nat × Nat × Nat × Nat × Nat × Nat × Nat) := []
noncomputable def z_m219 : zMi := (RX12, yX12_readThing, cX12_readThing, 4, some .boolean, [])
noncomputable def z_c219 : List zI := [(2, 0, 0, 0), (54, 185, 0, 9), (4, 1, 0, 0), (1, 1, 0, 0), (0, 0, 0, 8), (32, 8, 1, 0), (0, 0, 0, 0), (50, 0, 0, 0), (2, 0, 0, 0), (54, 215, 0, 9), (4, 2, 0, 0), (1, 2, 0, 0), (31, 15, 3, 0), (0, 0, 0, -1), (30, 20, 0, 0), (2, 0, 0, 0), (58, 48, 0, 0), (0, 0, 0, 1), (0, 0, 0, 9), (54, 208, 3, 9), (4, 3, 0, 0), (1, 3, 0, 0), (31, 25, 3, 0), (0, 0, 0, 0), (50, 0, 0, 0), (2, 0, 0, 0), (37, 9, 1, 0), (1, 1, 0, 0), (0, 0, 0, 0), (55, 192, 2, 0), (1, 2, 0, 0), (40, 0, 0, 0), (2, 0, 0, 0), (37, 9, 1, 0), (1, 1, 0, 0), (0, 0, 0, 1), (55, 192, 2, 0), (1, 3, 0, 0), (40, 0, 0, 0), (2, 0, 0, 0), (37, 9, 1, 0), (1, 1, 0, 0), (0, 0, 0, 2), (55, 192, 2, 0), (2, 0, 0, 0), (58, 49, 0, 0), (54, 205, 1, 9), (31, 50, 0, 0), (0, 0, 0, 1), (30, 51, 0, 0), (0, 0, 0, 0), (40, 0, 0, 0), (2, 0, 0, 0), (37, 9, 1, 0), (0, 0, 0, 1), (28, 0, 0, 0), (39, 0, 0, 0), (0, 0, 0, 1), (8, 0, 0, 0), (40, 0, 0, 0), (0, 0, 0, 1), (50, 0, 0, 0)]
noncomputable def z_i219 : List zJ := z_dec cX12_readThing 0 (z_wx [(1, [1659, 1661, 44, 110, 1662]), (7, [1645, 1647, 41, 110, 1648]), (9, [1603, 1605, 34, 110, 1606]), (6, [1462]), (2, [1664, 1665, 110, 1666]), (3, [1462]), (2, [1664, 1665, 110, 1666]), (3, [1462]), (2, [1664, 1665, 110, 1666]), (2, [1614, 1616, 36, 110, 1617]), (6, [1462])] 8)
noncomputable def z_h219 : List (Nat × Nat × Nat × Nat × Nat × Nat × Nat) := []
noncomputable def z_m220 : zMi := (RX12, yX12_readDeedLine, cX12_readDeedLine, 1, some .boolean, [])
noncomputable def z_c220 : List zI := [(2, 0, 0, 0), (58, 50, 0, 0), (54, 204, 1, 9), (31, 7, 0, 0), (2, 0, 0, 0), (54, 214, 0, 9), (50, 0, 0, 0), (2, 0, 0, 0), (58, 46, 0, 0), (54, 204, 1, 9), (31, 14, 0, 0), (2, 0, 0, 0), (54, 216, 0, 9), (50, 0, 0, 0), (2, 0, 0, 0), (58, 51, 0, 0), (54, 204, 1, 9), (31, 21, 0, 0), (2, 0, 0, 0), (54, 217, 0, 9), (50, 0, 0, 0), (2, 0, 0, 0), (58, 52, 0, 0), (54, 204, 1, 9), (31, 28, 0, 0), (2, 0, 0, 0), (54, 219, 0, 9), (50, 0, 0, 0), (2, 0, 0, 0), (58, 47, 0, 0), (54, 204, 1, 9), (31, 35, 0, 0), (2, 0, 0, 0), (54, 218, 0, 9), (50, 0, 0, 0), (2, 0, 0, 0), (58, 53, 0, 0), (54, 204, 1, 9), (31, 45, 0, 0), (2, 0, 0, 0), (0, 0, 0, 10), (0, 0, 0, 0), (0, 0, 0, 9), (54, 211, 3, 9), (50, 0, 0, 0), (2, 0, 0, 0), (58, 54, 0, 0), (54, 204, 1, 9), (31, 55, 0, 0), (2, 0, 0, 0), (0, 0, 0, 11), (0, 0, 0, 0), (0, 0, 0, 20), (54, 211, 3, 9), (50, 0, 0, 0), (2, 0, 0, 0), (58, 55, 0, 0), (54, 204, 1, 9), (31, 65, 0, 0), (2, 0, 0, 0), (0, 0, 0, 12), (0, 0, 0, 0), (0, 0, 0, 99), (54, 211, 3, 9), (50, 0, 0, 0), (2, 0, 0, 0), (58, 56, 0, 0), (54, 204, 1, 9), (31, 75, 0, 0), (2, 0, 0, 0), (0, 0, 0, 13), (0, 0, 0, 0), (0, 0, 0, 100), (54, 211, 3, 9), (50, 0, 0, 0), (2, 0, 0, 0), (58, 57, 0, 0), (54, 204, 1, 9), (31, 87, 0, 0), (2, 0, 0, 0), (0, 0, 0, 4), (0, 0, 0, 0), (0, 0, 0, 23), (54, 211, 3, 9), (31, 87, 0, 0), (0, 0, 0, 1), (30, 88, 0, 0), (0, 0, 0, 0), (50, 0, 0, 0)]
noncomputable def z_i220 : List zJ := z_dec cX12_readDeedLine 0 (z_wx [(2, [1588, 1590, 31, 110, 1591]), (2, [1594, 1596, 32, 110, 1597]), (3, [1588, 1590, 31, 110, 1591]), (2, [1641, 1643, 40, 110, 1644]), (3, [1588, 1590, 31, 110, 1591]), (2, [1650, 1652, 42, 110, 1653]), (3, [1588, 1590, 31, 110, 1591]), (2, [1655, 1657, 43, 110, 1658]), (3, [1588, 1590, 31, 110, 1591]), (2, [1668, 1670, 45, 110, 1671]), (3, [1588, 1590, 31, 110, 1591]), (5, [1673, 1675, 46, 110, 1676]), (3, [1588, 1590, 31, 110, 1591]), (5, [1673, 1675, 46, 110, 1676]), (3, [1588, 1590, 31, 110, 1591]), (5, [1673, 1675, 46, 110, 1676]), (3, [1588, 1590, 31, 110, 1591]), (5, [1673, 1675, 46, 110, 1676]), (3, [1588, 1590, 31, 110, 1591]), (5, [1673, 1675, 46, 110, 1676])] 5)
noncomputable def z_h220 : List (Nat × Nat × Nat × Nat × Nat × Nat × Nat) := []
noncomputable def z_m221 : zMi := (RX12, yX12_emits, cX12_emits, 3, none, [])
noncomputable def z_c221 : List zI := [(2, 0, 0, 0), (37, 9, 1, 0), (0, 0, 0, 1286), (0, 0, 0, 2), (2, 0, 0, 0), (37, 9, 16, 0), (10, 0, 0, 0), (8, 0, 0, 0), (1, 1, 0, 0), (40, 0, 0, 0), (2, 0, 0, 0), (37, 9, 1, 0), (0, 0, 0, 1286), (0, 0, 0, 2), (2, 0, 0, 0), (37, 9, 16, 0), (10, 0, 0, 0), (8, 0, 0, 0), (0, 0, 0, 1), (8, 0, 0, 0), (1, 2, 0, 0), (40, 0, 0, 0), (2, 0, 0, 0), (27, 0, 0, 0), (37, 9, 16, 0), (0, 0, 0, 1), (8, 0, 0, 0), (38, 9, 16, 0), (53, 0, 0, 0)]
noncomputable def z_i221 : List zJ := z_dec cX12_emits 0 (z_wx [(1, [1462]), (3, [1477]), (5, [1462]), (3, [1477]), (8, [1477]), (2, [1477])] 1)
noncomputable def z_h221 : List (Nat × Nat × Nat × Nat × Nat × Nat × Nat) := []
noncomputable def z_m222 : zMi := (RX12, yX12_readPart, cX12_readPart, 2, some .boolean, [])
noncomputable def z_c222 : List zI := [(2, 0, 0, 0), (54, 203, 0, 9), (2, 0, 0, 0), (37, 9, 10, 0), (2, 0, 0, 0), (37, 9, 12, 0), (32, 17, 1, 0), (2, 0, 0, 0), (0, 0, 0, 0), (0, 0, 0, 999), (54, 207, 2, 9), (4, 1, 0, 0), (2, 0, 0, 0), (0, 0, 0, 8), (1, 1, 0, 0), (54, 221, 2, 9), (30, 59, 0, 0), (2, 0, 0, 0), (58, 50, 0, 0), (54, 204, 1, 9), (31, 23, 0, 0), (0, 0, 0, 0), (30, 54, 0, 0), (2, 0, 0, 0), (58, 57, 0, 0), (54, 204, 1, 9), (31, 29, 0, 0), (0, 0, 0, 1), (30, 54, 0, 0), (2, 0, 0, 0), (58, 58, 0, 0), (54, 204, 1, 9), (31, 35, 0, 0), (0, 0, 0, 2), (30, 54, 0, 0), (2, 0, 0, 0), (58, 59, 0, 0), (54, 204, 1, 9), (31, 41, 0, 0), (0, 0, 0, 3), (30, 54, 0, 0), (2, 0, 0, 0), (58, 60, 0, 0), (54, 204, 1, 9), (31, 47, 0, 0), (0, 0, 0, 4), (30, 54, 0, 0), (2, 0, 0, 0), (58, 49, 0, 0), (54, 204, 1, 9), (31, 53, 0, 0), (0, 0, 0, 5), (30, 54, 0, 0), (0, 0, 0, -1), (4, 1, 0, 0), (2, 0, 0, 0), (1, 1, 0, 0), (0, 0, 0, 0), (54, 221, 2, 9), (1, 1, 0, 0), (31, 63, 2, 0), (0, 0, 0, 1), (30, 64, 0, 0), (0, 0, 0, 0), (50, 0, 0, 0)]
noncomputable def z_i222 : List zJ := z_dec cX12_readPart 0 (z_wx [(1, [1579, 1581, 29, 110, 1582]), (1, [1471]), (1, [1473]), (4, [1607, 1609, 35, 110, 1610]), (4, [1704, 1706, 52, 110, 1707]), (3, [1588, 1590, 31, 110, 1591]), (5, [1588, 1590, 31, 110, 1591]), (5, [1588, 1590, 31, 110, 1591]), (5, [1588, 1590, 31, 110, 1591]), (5, [1588, 1590, 31, 110, 1591]), (5, [1588, 1590, 31, 110, 1591]), (8, [1704, 1706, 52, 110, 1707])] 6)
noncomputable def z_h222 : List (Nat × Nat × Nat × Nat × Nat × Nat × Nat) := []
noncomputable def z_m223 : zMi := (RX12, yX12_readSum, cX12_readSum, 1, some .boolean, [])
noncomputable def z_c223 : List zI := [(2, 0, 0, 0), (54, 222, 0, 9), (31, 5, 1, 0), (0, 0, 0, 0), (50, 0, 0, 0), (2, 0, 0, 0), (0, 0, 0, 43), (54, 206, 1, 9), (31, 19, 0, 0), (2, 0, 0, 0), (54, 222, 0, 9), (31, 14, 1, 0), (0, 0, 0, 0), (50, 0, 0, 0), (2, 0, 0, 0), (0, 0, 0, 9), (0, 0, 0, 0), (54, 221, 2, 9), (30, 5, 0, 0), (0, 0, 0, 1), (50, 0, 0, 0)]
noncomputable def z_i223 : List zJ := z_dec cX12_readSum 0 (z_wx [(1, [1718, 1720, 55, 110, 1721]), (5, [1699, 1701, 51, 110, 1702]), (2, [1718, 1720, 55, 110, 1721]), (6, [1704, 1706, 52, 110, 1707])] 3)
noncomputable def z_h223 : List (Nat × Nat × Nat × Nat × Nat × Nat × Nat) := []
noncomputable def z_m224 : zMi := (RX12, yX12_readTag, cX12_readTag, 2, some .boolean, [])
noncomputable def z_c224 : List zI := [(2, 0, 0, 0), (54, 203, 0, 9), (2, 0, 0, 0), (58, 61, 0, 0), (54, 204, 1, 9), (31, 8, 0, 0), (0, 0, 0, 6), (30, 15, 0, 0), (2, 0, 0, 0), (58, 62, 0, 0), (54, 204, 1, 9), (31, 14, 0, 0), (0, 0, 0, 7), (30, 15, 0, 0), (0, 0, 0, -1), (4, 1, 0, 0), (1, 1, 0, 0), (31, 23, 2, 0), (2, 0, 0, 0), (1, 1, 0, 0), (0, 0, 0, 0), (54, 221, 2, 9), (30, 27, 0, 0), (2, 0, 0, 0), (2, 0, 0, 0), (37, 9, 12, 0), (38, 9, 10, 0), (1, 1, 0, 0), (31, 31, 2, 0), (0, 0, 0, 1), (30, 32, 0, 0), (0, 0, 0, 0), (50, 0, 0, 0)]
noncomputable def z_i224 : List zJ := z_dec cX12_readTag 0 (z_wx [(1, [1579, 1581, 29, 110, 1582]), (2, [1588, 1590, 31, 110, 1591]), (5, [1588, 1590, 31, 110, 1591]), (10, [1704, 1706, 52, 110, 1707]), (3, [1473]), (0, [1471])] 6)
noncomputable def z_h224 : List (Nat × Nat × Nat × Nat × Nat × Nat × Nat) := []
noncomputable def z_m225 : zMi := (RX12, yX12_readAtom, cX12_readAtom, 2, some .boolean, [])
noncomputable def z_c225 : List zI := [(2, 0, 0, 0), (0, 0, 0, 40), (54, 206, 1, 9), (31, 31, 0, 0), (2, 0, 0, 0), (37, 9, 13, 0), (0, 0, 0, 6), (32, 10, 1, 0), (0, 0, 0, 0), (50, 0, 0, 0), (2, 0, 0, 0), (27, 0, 0, 0), (37, 9, 13, 0), (0, 0, 0, 1), (8, 0, 0, 0), (38, 9, 13, 0), (2, 0, 0, 0), (54, 227, 0, 9), (31, 21, 1, 0), (0, 0, 0, 0), (50, 0, 0, 0), (2, 0, 0, 0), (27, 0, 0, 0), (37, 9, 13, 0), (0, 0, 0, 1), (9, 0, 0, 0), (38, 9, 13, 0), (2, 0, 0, 0), (0, 0, 0, 41), (54, 206, 1, 9), (50, 0, 0, 0), (2, 0, 0, 0), (58, 63, 0, 0), (54, 205, 1, 9), (31, 64, 0, 0), (2, 0, 0, 0), (37, 9, 13, 0), (0, 0, 0, 6), (32, 41, 1, 0), (0, 0, 0, 0), (50, 0, 0, 0), (2, 0, 0, 0), (27, 0, 0, 0), (37, 9, 13, 0), (0, 0, 0, 1), (8, 0, 0, 0), (38, 9, 13, 0), (2, 0, 0, 0), (54, 225, 0, 9), (31, 52, 1, 0), (0, 0, 0, 0), (50, 0, 0, 0), (2, 0, 0, 0), (27, 0, 0, 0), (37, 9, 13, 0), (0, 0, 0, 1), (9, 0, 0, 0), (38, 9, 13, 0), (2, 0, 0, 0), (0, 0, 0, 12), (0, 0, 0, 0), (54, 221, 2, 9), (0, 0, 0, 1), (50, 0, 0, 0), (2, 0, 0, 0), (54, 224, 0, 9), (31, 69, 0, 0), (0, 0, 0, 1), (50, 0, 0, 0), (2, 0, 0, 0), (54, 223, 0, 9), (31, 74, 1, 0), (0, 0, 0, 0), (50, 0, 0, 0), (2, 0, 0, 0), (0, 0, 0, 60), (54, 206, 1, 9), (4, 1, 0, 0), (1, 1, 0, 0), (31, 84, 1, 0), (2, 0, 0, 0), (0, 0, 0, 62), (54, 206, 1, 9), (31, 87, 0, 0), (2, 0, 0, 0), (54, 223, 0, 9), (31, 89, 1, 0), (0, 0, 0, 0), (50, 0, 0, 0), (2, 0, 0, 0), (1, 1, 0, 0), (31, 94, 0, 0), (0, 0, 0, 10), (30, 95, 0, 0), (0, 0, 0, 11), (0, 0, 0, 0), (54, 221, 2, 9), (0, 0, 0, 1), (50, 0, 0, 0)]
noncomputable def z_i225 : List zJ := z_dec cX12_readAtom 0 (z_wx [(2, [1699, 1701, 51, 110, 1702]), (2, [1474]), (6, [1474]), (2, [1474]), (1, [1687, 1689, 48, 110, 1690]), (5, [1474]), (2, [1474]), (2, [1699, 1701, 51, 110, 1702]), (3, [1614, 1616, 36, 110, 1617]), (2, [1474]), (6, [1474]), (2, [1474]), (1, [1695, 1697, 50, 110, 1698]), (5, [1474]), (2, [1474]), (3, [1704, 1706, 52, 110, 1707]), (3, [1708, 1710, 53, 110, 1711]), (4, [1714, 1716, 54, 110, 1717]), (5, [1699, 1701, 51, 110, 1702]), (5, [1699, 1701, 51, 110, 1702]), (2, [1714, 1716, 54, 110, 1717]), (10, [1704, 1706, 52, 110, 1707])] 2)
noncomputable def z_h225 : List (Nat × Nat × Nat × Nat × Nat × Nat × Nat) := []
noncomputable def z_m226 : zMi := (RX12, yX12_readAllOf, cX12_readAllOf, 1, some .boolean, [])
noncomputable def z_c226 : List zI := [(2, 0, 0, 0), (54, 225, 0, 9), (31, 5, 1, 0), (0, 0, 0, 0), (50, 0, 0, 0), (2, 0, 0, 0), (58, 64, 0, 0), (54, 205, 1, 9), (31, 19, 0, 0), (2, 0, 0, 0), (54, 225, 0, 9), (31, 14, 1, 0), (0, 0, 0, 0), (50, 0, 0, 0), (2, 0, 0, 0), (0, 0, 0, 13), (0, 0, 0, 0), (54, 221, 2, 9), (30, 5, 0, 0), (0, 0, 0, 1), (50, 0, 0, 0)]
noncomputable def z_i226 : List zJ := z_dec cX12_readAllOf 0 (z_wx [(1, [1695, 1697, 50, 110, 1698]), (5, [1614, 1616, 36, 110, 1617]), (2, [1695, 1697, 50, 110, 1698]), (6, [1704, 1706, 52, 110, 1707])] 3)
noncomputable def z_h226 : List (Nat × Nat × Nat × Nat × Nat × Nat × Nat) := []
noncomputable def z_m227 : zMi := (RX12, yX12_readCond, cX12_readCond, 1, some .boolean, [])
noncomputable def z_c227 : List zI := [(2, 0, 0, 0), (54, 226, 0, 9), (31, 5, 1, 0), (0, 0, 0, 0), (50, 0, 0, 0), (2, 0, 0, 0), (58, 65, 0, 0), (54, 205, 1, 9), (31, 19, 0, 0), (2, 0, 0, 0), (54, 226, 0, 9), (31, 14, 1, 0), (0, 0, 0, 0), (50, 0, 0, 0), (2, 0, 0, 0), (0, 0, 0, 14), (0, 0, 0, 0), (54, 221, 2, 9), (30, 5, 0, 0), (0, 0, 0, 1), (50, 0, 0, 0)]
noncomputable def z_i227 : List zJ := z_dec cX12_readCond 0 (z_wx [(1, [1691, 1693, 49, 110, 1694]), (5, [1614, 1616, 36, 110, 1617]), (2, [1691, 1693, 49, 110, 1694]), (6, [1704, 1706, 52, 110, 1707])] 3)
noncomputable def z_h227 : List (Nat × Nat × Nat × Nat × Nat × Nat × Nat) := []
noncomputable def z_m228 : zMi := (RX12, yX12_readLawLine, cX12_readLawLine, 3, some .boolean, [])
noncomputable def z_c228 : List zI := [(0, 0, 0, 1238), (0, 0, 0, 4), (1, 1, 0, 0), (10, 0, 0, 0), (8, 0, 0, 0), (4, 2, 0, 0), (2, 0, 0, 0), (37, 9, 1, 0), (1, 2, 0, 0), (2, 0, 0, 0), (58, 66, 0, 0), (54, 204, 1, 9), (31, 15, 0, 0), (0, 0, 0, 0), (30, 28, 0, 0), (2, 0, 0, 0), (58, 44, 0, 0), (54, 204, 1, 9), (31, 21, 0, 0), (0, 0, 0, 1), (30, 28, 0, 0), (2, 0, 0, 0), (58, 54, 0, 0), (54, 204, 1, 9), (31, 27, 0, 0), (0, 0, 0, 2), (30, 28, 0, 0), (0, 0, 0, -1), (40, 0, 0, 0), (2, 0, 0, 0), (37, 9, 1, 0), (1, 2, 0, 0), (39, 0, 0, 0), (31, 36, 3, 0), (0, 0, 0, 0), (50, 0, 0, 0), (2, 0, 0, 0), (37, 9, 1, 0), (1, 2, 0, 0), (0, 0, 0, 1), (8, 0, 0, 0), (2, 0, 0, 0), (0, 0, 0, 0), (0, 0, 0, 20), (54, 207, 2, 9), (40, 0, 0, 0), (2, 0, 0, 0), (37, 9, 1, 0), (1, 2, 0, 0), (0, 0, 0, 1), (8, 0, 0, 0), (39, 0, 0, 0), (31, 55, 3, 0), (0, 0, 0, 0), (50, 0, 0, 0), (2, 0, 0, 0), (37, 9, 1, 0), (1, 2, 0, 0), (0, 0, 0, 2), (8, 0, 0, 0), (2, 0, 0, 0), (37, 9, 16, 0), (40, 0, 0, 0), (2, 0, 0, 0), (0, 0, 0, 0), (38, 9, 13, 0), (2, 0, 0, 0), (58, 67, 0, 0), (54, 205, 1, 9), (31, 75, 0, 0), (2, 0, 0, 0), (54, 227, 0, 9), (31, 75, 1, 0), (0, 0, 0, 0), (50, 0, 0, 0), (2, 0, 0, 0), (37, 9, 1, 0), (1, 2, 0, 0), (0, 0, 0, 3), (8, 0, 0, 0), (2, 0, 0, 0), (37, 9, 16, 0), (40, 0, 0, 0), (0, 0, 0, 1), (50, 0, 0, 0)]
noncomputable def z_i228 : List zJ := z_dec cX12_readLawLine 0 (z_wx [(7, [1462]), (3, [1588, 1590, 31, 110, 1591]), (5, [1588, 1590, 31, 110, 1591]), (5, [1588, 1590, 31, 110, 1591]), (6, [1462]), (6, [1462]), (6, [1607, 1609, 35, 110, 1610]), (2, [1462]), (8, [1462]), (4, [1477]), (3, [1474]), (2, [1614, 1616, 36, 110, 1617]), (2, [1687, 1689, 48, 110, 1690]), (4, [1462]), (4, [1477])] 3)
noncomputable def z_h228 : List (Nat × Nat × Nat × Nat × Nat × Nat × Nat) := []
noncomputable def z_m229 : zMi := (RX12, yX12_readLine, cX12_readLine, 3, some .boolean, [])
noncomputable def z_c229 : List zI := [(2, 0, 0, 0), (54, 203, 0, 9), (1, 2, 0, 0), (1, 1, 0, 0), (31, 7, 0, 0), (0, 0, 0, 14), (30, 8, 0, 0), (0, 0, 0, 12), (32, 21, 3, 0), (1, 1, 0, 0), (31, 15, 0, 0), (2, 0, 0, 0), (54, 220, 0, 9), (31, 21, 0, 0), (30, 19, 0, 0), (2, 0, 0, 0), (1, 2, 0, 0), (54, 228, 1, 9), (31, 21, 0, 0), (0, 0, 0, 1), (30, 22, 0, 0), (0, 0, 0, 0), (50, 0, 0, 0)]
noncomputable def z_i229 : List zJ := z_dec cX12_readLine 0 (z_wx [(1, [1579, 1581, 29, 110, 1582]), (10, [1583, 1585, 30, 110, 1586]), (4, [1681, 1683, 47, 110, 1684])] 5)
noncomputable def z_h229 : List (Nat × Nat × Nat × Nat × Nat × Nat × Nat) := []
noncomputable def z_m230 : zMi := (RX12, yX12_readAll, cX12_readAll, 3, some .int, [])
noncomputable def z_c230 : List zI := [(2, 0, 0, 0), (54, 210, 0, 9), (2, 0, 0, 0), (0, 0, 0, 0), (38, 9, 16, 0), (2, 0, 0, 0), (54, 202, 0, 9), (2, 0, 0, 0), (37, 9, 10, 0), (2, 0, 0, 0), (37, 9, 11, 0), (32, 14, 1, 0), (0, 0, 0, 0), (50, 0, 0, 0), (0, 0, 0, 0), (4, 2, 0, 0), (2, 0, 0, 0), (1, 1, 0, 0), (1, 2, 0, 0), (54, 229, 2, 9), (31, 23, 1, 0), (0, 0, 0, -1), (50, 0, 0, 0), (2, 0, 0, 0), (54, 202, 0, 9), (2, 0, 0, 0), (37, 9, 10, 0), (2, 0, 0, 0), (37, 9, 11, 0), (32, 34, 1, 0), (1, 2, 0, 0), (0, 0, 0, 1), (8, 0, 0, 0), (50, 0, 0, 0), (2, 0, 0, 0), (0, 0, 0, 59), (0, 0, 0, 59), (54, 201, 2, 9), (31, 41, 1, 0), (0, 0, 0, -1), (50, 0, 0, 0), (2, 0, 0, 0), (27, 0, 0, 0), (37, 9, 10, 0), (0, 0, 0, 1), (8, 0, 0, 0), (38, 9, 10, 0), (7, 2, 0, 1), (30, 16, 0, 0)]
noncomputable def z_i230 : List zJ := z_dec cX12_readAll 0 (z_wx [(1, [1563, 1565, 25, 110, 1566]), (2, [1477]), (1, [1567, 1569, 26, 110, 1570]), (1, [1471]), (1, [1472]), (8, [1575, 1577, 28, 110, 1578]), (4, [1567, 1569, 26, 110, 1570]), (1, [1471]), (1, [1472]), (8, [1571, 1573, 27, 110, 1574]), (5, [1471]), (2, [1471])] 2)
noncomputable def z_h230 : List (Nat × Nat × Nat × Nat × Nat × Nat × Nat) := []
noncomputable def z_m231 : zMi := (RX12, yX12_deed, cX12_deed, 3, some .int, [])
noncomputable def z_c231 : List zI := [(0, 0, 0, 0), (4, 1, 0, 0), (1, 1, 0, 0), (0, 0, 0, 1237), (32, 15, 3, 0), (2, 0, 0, 0), (37, 9, 3, 0), (1, 1, 0, 0), (2, 0, 0, 0), (37, 9, 1, 0), (1, 1, 0, 0), (39, 0, 0, 0), (40, 0, 0, 0), (7, 1, 0, 1), (30, 2, 0, 0), (2, 0, 0, 0), (0, 0, 0, 1), (54, 230, 1, 9), (4, 1, 0, 0), (2, 0, 0, 0), (1, 1, 0, 0), (31, 25, 3, 0), (2, 0, 0, 0), (37, 9, 12, 0), (30, 26, 0, 0), (0, 0, 0, -1), (38, 9, 14, 0), (2, 0, 0, 0), (1, 1, 0, 0), (31, 32, 3, 0), (0, 0, 0, 1), (30, 33, 0, 0), (0, 0, 0, 0), (0, 0, 0, 1), (54, 176, 2, 9), (31, 49, 1, 0), (2, 0, 0, 0), (2, 0, 0, 0), (37, 9, 1, 0), (0, 0, 0, 2), (39, 0, 0, 0), (0, 0, 0, 12), (32, 45, 1, 0), (0, 0, 0, 1), (30, 46, 0, 0), (0, 0, 0, 0), (0, 0, 0, 2), (54, 176, 2, 9), (31, 66, 0, 0), (0, 0, 0, 0), (4, 2, 0, 0), (1, 2, 0, 0), (0, 0, 0, 1237), (32, 64, 3, 0), (2, 0, 0, 0), (37, 9, 1, 0), (1, 2, 0, 0), (2, 0, 0, 0), (37, 9, 3, 0), (1, 2, 0, 0), (39, 0, 0, 0), (40, 0, 0, 0), (7, 2, 0, 1), (30, 51, 0, 0), (0, 0, 0, 0), (50, 0, 0, 0), (2, 0, 0, 0), (37, 9, 1, 0), (0, 0, 0, 2), (28, 0, 0, 0), (39, 0, 0, 0), (0, 0, 0, 1), (8, 0, 0, 0), (40, 0, 0, 0), (2, 0, 0, 0), (0, 0, 0, 0), (38, 9, 7, 0), (2, 0, 0, 0), (37, 9, 1, 0), (0, 0, 0, 2), (39, 0, 0, 0), (50, 0, 0, 0)]
noncomputable def z_i231 : List zJ := z_dec cX12_deed 0 (z_wx [(6, [1464]), (2, [1462]), (7, [1559, 1561, 24, 110, 1562]), (5, [1473]), (2, [1475]), (7, [1727, 1729, 56, 110, 1730]), (3, [1462]), (8, [1727, 1729, 56, 110, 1730]), (7, [1462]), (2, [1464]), (8, [1462]), (8, [1468]), (1, [1462])] 3)
noncomputable def z_h231 : List (Nat × Nat × Nat × Nat × Nat × Nat × Nat) := []
noncomputable def z_m232 : zMi := (RX12, yX12_law, cX12_law, 3, some .int, [])
noncomputable def z_c232 : List zI := [(2, 0, 0, 0), (0, 0, 0, 0), (54, 230, 1, 9), (4, 1, 0, 0), (2, 0, 0, 0), (1, 1, 0, 0), (31, 10, 3, 0), (2, 0, 0, 0), (37, 9, 12, 0), (30, 11, 0, 0), (0, 0, 0, -1), (38, 9, 14, 0), (2, 0, 0, 0), (1, 1, 0, 0), (31, 17, 3, 0), (0, 0, 0, 1), (30, 18, 0, 0), (0, 0, 0, 0), (0, 0, 0, 1), (54, 176, 2, 9), (31, 23, 0, 0), (0, 0, 0, 0), (50, 0, 0, 0), (2, 0, 0, 0), (37, 9, 1, 0), (0, 0, 0, 1237), (1, 1, 0, 0), (40, 0, 0, 0), (0, 0, 0, 0), (4, 2, 0, 0), (1, 2, 0, 0), (0, 0, 0, 849), (32, 47, 3, 0), (2, 0, 0, 0), (37, 9, 1, 0), (0, 0, 0, 388), (1, 2, 0, 0), (8, 0, 0, 0), (2, 0, 0, 0), (37, 9, 1, 0), (0, 0, 0, 1237), (1, 2, 0, 0), (8, 0, 0, 0), (39, 0, 0, 0), (40, 0, 0, 0), (7, 2, 0, 1), (30, 30, 0, 0), (2, 0, 0, 0), (37, 9, 1, 0), (0, 0, 0, 3), (0, 0, 0, 1), (40, 0, 0, 0), (2, 0, 0, 0), (0, 0, 0, 0), (38, 9, 7, 0), (1, 1, 0, 0), (50, 0, 0, 0)]
noncomputable def z_i232 : List zJ := z_dec cX12_law 0 (z_wx [(2, [1559, 1561, 24, 110, 1562]), (5, [1473]), (2, [1475]), (7, [1727, 1729, 56, 110, 1730]), (4, [1462]), (9, [1462]), (4, [1462]), (8, [1462]), (5, [1468])] 2)
noncomputable def z_h232 : List (Nat × Nat × Nat × Nat × Nat × Nat × Nat) := []
noncomputable def z_m233 : zMi := (RX12, yX12_leftOnes, cX12_leftOnes, 3, some .int, [])
noncomputable def z_c233 : List zI := [(0, 0, 0, 0), (4, 1, 0, 0), (0, 0, 0, 0), (4, 2, 0, 0), (1, 2, 0, 0), (2, 0, 0, 0), (54, 185, 0, 9), (32, 22, 3, 0), (1, 1, 0, 0), (2, 0, 0, 0), (1, 2, 0, 0), (54, 194, 1, 9), (31, 17, 0, 0), (0, 0, 0, 1), (1, 2, 0, 0), (13, 0, 0, 0), (30, 18, 0, 0), (0, 0, 0, 0), (17, 0, 0, 0), (4, 1, 0, 0), (7, 2, 0, 1), (30, 4, 0, 0), (1, 1, 0, 0), (50, 0, 0, 0)]
noncomputable def z_i233 : List zJ := z_dec cX12_leftOnes 0 (z_wx [(6, [1659, 1661, 44, 110, 1662]), (4, [1806, 1808, 69, 110, 1809])] 12)
noncomputable def z_h233 : List (Nat × Nat × Nat × Nat × Nat × Nat × Nat) := []
noncomputable def z_m234 : zMi := (RX12, yX12_bulkOf, cX12_bulkOf, 4, some .int, [])
noncomputable def z_c234 : List zI := [(0, 0, 0, 0), (4, 2, 0, 0), (0, 0, 0, 0), (4, 3, 0, 0), (1, 3, 0, 0), (2, 0, 0, 0), (54, 185, 0, 9), (32, 23, 3, 0), (1, 2, 0, 0), (1, 1, 0, 0), (1, 3, 0, 0), (55, 178, 2, 0), (31, 18, 0, 0), (2, 0, 0, 0), (1, 3, 0, 0), (0, 0, 0, 1), (54, 193, 2, 9), (30, 19, 0, 0), (0, 0, 0, 0), (8, 0, 0, 0), (4, 2, 0, 0), (7, 3, 0, 1), (30, 4, 0, 0), (1, 2, 0, 0), (50, 0, 0, 0)]
noncomputable def z_i234 : List zJ := z_dec cX12_bulkOf 0 (z_wx [(6, [1659, 1661, 44, 110, 1662]), (4, [1634, 1635, 110, 1636]), (4, [1810, 1812, 70, 110, 1813])] 8)
noncomputable def z_h234 : List (Nat × Nat × Nat × Nat × Nat × Nat × Nat) := []
noncomputable def z_m235 : zMi := (RX12, yX12_isNight, cX12_isNight, 1, some .boolean, [])
noncomputable def z_c235 : List zI := [(1, 0, 0, 0), (0, 0, 0, 6), (32, 6, 2, 0), (1, 0, 0, 0), (0, 0, 0, 21), (32, 8, 5, 0), (0, 0, 0, 1), (30, 9, 0, 0), (0, 0, 0, 0), (50, 0, 0, 0)]
noncomputable def z_i235 : List zJ := z_dec cX12_isNight 0 (z_wx [] 10)
noncomputable def z_h235 : List (Nat × Nat × Nat × Nat × Nat × Nat × Nat) := []
noncomputable def z_m236 : zMi := (RX12, yX12_factOf, cX12_factOf, 5, some .int, [])
noncomputable def z_c236 : List zI := [(1, 1, 0, 0), (35, 5, 0, 0), (1, 3, 0, 0), (50, 0, 0, 0), (1, 4, 0, 0), (50, 0, 0, 0), (2, 0, 0, 0), (37, 9, 1, 0), (0, 0, 0, 6), (39, 0, 0, 0), (50, 0, 0, 0), (2, 0, 0, 0), (37, 9, 1, 0), (0, 0, 0, 7), (39, 0, 0, 0), (50, 0, 0, 0), (2, 0, 0, 0), (37, 9, 1, 0), (0, 0, 0, 8), (39, 0, 0, 0), (50, 0, 0, 0), (2, 0, 0, 0), (2, 0, 0, 0), (54, 233, 0, 9), (54, 234, 1, 9), (50, 0, 0, 0), (1, 4, 0, 0), (55, 235, 1, 0), (31, 31, 0, 0), (0, 0, 0, 1), (30, 32, 0, 0), (0, 0, 0, 0), (50, 0, 0, 0), (2, 0, 0, 0), (1, 3, 0, 0), (1, 4, 0, 0), (54, 191, 2, 9), (31, 40, 0, 0), (0, 0, 0, 1), (30, 41, 0, 0), (0, 0, 0, 0), (50, 0, 0, 0), (1, 2, 0, 0), (50, 0, 0, 0)]
noncomputable def z_i236 : List zJ := z_dec cX12_factOf 0 (z_wx [(7, [1462]), (4, [1462]), (4, [1462]), (5, [1802, 1804, 68, 110, 1805]), (0, [1814, 1816, 71, 110, 1817]), (2, [1818, 1819, 110, 1820]), (8, [1821, 1823, 72, 110, 1824])] 7)
noncomputable def z_h236 : List (Nat × Nat × Nat × Nat × Nat × Nat × Nat) := []
noncomputable def z_m237 : zMi := (RX12, yX12_holdsLine, cX12_holdsLine, 11, some .boolean, [])
noncomputable def z_c237 : List zI := [(0, 0, 0, 0), (4, 4, 0, 0), (0, 0, 0, 389), (0, 0, 0, 4), (1, 1, 0, 0), (10, 0, 0, 0), (8, 0, 0, 0), (4, 5, 0, 0), (2, 0, 0, 0), (37, 9, 1, 0), (1, 5, 0, 0), (0, 0, 0, 2), (8, 0, 0, 0), (39, 0, 0, 0), (4, 6, 0, 0), (1, 6, 0, 0), (2, 0, 0, 0), (37, 9, 1, 0), (1, 5, 0, 0), (0, 0, 0, 3), (8, 0, 0, 0), (39, 0, 0, 0), (32, 147, 3, 0), (2, 0, 0, 0), (37, 9, 1, 0), (0, 0, 0, 437), (0, 0, 0, 2), (1, 6, 0, 0), (10, 0, 0, 0), (8, 0, 0, 0), (39, 0, 0, 0), (4, 7, 0, 0), (1, 7, 0, 0), (0, 0, 0, 8), (32, 56, 4, 0), (2, 0, 0, 0), (37, 9, 17, 0), (1, 4, 0, 0), (2, 0, 0, 0), (1, 7, 0, 0), (2, 0, 0, 0), (37, 9, 1, 0), (0, 0, 0, 437), (0, 0, 0, 2), (1, 6, 0, 0), (10, 0, 0, 0), (8, 0, 0, 0), (0, 0, 0, 1), (8, 0, 0, 0), (39, 0, 0, 0), (1, 2, 0, 0), (1, 3, 0, 0), (54, 236, 4, 9), (40, 0, 0, 0), (7, 4, 0, 1), (30, 145, 0, 0), (1, 7, 0, 0), (0, 0, 0, 12), (32, 74, 1, 0), (2, 0, 0, 0), (37, 9, 17, 0), (1, 4, 0, 0), (0, 0, 0, 1), (9, 0, 0, 0), (0, 0, 0, 1), (2, 0, 0, 0), (37, 9, 17, 0), (1, 4, 0, 0), (0, 0, 0, 1), (9, 0, 0, 0), (39, 0, 0, 0), (9, 0, 0, 0), (40, 0, 0, 0), (30, 145, 0, 0), (7, 4, 0, -1), (2, 0, 0, 0), (37, 9, 17, 0), (1, 4, 0, 0), (0, 0, 0, 1), (9, 0, 0, 0), (39, 0, 0, 0), (4, 8, 0, 0), (2, 0, 0, 0), (37, 9, 17, 0), (1, 4, 0, 0), (39, 0, 0, 0), (4, 9, 0, 0), (1, 7, 0, 0), (0, 0, 0, 10), (32, 97, 1, 0), (1, 8, 0, 0), (1, 9, 0, 0), (32, 95, 3, 0), (0, 0, 0, 1), (30, 126, 0, 0), (0, 0, 0, 0), (30, 126, 0, 0), (1, 7, 0, 0), (0, 0, 0, 11), (32, 107, 1, 0), (1, 8, 0, 0), (1, 9, 0, 0), (32, 105, 5, 0), (0, 0, 0, 1), (30, 126, 0, 0), (0, 0, 0, 0), (30, 126, 0, 0), (1, 7, 0, 0), (0, 0, 0, 13), (32, 119, 1, 0), (1, 8, 0, 0), (1, 9, 0, 0), (8, 0, 0, 0), (0, 0, 0, 2), (32, 117, 1, 0), (0, 0, 0, 1), (30, 126, 0, 0), (0, 0, 0, 0), (30, 126, 0, 0), (1, 8, 0, 0), (1, 9, 0, 0), (8, 0, 0, 0), (31, 125, 5, 0), (0, 0, 0, 1), (30, 126, 0, 0), (0, 0, 0, 0), (4, 10, 0, 0), (2, 0, 0, 0), (37, 9, 17, 0), (1, 4, 0, 0), (0, 0, 0, 1), (9, 0, 0, 0), (1, 7, 0, 0), (0, 0, 0, 9), (32, 139, 1, 0), (1, 8, 0, 0), (1, 9, 0, 0), (8, 0, 0, 0), (30, 144, 0, 0), (1, 10, 0, 0), (31, 143, 0, 0), (0, 0, 0, 1), (30, 144, 0, 0), (0, 0, 0, 0), (40, 0, 0, 0), (7, 6, 0, 1), (30, 15, 0, 0), (1, 4, 0, 0), (31, 155, 0, 0), (2, 0, 0, 0), (37, 9, 17, 0), (0, 0, 0, 0), (39, 0, 0, 0), (0, 0, 0, 1), (32, 157, 1, 0), (0, 0, 0, 1), (30, 158, 0, 0), (0, 0, 0, 0), (50, 0, 0, 0)]
noncomputable def z_i237 : List zJ := z_dec cX12_holdsLine 0 (z_wx [(9, [1462]), (7, [1462]), (6, [1462]), (11, [1478]), (4, [1462]), (10, [1798, 1800, 67, 110, 1801]), (7, [1478]), (5, [1478]), (9, [1478]), (6, [1478]), (44, [1478]), (21, [1478])] 8)
noncomputable def z_h237 : List (Nat × Nat × Nat × Nat × Nat × Nat × Nat) := []
noncomputable def z_m238 : zMi := (RX12, yX12_sumOf, cX12_sumOf, 6, some .int, [])
noncomputable def z_c238 : List zI := [(0, 0, 0, 0), (4, 4, 0, 0), (0, 0, 0, 0), (4, 5, 0, 0), (2, 0, 0, 0), (37, 9, 1, 0), (0, 0, 0, 3), (39, 0, 0, 0), (0, 0, 0, 1), (32, 47, 1, 0), (1, 5, 0, 0), (2, 0, 0, 0), (37, 9, 1, 0), (0, 0, 0, 388), (39, 0, 0, 0), (32, 47, 3, 0), (2, 0, 0, 0), (37, 9, 1, 0), (0, 0, 0, 389), (0, 0, 0, 4), (1, 5, 0, 0), (10, 0, 0, 0), (8, 0, 0, 0), (39, 0, 0, 0), (1, 1, 0, 0), (32, 45, 1, 0), (2, 0, 0, 0), (1, 5, 0, 0), (1, 2, 0, 0), (1, 3, 0, 0), (54, 237, 3, 9), (31, 45, 0, 0), (1, 4, 0, 0), (2, 0, 0, 0), (37, 9, 1, 0), (0, 0, 0, 389), (0, 0, 0, 4), (1, 5, 0, 0), (10, 0, 0, 0), (8, 0, 0, 0), (0, 0, 0, 1), (8, 0, 0, 0), (39, 0, 0, 0), (8, 0, 0, 0), (4, 4, 0, 0), (7, 5, 0, 1), (30, 4, 0, 0), (1, 4, 0, 0), (50, 0, 0, 0)]
noncomputable def z_i238 : List zJ := z_dec cX12_sumOf 0 (z_wx [(5, [1462]), (6, [1462]), (4, [1462]), (12, [1794, 1796, 66, 110, 1797]), (3, [1462])] 14)
noncomputable def z_h238 : List (Nat × Nat × Nat × Nat × Nat × Nat × Nat) := []
noncomputable def z_m239 : zMi := (RX12, yX12_warmsBy, cX12_warmsBy, 3, some .int, [])
noncomputable def z_c239 : List zI := [(2, 0, 0, 0), (1, 1, 0, 0), (0, 0, 0, 2), (54, 190, 2, 9), (2, 0, 0, 0), (0, 0, 0, 0), (1, 1, 0, 0), (1, 2, 0, 0), (54, 238, 3, 9), (8, 0, 0, 0), (50, 0, 0, 0)]
noncomputable def z_i239 : List zJ := z_dec cX12_warmsBy 0 (z_wx [(3, [1774, 1776, 62, 110, 1777]), (4, [1790, 1792, 65, 110, 1793])] 2)
noncomputable def z_h239 : List (Nat × Nat × Nat × Nat × Nat × Nat × Nat) := []
noncomputable def z_m240 : zMi := (RX12, yX12_dustsBy, cX12_dustsBy, 3, some .int, [])
noncomputable def z_c240 : List zI := [(2, 0, 0, 0), (1, 1, 0, 0), (0, 0, 0, 1), (54, 190, 2, 9), (2, 0, 0, 0), (0, 0, 0, 1), (1, 1, 0, 0), (1, 2, 0, 0), (54, 238, 3, 9), (8, 0, 0, 0), (50, 0, 0, 0)]
noncomputable def z_i240 : List zJ := z_dec cX12_dustsBy 0 (z_wx [(3, [1774, 1776, 62, 110, 1777]), (4, [1790, 1792, 65, 110, 1793])] 2)
noncomputable def z_h240 : List (Nat × Nat × Nat × Nat × Nat × Nat × Nat) := []
noncomputable def z_m241 : zMi := (RX12, yX12_finedBy, cX12_finedBy, 2, some .int, [])
noncomputable def z_c241 : List zI := [(2, 0, 0, 0), (37, 9, 1, 0), (0, 0, 0, 11), (39, 0, 0, 0), (2, 0, 0, 0), (1, 1, 0, 0), (0, 0, 0, 1), (54, 193, 2, 9), (10, 0, 0, 0), (2, 0, 0, 0), (0, 0, 0, 2), (2, 0, 0, 0), (1, 1, 0, 0), (0, 0, 0, 0), (54, 193, 2, 9), (2, 0, 0, 0), (37, 9, 1, 0), (0, 0, 0, 4), (39, 0, 0, 0), (54, 238, 3, 9), (8, 0, 0, 0), (50, 0, 0, 0)]
noncomputable def z_i241 : List zJ := z_dec cX12_finedBy 0 (z_wx [(1, [1462]), (5, [1810, 1812, 70, 110, 1813]), (6, [1810, 1812, 70, 110, 1813]), (1, [1462]), (2, [1790, 1792, 65, 110, 1793])] 2)
noncomputable def z_h241 : List (Nat × Nat × Nat × Nat × Nat × Nat × Nat) := []
noncomputable def z_m242 : zMi := (RX12, yX12_hoursOf, cX12_hoursOf, 4, some .int, [])
noncomputable def z_c242 : List zI := [(0, 0, 0, 0), (4, 2, 0, 0), (0, 0, 0, 0), (4, 3, 0, 0), (1, 3, 0, 0), (0, 0, 0, 24), (32, 22, 3, 0), (1, 2, 0, 0), (2, 0, 0, 0), (1, 3, 0, 0), (54, 186, 1, 9), (1, 1, 0, 0), (32, 17, 1, 0), (0, 0, 0, 1), (1, 3, 0, 0), (13, 0, 0, 0), (30, 18, 0, 0), (0, 0, 0, 0), (17, 0, 0, 0), (4, 2, 0, 0), (7, 3, 0, 1), (30, 4, 0, 0), (1, 2, 0, 0), (50, 0, 0, 0)]
noncomputable def z_i242 : List zJ := z_dec cX12_hoursOf 0 (z_wx [(10, [1637, 1639, 39, 110, 1640])] 13)
noncomputable def z_h242 : List (Nat × Nat × Nat × Nat × Nat × Nat × Nat) := []
noncomputable def z_m243 : zMi := (RX12, yX12_shareOf, cX12_shareOf, 2, some .int, [])
noncomputable def z_c243 : List zI := [(2, 0, 0, 0), (1, 1, 0, 0), (54, 242, 1, 9), (55, 311, 1, 0), (50, 0, 0, 0)]
noncomputable def z_i243 : List zJ := z_dec cX12_shareOf 0 (z_wx [(2, [1753, 1755, 58, 110, 1756]), (0, [1761, 482, 126, 483])] 1)
noncomputable def z_h243 : List (Nat × Nat × Nat × Nat × Nat × Nat × Nat) := []
noncomputable def z_m244 : zMi := (RX12, yX12_gladOf, cX12_gladOf, 2, some .int, [])
noncomputable def z_c244 : List zI := [(2, 0, 0, 0), (1, 1, 0, 0), (54, 242, 1, 9), (2, 0, 0, 0), (1, 1, 0, 0), (0, 0, 0, 3), (54, 190, 2, 9), (16, 0, 0, 0), (55, 311, 1, 0), (50, 0, 0, 0)]
noncomputable def z_i244 : List zJ := z_dec cX12_gladOf 0 (z_wx [(2, [1753, 1755, 58, 110, 1756]), (3, [1774, 1776, 62, 110, 1777]), (1, [1761, 482, 126, 483])] 1)
noncomputable def z_h244 : List (Nat × Nat × Nat × Nat × Nat × Nat × Nat) := []
noncomputable def z_m245 : zMi := (RX12, yX12_rowFrom, cX12_rowFrom, 3, some .int, [])
noncomputable def z_c245 : List zI := [(0, 0, 0, 0), (4, 2, 0, 0), (1, 2, 0, 0), (0, 0, 0, 24), (32, 15, 3, 0), (1, 0, 0, 0), (1, 1, 0, 0), (1, 2, 0, 0), (8, 0, 0, 0), (0, 0, 0, 24), (12, 0, 0, 0), (55, 178, 2, 0), (31, 15, 0, 0), (7, 2, 0, 1), (30, 2, 0, 0), (1, 2, 0, 0), (50, 0, 0, 0)]
noncomputable def z_i245 : List zJ := z_dec cX12_rowFrom 0 (z_wx [(11, [1634, 1635, 110, 1636])] 5)
noncomputable def z_h245 : List (Nat × Nat × Nat × Nat × Nat × Nat × Nat) := []
noncomputable def z_m246 : zMi := (RX12, yX12_longestOf, cX12_longestOf, 4, some .int, [])
noncomputable def z_c246 : List zI := [(0, 0, 0, 0), (4, 2, 0, 0), (0, 0, 0, 0), (4, 3, 0, 0), (1, 3, 0, 0), (0, 0, 0, 24), (32, 17, 3, 0), (1, 2, 0, 0), (2, 0, 0, 0), (1, 1, 0, 0), (54, 242, 1, 9), (1, 3, 0, 0), (55, 245, 2, 0), (68, 0, 0, 0), (4, 2, 0, 0), (7, 3, 0, 1), (30, 4, 0, 0), (1, 2, 0, 0), (50, 0, 0, 0)]
noncomputable def z_i246 : List zJ := z_dec cX12_longestOf 0 (z_wx [(10, [1753, 1755, 58, 110, 1756]), (1, [1766, 1767, 110, 1768]), (0, [1769])] 5)
noncomputable def z_h246 : List (Nat × Nat × Nat × Nat × Nat × Nat × Nat) := []
noncomputable def z_m247 : zMi := (RX12, yX12_comesIn, cX12_comesIn, 3, some .int, [])
noncomputable def z_c247 : List zI := [(0, 0, 0, 0), (4, 2, 0, 0), (1, 2, 0, 0), (0, 0, 0, 24), (32, 21, 3, 0), (2, 0, 0, 0), (2, 0, 0, 0), (37, 9, 1, 0), (0, 0, 0, 4), (39, 0, 0, 0), (1, 2, 0, 0), (8, 0, 0, 0), (0, 0, 0, 24), (12, 0, 0, 0), (54, 186, 1, 9), (1, 1, 0, 0), (32, 19, 1, 0), (1, 2, 0, 0), (50, 0, 0, 0), (7, 2, 0, 1), (30, 2, 0, 0), (0, 0, 0, -1), (50, 0, 0, 0)]
noncomputable def z_i247 : List zJ := z_dec cX12_comesIn 0 (z_wx [(7, [1462]), (6, [1637, 1639, 39, 110, 1640])] 8)
noncomputable def z_h247 : List (Nat × Nat × Nat × Nat × Nat × Nat × Nat) := []
noncomputable def z_m248 : zMi := (RX12, yX12_holds, cX12_holds, 2, some .int, [])
noncomputable def z_c248 : List zI := [(2, 0, 0, 0), (0, 0, 0, 0), (38, 9, 0, 0), (2, 0, 0, 0), (1, 1, 0, 0), (55, 197, 1, 0), (0, 0, 0, 1), (54, 176, 2, 9), (31, 11, 0, 0), (0, 0, 0, 0), (30, 14, 0, 0), (2, 0, 0, 0), (1, 1, 0, 0), (54, 186, 1, 9), (50, 0, 0, 0)]
noncomputable def z_i248 : List zJ := z_dec cX12_holds 0 (z_wx [(2, [1461]), (2, [1739, 1740, 110, 1741]), (1, [1727, 1729, 56, 110, 1730]), (5, [1637, 1639, 39, 110, 1640])] 1)
noncomputable def z_h248 : List (Nat × Nat × Nat × Nat × Nat × Nat × Nat) := []
noncomputable def z_m249 : zMi := (RX12, yX12_family, cX12_family, 3, some .int, [])
noncomputable def z_c249 : List zI := [(2, 0, 0, 0), (0, 0, 0, 0), (38, 9, 0, 0), (2, 0, 0, 0), (2, 0, 0, 0), (1, 1, 0, 0), (54, 195, 1, 9), (0, 0, 0, 1), (54, 176, 2, 9), (31, 22, 1, 0), (2, 0, 0, 0), (1, 2, 0, 0), (0, 0, 0, 0), (0, 0, 0, 8), (55, 177, 3, 0), (31, 18, 1, 0), (0, 0, 0, 1), (30, 19, 0, 0), (0, 0, 0, 0), (0, 0, 0, 2), (54, 176, 2, 9), (31, 24, 0, 0), (0, 0, 0, 0), (50, 0, 0, 0), (1, 2, 0, 0), (35, 6, 0, 0), (2, 0, 0, 0), (1, 1, 0, 0), (54, 242, 1, 9), (50, 0, 0, 0), (2, 0, 0, 0), (1, 1, 0, 0), (54, 243, 1, 9), (50, 0, 0, 0), (2, 0, 0, 0), (1, 1, 0, 0), (54, 246, 1, 9), (50, 0, 0, 0), (2, 0, 0, 0), (1, 1, 0, 0), (54, 244, 1, 9), (50, 0, 0, 0), (2, 0, 0, 0), (1, 1, 0, 0), (54, 247, 1, 9), (50, 0, 0, 0), (2, 0, 0, 0), (1, 1, 0, 0), (1, 2, 0, 0), (54, 190, 2, 9), (50, 0, 0, 0)]
noncomputable def z_i249 : List zJ := z_dec cX12_family 0 (z_wx [(2, [1461]), (3, [1749, 1751, 57, 110, 1752]), (1, [1727, 1729, 56, 110, 1730]), (5, [1742, 1743, 110, 1744]), (5, [1727, 1729, 56, 110, 1730]), (7, [1753, 1755, 58, 110, 1756]), (3, [1757, 1759, 59, 110, 1760]), (3, [1762, 1764, 60, 110, 1765]), (3, [1770, 1772, 61, 110, 1773]), (3, [1778, 1780, 63, 110, 1781]), (4, [1774, 1776, 62, 110, 1777])] 1)
noncomputable def z_h249 : List (Nat × Nat × Nat × Nat × Nat × Nat × Nat) := []
noncomputable def z_m250 : zMi := (RX12, yX12_does, cX12_does, 4, some .int, [])
noncomputable def z_c250 : List zI := [(2, 0, 0, 0), (0, 0, 0, 0), (38, 9, 0, 0), (2, 0, 0, 0), (2, 0, 0, 0), (1, 1, 0, 0), (54, 195, 1, 9), (31, 11, 1, 0), (1, 2, 0, 0), (55, 197, 1, 0), (31, 13, 0, 0), (0, 0, 0, 1), (30, 14, 0, 0), (0, 0, 0, 0), (0, 0, 0, 1), (54, 176, 2, 9), (31, 29, 1, 0), (2, 0, 0, 0), (1, 3, 0, 0), (0, 0, 0, 0), (0, 0, 0, 1), (55, 177, 3, 0), (31, 25, 1, 0), (0, 0, 0, 1), (30, 26, 0, 0), (0, 0, 0, 0), (0, 0, 0, 2), (54, 176, 2, 9), (31, 31, 0, 0), (0, 0, 0, 0), (50, 0, 0, 0), (1, 3, 0, 0), (31, 38, 1, 0), (2, 0, 0, 0), (1, 1, 0, 0), (1, 2, 0, 0), (54, 239, 2, 9), (30, 42, 0, 0), (2, 0, 0, 0), (1, 1, 0, 0), (1, 2, 0, 0), (54, 240, 2, 9), (50, 0, 0, 0)]
noncomputable def z_i250 : List zJ := z_dec cX12_does 0 (z_wx [(2, [1461]), (3, [1749, 1751, 57, 110, 1752]), (2, [1739, 1740, 110, 1741]), (5, [1727, 1729, 56, 110, 1730]), (5, [1742, 1743, 110, 1744]), (5, [1727, 1729, 56, 110, 1730]), (8, [1786, 1788, 64, 110, 1789]), (4, [1825, 1827, 73, 110, 1828])] 1)
noncomputable def z_h250 : List (Nat × Nat × Nat × Nat × Nat × Nat × Nat) := []
noncomputable def z_m251 : zMi := (RX12, yX12_thing, cX12_thing, 3, some .int, [])
noncomputable def z_c251 : List zI := [(2, 0, 0, 0), (0, 0, 0, 0), (38, 9, 0, 0), (2, 0, 0, 0), (2, 0, 0, 0), (1, 1, 0, 0), (54, 196, 1, 9), (0, 0, 0, 1), (54, 176, 2, 9), (31, 22, 1, 0), (2, 0, 0, 0), (1, 2, 0, 0), (0, 0, 0, 0), (0, 0, 0, 3), (55, 177, 3, 0), (31, 18, 1, 0), (0, 0, 0, 1), (30, 19, 0, 0), (0, 0, 0, 0), (0, 0, 0, 2), (54, 176, 2, 9), (31, 24, 0, 0), (0, 0, 0, 0), (50, 0, 0, 0), (1, 2, 0, 0), (0, 0, 0, 3), (32, 31, 1, 0), (2, 0, 0, 0), (1, 1, 0, 0), (54, 241, 1, 9), (30, 35, 0, 0), (2, 0, 0, 0), (1, 1, 0, 0), (1, 2, 0, 0), (54, 193, 2, 9), (50, 0, 0, 0)]
noncomputable def z_i251 : List zJ := z_dec cX12_thing 0 (z_wx [(2, [1461]), (3, [1833, 1835, 74, 110, 1836]), (1, [1727, 1729, 56, 110, 1730]), (5, [1742, 1743, 110, 1744]), (5, [1727, 1729, 56, 110, 1730]), (8, [1837, 1839, 75, 110, 1840]), (4, [1810, 1812, 70, 110, 1813])] 1)
noncomputable def z_h251 : List (Nat × Nat × Nat × Nat × Nat × Nat × Nat) := []
noncomputable def z_m252 : zMi := (RX12, yX12_sell, cX12_sell, 4, some .int, [])
noncomputable def z_c252 : List zI := [(2, 0, 0, 0), (0, 0, 0, 0), (38, 9, 0, 0), (2, 0, 0, 0), (1, 1, 0, 0), (55, 197, 1, 0), (31, 11, 1, 0), (2, 0, 0, 0), (1, 2, 0, 0), (54, 195, 1, 9), (31, 13, 0, 0), (0, 0, 0, 1), (30, 14, 0, 0), (0, 0, 0, 0), (0, 0, 0, 1), (54, 176, 2, 9), (31, 50, 1, 0), (2, 0, 0, 0), (2, 0, 0, 0), (1, 1, 0, 0), (54, 186, 1, 9), (1, 2, 0, 0), (32, 25, 1, 0), (0, 0, 0, 1), (30, 26, 0, 0), (0, 0, 0, 0), (0, 0, 0, 2), (54, 176, 2, 9), (31, 50, 1, 0), (2, 0, 0, 0), (2, 0, 0, 0), (1, 1, 0, 0), (54, 186, 1, 9), (0, 0, 0, -1), (32, 44, 0, 0), (2, 0, 0, 0), (1, 2, 0, 0), (0, 0, 0, 0), (54, 190, 2, 9), (2, 0, 0, 0), (37, 9, 1, 0), (0, 0, 0, 12), (39, 0, 0, 0), (32, 46, 3, 0), (0, 0, 0, 1), (30, 47, 0, 0), (0, 0, 0, 0), (0, 0, 0, 3), (54, 176, 2, 9), (31, 52, 0, 0), (0, 0, 0, 0), (50, 0, 0, 0), (2, 0, 0, 0), (54, 182, 0, 9), (2, 0, 0, 0), (1, 1, 0, 0), (54, 186, 1, 9), (4, 3, 0, 0), (2, 0, 0, 0), (37, 9, 1, 0), (1, 2, 0, 0), (0, 0, 0, 0), (55, 189, 2, 0), (28, 0, 0, 0), (39, 0, 0, 0), (2, 0, 0, 0), (37, 9, 1, 0), (0, 0, 0, 12), (39, 0, 0, 0), (9, 0, 0, 0), (40, 0, 0, 0), (2, 0, 0, 0), (37, 9, 1, 0), (1, 3, 0, 0), (0, 0, 0, 0), (55, 189, 2, 0), (0, 0, 0, 9999), (2, 0, 0, 0), (1, 3, 0, 0), (0, 0, 0, 0), (54, 190, 2, 9), (2, 0, 0, 0), (37, 9, 1, 0), (0, 0, 0, 12), (39, 0, 0, 0), (8, 0, 0, 0), (67, 0, 0, 0), (40, 0, 0, 0), (2, 0, 0, 0), (37, 9, 1, 0), (0, 0, 0, 16), (1, 1, 0, 0), (8, 0, 0, 0), (1, 2, 0, 0), (40, 0, 0, 0), (2, 0, 0, 0), (1, 3, 0, 0), (0, 0, 0, 0), (54, 190, 2, 9), (50, 0, 0, 0)]
noncomputable def z_i252 : List zJ := z_dec cX12_sell 0 (z_wx [(2, [1461]), (2, [1739, 1740, 110, 1741]), (3, [1749, 1751, 57, 110, 1752]), (5, [1727, 1729, 56, 110, 1730]), (4, [1637, 1639, 39, 110, 1640]), (6, [1727, 1729, 56, 110, 1730]), (4, [1637, 1639, 39, 110, 1640]), (5, [1774, 1776, 62, 110, 1777]), (1, [1462]), (7, [1727, 1729, 56, 110, 1730]), (4, [1845, 1847, 76, 110, 1848]), (2, [1637, 1639, 39, 110, 1640]), (2, [1462]), (2, [1627, 1628, 110, 1629]), (3, [1462]), (5, [1462]), (2, [1627, 1628, 110, 1629]), (4, [1774, 1776, 62, 110, 1777]), (1, [1462]), (3, [1849]), (2, [1462]), (8, [1774, 1776, 62, 110, 1777])] 1)
noncomputable def z_h252 : List (Nat × Nat × Nat × Nat × Nat × Nat × Nat) := []
noncomputable def z_m253 : zMi := (RX12, yX12_buy, cX12_buy, 3, some .int, [])
noncomputable def z_c253 : List zI := [(2, 0, 0, 0), (0, 0, 0, 0), (38, 9, 0, 0), (2, 0, 0, 0), (1, 1, 0, 0), (55, 197, 1, 0), (31, 11, 1, 0), (2, 0, 0, 0), (1, 2, 0, 0), (54, 195, 1, 9), (31, 13, 0, 0), (0, 0, 0, 1), (30, 14, 0, 0), (0, 0, 0, 0), (0, 0, 0, 1), (54, 176, 2, 9), (31, 38, 1, 0), (2, 0, 0, 0), (2, 0, 0, 0), (1, 1, 0, 0), (54, 186, 1, 9), (0, 0, 0, -1), (32, 32, 1, 0), (2, 0, 0, 0), (1, 2, 0, 0), (0, 0, 0, 0), (54, 190, 2, 9), (2, 0, 0, 0), (37, 9, 1, 0), (0, 0, 0, 12), (39, 0, 0, 0), (32, 34, 3, 0), (0, 0, 0, 1), (30, 35, 0, 0), (0, 0, 0, 0), (0, 0, 0, 2), (54, 176, 2, 9), (31, 40, 0, 0), (0, 0, 0, 0), (50, 0, 0, 0), (2, 0, 0, 0), (54, 182, 0, 9), (2, 0, 0, 0), (37, 9, 1, 0), (1, 2, 0, 0), (0, 0, 0, 0), (55, 189, 2, 0), (28, 0, 0, 0), (39, 0, 0, 0), (2, 0, 0, 0), (37, 9, 1, 0), (0, 0, 0, 12), (39, 0, 0, 0), (9, 0, 0, 0), (40, 0, 0, 0), (2, 0, 0, 0), (37, 9, 1, 0), (0, 0, 0, 16), (1, 1, 0, 0), (8, 0, 0, 0), (1, 2, 0, 0), (40, 0, 0, 0), (2, 0, 0, 0), (1, 2, 0, 0), (0, 0, 0, 0), (54, 190, 2, 9), (50, 0, 0, 0)]
noncomputable def z_i253 : List zJ := z_dec cX12_buy 0 (z_wx [(2, [1461]), (2, [1739, 1740, 110, 1741]), (3, [1749, 1751, 57, 110, 1752]), (5, [1727, 1729, 56, 110, 1730]), (4, [1637, 1639, 39, 110, 1640]), (5, [1774, 1776, 62, 110, 1777]), (1, [1462]), (7, [1727, 1729, 56, 110, 1730]), (4, [1845, 1847, 76, 110, 1848]), (1, [1462]), (2, [1627, 1628, 110, 1629]), (3, [1462]), (5, [1462]), (8, [1774, 1776, 62, 110, 1777])] 1)
noncomputable def z_h253 : List (Nat × Nat × Nat × Nat × Nat × Nat × Nat) := []
noncomputable def z_m254 : zMi := (RX12, yX12_exchanges, cX12_exchanges, 4, none, [])
noncomputable def z_c254 : List zI := [(2, 0, 0, 0), (1, 1, 0, 0), (54, 186, 1, 9), (4, 3, 0, 0), (2, 0, 0, 0), (37, 9, 1, 0), (0, 0, 0, 16), (1, 1, 0, 0), (8, 0, 0, 0), (2, 0, 0, 0), (1, 2, 0, 0), (54, 186, 1, 9), (40, 0, 0, 0), (2, 0, 0, 0), (37, 9, 1, 0), (0, 0, 0, 16), (1, 2, 0, 0), (8, 0, 0, 0), (1, 3, 0, 0), (40, 0, 0, 0), (53, 0, 0, 0)]
noncomputable def z_i254 : List zJ := z_dec cX12_exchanges 0 (z_wx [(2, [1637, 1639, 39, 110, 1640]), (2, [1462]), (5, [1637, 1639, 39, 110, 1640]), (2, [1462])] 6)
noncomputable def z_h254 : List (Nat × Nat × Nat × Nat × Nat × Nat × Nat) := []
noncomputable def z_m255 : zMi := (RX12, yX12_swap, cX12_swap, 3, some .int, [])
noncomputable def z_c255 : List zI := [(2, 0, 0, 0), (0, 0, 0, 0), (38, 9, 0, 0), (2, 0, 0, 0), (1, 1, 0, 0), (55, 197, 1, 0), (31, 10, 1, 0), (1, 2, 0, 0), (55, 197, 1, 0), (31, 12, 0, 0), (0, 0, 0, 1), (30, 13, 0, 0), (0, 0, 0, 0), (0, 0, 0, 1), (54, 176, 2, 9), (31, 26, 1, 0), (2, 0, 0, 0), (1, 1, 0, 0), (1, 2, 0, 0), (32, 22, 1, 0), (0, 0, 0, 1), (30, 23, 0, 0), (0, 0, 0, 0), (0, 0, 0, 2), (54, 176, 2, 9), (31, 28, 0, 0), (0, 0, 0, 0), (50, 0, 0, 0), (2, 0, 0, 0), (2, 0, 0, 0), (1, 1, 0, 0), (54, 186, 1, 9), (0, 0, 0, -1), (32, 46, 0, 0), (2, 0, 0, 0), (1, 2, 0, 0), (54, 186, 1, 9), (0, 0, 0, -1), (32, 46, 0, 0), (2, 0, 0, 0), (1, 1, 0, 0), (54, 186, 1, 9), (2, 0, 0, 0), (1, 2, 0, 0), (54, 186, 1, 9), (32, 48, 1, 0), (0, 0, 0, 1), (30, 49, 0, 0), (0, 0, 0, 0), (0, 0, 0, 3), (54, 176, 2, 9), (31, 54, 0, 0), (0, 0, 0, 0), (50, 0, 0, 0), (2, 0, 0, 0), (54, 182, 0, 9), (2, 0, 0, 0), (1, 1, 0, 0), (1, 2, 0, 0), (54, 254, 2, 9), (2, 0, 0, 0), (1, 1, 0, 0), (54, 186, 1, 9), (50, 0, 0, 0)]
noncomputable def z_i255 : List zJ := z_dec cX12_swap 0 (z_wx [(2, [1461]), (2, [1739, 1740, 110, 1741]), (2, [1739, 1740, 110, 1741]), (5, [1727, 1729, 56, 110, 1730]), (9, [1727, 1729, 56, 110, 1730]), (6, [1637, 1639, 39, 110, 1640]), (4, [1637, 1639, 39, 110, 1640]), (4, [1637, 1639, 39, 110, 1640]), (2, [1637, 1639, 39, 110, 1640]), (5, [1727, 1729, 56, 110, 1730]), (4, [1845, 1847, 76, 110, 1848]), (3, [1858, 1860, 77, 110, 1861]), (2, [1637, 1639, 39, 110, 1640])] 1)
noncomputable def z_h255 : List (Nat × Nat × Nat × Nat × Nat × Nat × Nat) := []
noncomputable def z_m256 : zMi := (RX12, yX12_free, cX12_free, 3, some .int, [])
noncomputable def z_c256 : List zI := [(2, 0, 0, 0), (0, 0, 0, 0), (38, 9, 0, 0), (2, 0, 0, 0), (1, 1, 0, 0), (55, 197, 1, 0), (0, 0, 0, 1), (54, 176, 2, 9), (31, 21, 1, 0), (2, 0, 0, 0), (2, 0, 0, 0), (1, 1, 0, 0), (54, 186, 1, 9), (0, 0, 0, -1), (32, 17, 1, 0), (0, 0, 0, 1), (30, 18, 0, 0), (0, 0, 0, 0), (0, 0, 0, 2), (54, 176, 2, 9), (31, 23, 0, 0), (0, 0, 0, 0), (50, 0, 0, 0), (2, 0, 0, 0), (54, 182, 0, 9), (2, 0, 0, 0), (1, 1, 0, 0), (54, 186, 1, 9), (4, 2, 0, 0), (2, 0, 0, 0), (37, 9, 1, 0), (0, 0, 0, 16), (1, 1, 0, 0), (8, 0, 0, 0), (0, 0, 0, -1), (40, 0, 0, 0), (1, 2, 0, 0), (50, 0, 0, 0)]
noncomputable def z_i256 : List zJ := z_dec cX12_free 0 (z_wx [(2, [1461]), (2, [1739, 1740, 110, 1741]), (1, [1727, 1729, 56, 110, 1730]), (4, [1637, 1639, 39, 110, 1640]), (6, [1727, 1729, 56, 110, 1730]), (4, [1845, 1847, 76, 110, 1848]), (2, [1637, 1639, 39, 110, 1640]), (2, [1462])] 7)
noncomputable def z_h256 : List (Nat × Nat × Nat × Nat × Nat × Nat × Nat) := []
noncomputable def z_m257 : zMi := (RX12, yX12_isLaid, cX12_isLaid, 3, some .int, [])
noncomputable def z_c257 : List zI := [(2, 0, 0, 0), (54, 182, 0, 9), (2, 0, 0, 0), (37, 9, 1, 0), (1, 1, 0, 0), (0, 0, 0, 2), (55, 192, 2, 0), (1, 2, 0, 0), (40, 0, 0, 0), (2, 0, 0, 0), (2, 0, 0, 0), (54, 233, 0, 9), (54, 234, 1, 9), (50, 0, 0, 0)]
noncomputable def z_i257 : List zJ := z_dec cX12_isLaid 0 (z_wx [(1, [1845, 1847, 76, 110, 1848]), (1, [1462]), (2, [1664, 1665, 110, 1666]), (4, [1802, 1804, 68, 110, 1805]), (0, [1814, 1816, 71, 110, 1817])] 1)
noncomputable def z_h257 : List (Nat × Nat × Nat × Nat × Nat × Nat × Nat) := []
noncomputable def z_m258 : zMi := (RX12, yX12_leave, cX12_leave, 2, some .int, [])
noncomputable def z_c258 : List zI := [(2, 0, 0, 0), (0, 0, 0, 0), (38, 9, 0, 0), (2, 0, 0, 0), (2, 0, 0, 0), (1, 1, 0, 0), (54, 196, 1, 9), (0, 0, 0, 1), (54, 176, 2, 9), (31, 28, 1, 0), (2, 0, 0, 0), (2, 0, 0, 0), (1, 1, 0, 0), (0, 0, 0, 0), (54, 193, 2, 9), (2, 0, 0, 0), (54, 188, 0, 9), (32, 22, 1, 0), (2, 0, 0, 0), (1, 1, 0, 0), (54, 194, 1, 9), (31, 24, 0, 0), (0, 0, 0, 1), (30, 25, 0, 0), (0, 0, 0, 0), (0, 0, 0, 2), (54, 176, 2, 9), (31, 30, 0, 0), (0, 0, 0, 0), (50, 0, 0, 0), (2, 0, 0, 0), (1, 1, 0, 0), (0, 0, 0, 1), (54, 257, 2, 9), (50, 0, 0, 0)]
noncomputable def z_i258 : List zJ := z_dec cX12_leave 0 (z_wx [(2, [1461]), (3, [1833, 1835, 74, 110, 1836]), (1, [1727, 1729, 56, 110, 1730]), (5, [1810, 1812, 70, 110, 1813]), (1, [1870, 1872, 78, 110, 1873]), (3, [1806, 1808, 69, 110, 1809]), (5, [1727, 1729, 56, 110, 1730]), (6, [1874, 1876, 79, 110, 1877])] 1)
noncomputable def z_h258 : List (Nat × Nat × Nat × Nat × Nat × Nat × Nat) := []
noncomputable def z_m259 : zMi := (RX12, yX12_fetch, cX12_fetch, 2, some .int, [])
noncomputable def z_c259 : List zI := [(2, 0, 0, 0), (0, 0, 0, 0), (38, 9, 0, 0), (2, 0, 0, 0), (2, 0, 0, 0), (1, 1, 0, 0), (54, 196, 1, 9), (0, 0, 0, 1), (54, 176, 2, 9), (31, 28, 1, 0), (2, 0, 0, 0), (2, 0, 0, 0), (1, 1, 0, 0), (0, 0, 0, 0), (54, 193, 2, 9), (2, 0, 0, 0), (54, 188, 0, 9), (32, 22, 1, 0), (2, 0, 0, 0), (1, 1, 0, 0), (54, 194, 1, 9), (31, 24, 1, 0), (0, 0, 0, 1), (30, 25, 0, 0), (0, 0, 0, 0), (0, 0, 0, 2), (54, 176, 2, 9), (31, 30, 0, 0), (0, 0, 0, 0), (50, 0, 0, 0), (2, 0, 0, 0), (1, 1, 0, 0), (0, 0, 0, 0), (54, 257, 2, 9), (50, 0, 0, 0)]
noncomputable def z_i259 : List zJ := z_dec cX12_fetch 0 (z_wx [(2, [1461]), (3, [1833, 1835, 74, 110, 1836]), (1, [1727, 1729, 56, 110, 1730]), (5, [1810, 1812, 70, 110, 1813]), (1, [1870, 1872, 78, 110, 1873]), (3, [1806, 1808, 69, 110, 1809]), (5, [1727, 1729, 56, 110, 1730]), (6, [1874, 1876, 79, 110, 1877])] 1)
noncomputable def z_h259 : List (Nat × Nat × Nat × Nat × Nat × Nat × Nat) := []
noncomputable def z_m260 : zMi := (RX12, yX12_quiet, cX12_quiet, 2, some .int, [])
noncomputable def z_c260 : List zI := [(2, 0, 0, 0), (0, 0, 0, 0), (38, 9, 0, 0), (2, 0, 0, 0), (54, 188, 0, 9), (4, 1, 0, 0), (2, 0, 0, 0), (1, 1, 0, 0), (0, 0, 0, -1), (32, 24, 0, 0), (2, 0, 0, 0), (37, 9, 1, 0), (0, 0, 0, 8), (39, 0, 0, 0), (31, 24, 0, 0), (2, 0, 0, 0), (1, 1, 0, 0), (0, 0, 0, 0), (54, 190, 2, 9), (2, 0, 0, 0), (37, 9, 1, 0), (0, 0, 0, 8), (39, 0, 0, 0), (32, 26, 3, 0), (0, 0, 0, 1), (30, 27, 0, 0), (0, 0, 0, 0), (0, 0, 0, 1), (54, 176, 2, 9), (31, 32, 0, 0), (0, 0, 0, 0), (50, 0, 0, 0), (2, 0, 0, 0), (54, 182, 0, 9), (2, 0, 0, 0), (37, 9, 1, 0), (1, 1, 0, 0), (0, 0, 0, 0), (55, 189, 2, 0), (28, 0, 0, 0), (39, 0, 0, 0), (2, 0, 0, 0), (37, 9, 1, 0), (0, 0, 0, 8), (39, 0, 0, 0), (9, 0, 0, 0), (40, 0, 0, 0), (2, 0, 0, 0), (37, 9, 1, 0), (0, 0, 0, 8), (0, 0, 0, 0), (40, 0, 0, 0), (2, 0, 0, 0), (1, 1, 0, 0), (0, 0, 0, 0), (54, 190, 2, 9), (50, 0, 0, 0)]
noncomputable def z_i260 : List zJ := z_dec cX12_quiet 0 (z_wx [(2, [1461]), (1, [1870, 1872, 78, 110, 1873]), (6, [1462]), (6, [1774, 1776, 62, 110, 1777]), (1, [1462]), (7, [1727, 1729, 56, 110, 1730]), (4, [1845, 1847, 76, 110, 1848]), (1, [1462]), (2, [1627, 1628, 110, 1629]), (3, [1462]), (5, [1462]), (6, [1774, 1776, 62, 110, 1777])] 1)
noncomputable def z_h260 : List (Nat × Nat × Nat × Nat × Nat × Nat × Nat) := []
noncomputable def z_m261 : zMi := (RX12, yX12_dust, cX12_dust, 2, some .int, [])
noncomputable def z_c261 : List zI := [(2, 0, 0, 0), (0, 0, 0, 0), (38, 9, 0, 0), (2, 0, 0, 0), (54, 182, 0, 9), (2, 0, 0, 0), (37, 9, 1, 0), (0, 0, 0, 7), (39, 0, 0, 0), (4, 1, 0, 0), (2, 0, 0, 0), (37, 9, 1, 0), (0, 0, 0, 7), (0, 0, 0, 0), (40, 0, 0, 0), (1, 1, 0, 0), (50, 0, 0, 0)]
noncomputable def z_i261 : List zJ := z_dec cX12_dust 0 (z_wx [(2, [1461]), (1, [1845, 1847, 76, 110, 1848]), (1, [1462]), (4, [1462])] 5)
noncomputable def z_h261 : List (Nat × Nat × Nat × Nat × Nat × Nat × Nat) := []
noncomputable def z_m262 : zMi := (RX12, yX12_tells, cX12_tells, 5, none, [])
noncomputable def z_c262 : List zI := [(0, 0, 0, 299), (4, 4, 0, 0), (1, 4, 0, 0), (0, 0, 0, 5), (32, 21, 2, 0), (2, 0, 0, 0), (37, 9, 1, 0), (0, 0, 0, 88), (1, 4, 0, 0), (8, 0, 0, 0), (2, 0, 0, 0), (37, 9, 1, 0), (0, 0, 0, 88), (1, 4, 0, 0), (8, 0, 0, 0), (0, 0, 0, 5), (9, 0, 0, 0), (39, 0, 0, 0), (40, 0, 0, 0), (7, 4, 0, -1), (30, 2, 0, 0), (2, 0, 0, 0), (37, 9, 1, 0), (0, 0, 0, 88), (2, 0, 0, 0), (37, 9, 1, 0), (0, 0, 0, 5), (39, 0, 0, 0), (40, 0, 0, 0), (2, 0, 0, 0), (37, 9, 1, 0), (0, 0, 0, 89), (2, 0, 0, 0), (37, 9, 1, 0), (0, 0, 0, 4), (39, 0, 0, 0), (40, 0, 0, 0), (2, 0, 0, 0), (37, 9, 1, 0), (0, 0, 0, 90), (1, 1, 0, 0), (40, 0, 0, 0), (2, 0, 0, 0), (37, 9, 1, 0), (0, 0, 0, 91), (1, 2, 0, 0), (40, 0, 0, 0), (2, 0, 0, 0), (37, 9, 1, 0), (0, 0, 0, 92), (1, 3, 0, 0), (40, 0, 0, 0), (2, 0, 0, 0), (37, 9, 1, 0), (0, 0, 0, 14), (0, 0, 0, 60), (2, 0, 0, 0), (37, 9, 1, 0), (0, 0, 0, 14), (39, 0, 0, 0), (0, 0, 0, 1), (8, 0, 0, 0), (67, 0, 0, 0), (40, 0, 0, 0), (53, 0, 0, 0)]
noncomputable def z_i262 : List zJ := z_dec cX12_tells 0 (z_wx [(6, [1462]), (4, [1462]), (10, [1462]), (2, [1462]), (4, [1462]), (2, [1462]), (4, [1462]), (4, [1462]), (4, [1462]), (4, [1462]), (3, [1462]), (4, [1849])] 2)
noncomputable def z_h262 : List (Nat × Nat × Nat × Nat × Nat × Nat × Nat) := []
noncomputable def z_m263 : zMi := (RX12, yX12_visits, cX12_visits, 2, none, [])
noncomputable def z_c263 : List zI := [(2, 0, 0, 0), (0, 0, 0, 100), (54, 198, 1, 9), (2, 0, 0, 0), (37, 9, 1, 0), (0, 0, 0, 13), (39, 0, 0, 0), (32, 11, 3, 0), (1, 1, 0, 0), (0, 0, 0, -1), (32, 12, 1, 0), (53, 0, 0, 0), (2, 0, 0, 0), (37, 9, 1, 0), (0, 0, 0, 8), (0, 0, 0, 9), (2, 0, 0, 0), (37, 9, 1, 0), (0, 0, 0, 8), (39, 0, 0, 0), (0, 0, 0, 1), (8, 0, 0, 0), (67, 0, 0, 0), (40, 0, 0, 0), (2, 0, 0, 0), (37, 9, 1, 0), (0, 0, 0, 9), (1, 1, 0, 0), (40, 0, 0, 0), (2, 0, 0, 0), (1, 1, 0, 0), (0, 0, 0, 0), (2, 0, 0, 0), (37, 9, 1, 0), (0, 0, 0, 8), (39, 0, 0, 0), (54, 262, 3, 9), (53, 0, 0, 0)]
noncomputable def z_i263 : List zJ := z_dec cX12_visits 0 (z_wx [(2, [1906, 1908, 83, 110, 1909]), (1, [1462]), (8, [1462]), (3, [1462]), (4, [1849]), (2, [1462]), (7, [1462]), (2, [1911, 1913, 84, 110, 1914])] 1)
noncomputable def z_h263 : List (Nat × Nat × Nat × Nat × Nat × Nat × Nat) := []
noncomputable def z_m264 : zMi := (RX12, yX12_goesOut, cX12_goesOut, 5, some .int, [])
noncomputable def z_c264 : List zI := [(0, 0, 0, 0), (4, 2, 0, 0), (0, 0, 0, 0), (4, 3, 0, 0), (1, 3, 0, 0), (2, 0, 0, 0), (54, 185, 0, 9), (32, 52, 3, 0), (2, 0, 0, 0), (1, 3, 0, 0), (0, 0, 0, 0), (54, 193, 2, 9), (1, 1, 0, 0), (32, 50, 1, 0), (2, 0, 0, 0), (1, 3, 0, 0), (54, 194, 1, 9), (31, 19, 1, 0), (30, 50, 0, 0), (2, 0, 0, 0), (1, 3, 0, 0), (54, 241, 1, 9), (4, 4, 0, 0), (2, 0, 0, 0), (37, 9, 1, 0), (1, 1, 0, 0), (0, 0, 0, 0), (55, 189, 2, 0), (0, 0, 0, 0), (2, 0, 0, 0), (1, 1, 0, 0), (0, 0, 0, 0), (54, 190, 2, 9), (1, 4, 0, 0), (9, 0, 0, 0), (68, 0, 0, 0), (40, 0, 0, 0), (2, 0, 0, 0), (37, 9, 1, 0), (1, 3, 0, 0), (0, 0, 0, 2), (55, 192, 2, 0), (0, 0, 0, 0), (40, 0, 0, 0), (2, 0, 0, 0), (1, 1, 0, 0), (0, 0, 0, 1), (1, 4, 0, 0), (54, 262, 3, 9), (7, 2, 0, 1), (7, 3, 0, 1), (30, 4, 0, 0), (1, 2, 0, 0), (50, 0, 0, 0)]
noncomputable def z_i264 : List zJ := z_dec cX12_goesOut 0 (z_wx [(6, [1659, 1661, 44, 110, 1662]), (4, [1810, 1812, 70, 110, 1813]), (4, [1806, 1808, 69, 110, 1809]), (4, [1837, 1839, 75, 110, 1840]), (2, [1462]), (2, [1627, 1628, 110, 1629]), (4, [1774, 1776, 62, 110, 1777]), (2, [1769]), (2, [1462]), (2, [1664, 1665, 110, 1666]), (6, [1911, 1913, 84, 110, 1914])] 5)
noncomputable def z_h264 : List (Nat × Nat × Nat × Nat × Nat × Nat × Nat) := []
noncomputable def z_m265 : zMi := (RX12, yX12_oneHour, cX12_oneHour, 5, some .int, [])
noncomputable def z_c265 : List zI := [(2, 0, 0, 0), (54, 188, 0, 9), (4, 2, 0, 0), (1, 2, 0, 0), (0, 0, 0, -1), (32, 46, 0, 0), (2, 0, 0, 0), (1, 2, 0, 0), (2, 0, 0, 0), (37, 9, 1, 0), (0, 0, 0, 4), (39, 0, 0, 0), (54, 239, 2, 9), (4, 3, 0, 0), (2, 0, 0, 0), (1, 2, 0, 0), (2, 0, 0, 0), (37, 9, 1, 0), (0, 0, 0, 4), (39, 0, 0, 0), (54, 240, 2, 9), (4, 4, 0, 0), (2, 0, 0, 0), (37, 9, 1, 0), (0, 0, 0, 6), (0, 0, 0, 99), (2, 0, 0, 0), (37, 9, 1, 0), (0, 0, 0, 6), (39, 0, 0, 0), (1, 3, 0, 0), (8, 0, 0, 0), (67, 0, 0, 0), (40, 0, 0, 0), (2, 0, 0, 0), (37, 9, 1, 0), (0, 0, 0, 7), (0, 0, 0, 99), (2, 0, 0, 0), (37, 9, 1, 0), (0, 0, 0, 7), (39, 0, 0, 0), (1, 4, 0, 0), (8, 0, 0, 0), (67, 0, 0, 0), (40, 0, 0, 0), (2, 0, 0, 0), (37, 9, 1, 0), (0, 0, 0, 6), (0, 0, 0, 0), (2, 0, 0, 0), (37, 9, 1, 0), (0, 0, 0, 6), (39, 0, 0, 0), (2, 0, 0, 0), (37, 9, 1, 0), (0, 0, 0, 10), (39, 0, 0, 0), (9, 0, 0, 0), (68, 0, 0, 0), (40, 0, 0, 0), (1, 1, 0, 0), (31, 66, 1, 0), (2, 0, 0, 0), (1, 2, 0, 0), (54, 263, 1, 9), (2, 0, 0, 0), (37, 9, 1, 0), (0, 0, 0, 4), (2, 0, 0, 0), (37, 9, 1, 0), (0, 0, 0, 4), (39, 0, 0, 0), (55, 187, 1, 0), (40, 0, 0, 0), (2, 0, 0, 0), (37, 9, 1, 0), (0, 0, 0, 4), (39, 0, 0, 0), (31, 92, 1, 0), (2, 0, 0, 0), (37, 9, 1, 0), (0, 0, 0, 5), (0, 0, 0, 9999), (2, 0, 0, 0), (37, 9, 1, 0), (0, 0, 0, 5), (39, 0, 0, 0), (0, 0, 0, 1), (8, 0, 0, 0), (67, 0, 0, 0), (40, 0, 0, 0), (1, 2, 0, 0), (0, 0, 0, -1), (32, 99, 0, 0), (2, 0, 0, 0), (54, 188, 0, 9), (1, 2, 0, 0), (32, 101, 1, 0), (0, 0, 0, 0), (30, 104, 0, 0), (2, 0, 0, 0), (1, 2, 0, 0), (54, 264, 1, 9), (50, 0, 0, 0)]
noncomputable def z_i265 : List zJ := z_dec cX12_oneHour 0 (z_wx [(1, [1870, 1872, 78, 110, 1873]), (7, [1462]), (2, [1786, 1788, 64, 110, 1789]), (4, [1462]), (2, [1825, 1827, 73, 110, 1828]), (2, [1462]), (3, [1462]), (4, [1849]), (2, [1462]), (3, [1462]), (4, [1849]), (2, [1462]), (3, [1462]), (3, [1462]), (3, [1769]), (5, [1902, 1904, 82, 110, 1905]), (1, [1462]), (2, [1462]), (2, [1623, 1624, 110, 1625]), (2, [1462]), (4, [1462]), (3, [1462]), (4, [1849]), (5, [1870, 1872, 78, 110, 1873]), (6, [1915, 1917, 85, 110, 1918])] 1)
noncomputable def z_h265 : List (Nat × Nat × Nat × Nat × Nat × Nat × Nat) := []
noncomputable def z_m266 : zMi := (RX12, yX12_keepsAll, cX12_keepsAll, 2, none, [])
noncomputable def z_c266 : List zI := [(0, 0, 0, 0), (4, 1, 0, 0), (1, 1, 0, 0), (0, 0, 0, 388), (32, 15, 3, 0), (2, 0, 0, 0), (37, 9, 4, 0), (1, 1, 0, 0), (2, 0, 0, 0), (37, 9, 1, 0), (1, 1, 0, 0), (39, 0, 0, 0), (40, 0, 0, 0), (7, 1, 0, 1), (30, 2, 0, 0), (53, 0, 0, 0)]
noncomputable def z_i266 : List zJ := z_dec cX12_keepsAll 0 (z_wx [(6, [1465]), (2, [1462])] 6)
noncomputable def z_h266 : List (Nat × Nat × Nat × Nat × Nat × Nat × Nat) := []
noncomputable def z_m267 : zMi := (RX12, yX12_bringsBack, cX12_bringsBack, 2, none, [])
noncomputable def z_c267 : List zI := [(0, 0, 0, 0), (4, 1, 0, 0), (1, 1, 0, 0), (0, 0, 0, 388), (32, 15, 3, 0), (2, 0, 0, 0), (37, 9, 1, 0), (1, 1, 0, 0), (2, 0, 0, 0), (37, 9, 4, 0), (1, 1, 0, 0), (39, 0, 0, 0), (40, 0, 0, 0), (7, 1, 0, 1), (30, 2, 0, 0), (53, 0, 0, 0)]
noncomputable def z_i267 : List zJ := z_dec cX12_bringsBack 0 (z_wx [(6, [1462]), (2, [1465])] 6)
noncomputable def z_h267 : List (Nat × Nat × Nat × Nat × Nat × Nat × Nat) := []
noncomputable def z_m268 : zMi := (RX12, yX12_goesOn, cX12_goesOn, 5, some .int, [])
noncomputable def z_c268 : List zI := [(0, 0, 0, 0), (4, 3, 0, 0), (0, 0, 0, 0), (4, 4, 0, 0), (1, 4, 0, 0), (1, 1, 0, 0), (32, 15, 3, 0), (1, 3, 0, 0), (2, 0, 0, 0), (1, 2, 0, 0), (54, 265, 1, 9), (8, 0, 0, 0), (4, 3, 0, 0), (7, 4, 0, 1), (30, 4, 0, 0), (1, 3, 0, 0), (50, 0, 0, 0)]
noncomputable def z_i268 : List zJ := z_dec cX12_goesOn 0 (z_wx [(10, [1898, 1900, 81, 110, 1901])] 6)
noncomputable def z_h268 : List (Nat × Nat × Nat × Nat × Nat × Nat × Nat) := []
noncomputable def z_m269 : zMi := (RX12, yX12_hours, cX12_hours, 2, some .int, [])
noncomputable def z_c269 : List zI := [(2, 0, 0, 0), (0, 0, 0, 0), (38, 9, 0, 0), (2, 0, 0, 0), (1, 1, 0, 0), (0, 0, 0, 1), (0, 0, 0, 100), (55, 177, 3, 0), (31, 11, 1, 0), (0, 0, 0, 1), (30, 12, 0, 0), (0, 0, 0, 0), (0, 0, 0, 1), (54, 176, 2, 9), (31, 17, 0, 0), (0, 0, 0, 0), (50, 0, 0, 0), (2, 0, 0, 0), (54, 182, 0, 9), (2, 0, 0, 0), (1, 1, 0, 0), (0, 0, 0, 0), (54, 268, 2, 9), (50, 0, 0, 0)]
noncomputable def z_i269 : List zJ := z_dec cX12_hours 0 (z_wx [(2, [1461]), (4, [1742, 1743, 110, 1744]), (5, [1727, 1729, 56, 110, 1730]), (4, [1845, 1847, 76, 110, 1848]), (3, [1894, 1896, 80, 110, 1897])] 1)
noncomputable def z_h269 : List (Nat × Nat × Nat × Nat × Nat × Nat × Nat) := []
noncomputable def z_m270 : zMi := (RX12, yX12_ahead, cX12_ahead, 4, some .int, [])
noncomputable def z_c270 : List zI := [(2, 0, 0, 0), (0, 0, 0, 0), (38, 9, 0, 0), (2, 0, 0, 0), (1, 1, 0, 0), (0, 0, 0, 0), (0, 0, 0, 200), (55, 177, 3, 0), (31, 11, 1, 0), (0, 0, 0, 1), (30, 12, 0, 0), (0, 0, 0, 0), (0, 0, 0, 1), (54, 176, 2, 9), (31, 27, 1, 0), (2, 0, 0, 0), (1, 2, 0, 0), (0, 0, 0, 0), (0, 0, 0, 2), (55, 177, 3, 0), (31, 23, 1, 0), (0, 0, 0, 1), (30, 24, 0, 0), (0, 0, 0, 0), (0, 0, 0, 2), (54, 176, 2, 9), (31, 29, 0, 0), (0, 0, 0, 0), (50, 0, 0, 0), (2, 0, 0, 0), (54, 266, 0, 9), (2, 0, 0, 0), (1, 1, 0, 0), (0, 0, 0, 1), (54, 268, 2, 9), (29, 0, 0, 0), (1, 2, 0, 0), (31, 43, 1, 0), (2, 0, 0, 0), (37, 9, 1, 0), (0, 0, 0, 6), (39, 0, 0, 0), (30, 53, 0, 0), (1, 2, 0, 0), (0, 0, 0, 1), (32, 51, 1, 0), (2, 0, 0, 0), (37, 9, 1, 0), (0, 0, 0, 7), (39, 0, 0, 0), (30, 53, 0, 0), (2, 0, 0, 0), (54, 188, 0, 9), (4, 3, 0, 0), (2, 0, 0, 0), (54, 267, 0, 9), (1, 3, 0, 0), (50, 0, 0, 0)]
noncomputable def z_i270 : List zJ := z_dec cX12_ahead 0 (z_wx [(2, [1461]), (4, [1742, 1743, 110, 1744]), (5, [1727, 1729, 56, 110, 1730]), (5, [1742, 1743, 110, 1744]), (5, [1727, 1729, 56, 110, 1730]), (4, [1923, 1925, 86, 110, 1926]), (3, [1894, 1896, 80, 110, 1897]), (4, [1462]), (7, [1462]), (4, [1870, 1872, 78, 110, 1873]), (2, [1927, 1929, 87, 110, 1930])] 2)
noncomputable def z_h270 : List (Nat × Nat × Nat × Nat × Nat × Nat × Nat) := []
noncomputable def z_m271 : zMi := (RX12, yX12_dusty, cX12_dusty, 4, some .int, [])
noncomputable def z_c271 : List zI := [(2, 0, 0, 0), (0, 0, 0, 0), (38, 9, 0, 0), (2, 0, 0, 0), (1, 1, 0, 0), (0, 0, 0, 1), (0, 0, 0, 99), (55, 177, 3, 0), (31, 11, 1, 0), (0, 0, 0, 1), (30, 12, 0, 0), (0, 0, 0, 0), (0, 0, 0, 1), (54, 176, 2, 9), (31, 17, 0, 0), (0, 0, 0, 0), (50, 0, 0, 0), (0, 0, 0, -1), (4, 2, 0, 0), (2, 0, 0, 0), (54, 266, 0, 9), (0, 0, 0, 0), (4, 3, 0, 0), (1, 3, 0, 0), (0, 0, 0, 200), (32, 45, 4, 0), (1, 2, 0, 0), (0, 0, 0, -1), (32, 45, 1, 0), (2, 0, 0, 0), (37, 9, 1, 0), (0, 0, 0, 7), (39, 0, 0, 0), (1, 1, 0, 0), (32, 37, 2, 0), (1, 3, 0, 0), (30, 38, 0, 0), (0, 0, 0, -1), (4, 2, 0, 0), (2, 0, 0, 0), (0, 0, 0, 1), (54, 265, 1, 9), (29, 0, 0, 0), (7, 3, 0, 1), (30, 23, 0, 0), (2, 0, 0, 0), (54, 267, 0, 9), (1, 2, 0, 0), (50, 0, 0, 0)]
noncomputable def z_i271 : List zJ := z_dec cX12_dusty 0 (z_wx [(2, [1461]), (4, [1742, 1743, 110, 1744]), (5, [1727, 1729, 56, 110, 1730]), (6, [1923, 1925, 86, 110, 1926]), (9, [1462]), (10, [1898, 1900, 81, 110, 1901]), (4, [1927, 1929, 87, 110, 1930])] 2)
noncomputable def z_h271 : List (Nat × Nat × Nat × Nat × Nat × Nat × Nat) := []
noncomputable def z_m272 : zMi := (RX12, yX12_warmest, cX12_warmest, 5, some .int, [])
noncomputable def z_c272 : List zI := [(2, 0, 0, 0), (0, 0, 0, 0), (38, 9, 0, 0), (2, 0, 0, 0), (1, 1, 0, 0), (0, 0, 0, 1), (0, 0, 0, 200), (55, 177, 3, 0), (31, 11, 1, 0), (0, 0, 0, 1), (30, 12, 0, 0), (0, 0, 0, 0), (0, 0, 0, 1), (54, 176, 2, 9), (31, 17, 0, 0), (0, 0, 0, 0), (50, 0, 0, 0), (0, 0, 0, 0), (4, 2, 0, 0), (0, 0, 0, -1), (4, 3, 0, 0), (2, 0, 0, 0), (54, 266, 0, 9), (0, 0, 0, 0), (4, 4, 0, 0), (1, 4, 0, 0), (1, 1, 0, 0), (32, 51, 4, 0), (2, 0, 0, 0), (37, 9, 1, 0), (0, 0, 0, 6), (39, 0, 0, 0), (1, 3, 0, 0), (32, 36, 5, 0), (1, 4, 0, 0), (30, 37, 0, 0), (1, 2, 0, 0), (4, 2, 0, 0), (1, 3, 0, 0), (2, 0, 0, 0), (37, 9, 1, 0), (0, 0, 0, 6), (39, 0, 0, 0), (68, 0, 0, 0), (4, 3, 0, 0), (2, 0, 0, 0), (0, 0, 0, 1), (54, 265, 1, 9), (29, 0, 0, 0), (7, 4, 0, 1), (30, 25, 0, 0), (2, 0, 0, 0), (54, 267, 0, 9), (1, 2, 0, 0), (50, 0, 0, 0)]
noncomputable def z_i272 : List zJ := z_dec cX12_warmest 0 (z_wx [(2, [1461]), (4, [1742, 1743, 110, 1744]), (5, [1727, 1729, 56, 110, 1730]), (8, [1923, 1925, 86, 110, 1926]), (6, [1462]), (10, [1462]), (2, [1769]), (3, [1898, 1900, 81, 110, 1901]), (4, [1927, 1929, 87, 110, 1930])] 2)
noncomputable def z_h272 : List (Nat × Nat × Nat × Nat × Nat × Nat × Nat) := []
noncomputable def z_m273 : zMi := (RX12, yX12_ruin, cX12_ruin, 4, some .int, [])
noncomputable def z_c273 : List zI := [(2, 0, 0, 0), (0, 0, 0, 0), (38, 9, 0, 0), (2, 0, 0, 0), (2, 0, 0, 0), (1, 1, 0, 0), (54, 195, 1, 9), (0, 0, 0, 1), (54, 176, 2, 9), (31, 12, 0, 0), (0, 0, 0, 0), (50, 0, 0, 0), (0, 0, 0, -1), (4, 2, 0, 0), (2, 0, 0, 0), (54, 266, 0, 9), (0, 0, 0, 0), (4, 3, 0, 0), (1, 3, 0, 0), (0, 0, 0, 200), (32, 39, 4, 0), (1, 2, 0, 0), (0, 0, 0, -1), (32, 39, 1, 0), (2, 0, 0, 0), (1, 1, 0, 0), (0, 0, 0, 0), (54, 190, 2, 9), (31, 31, 1, 0), (1, 3, 0, 0), (30, 32, 0, 0), (0, 0, 0, -1), (4, 2, 0, 0), (2, 0, 0, 0), (0, 0, 0, 1), (54, 265, 1, 9), (29, 0, 0, 0), (7, 3, 0, 1), (30, 18, 0, 0), (2, 0, 0, 0), (54, 267, 0, 9), (1, 2, 0, 0), (50, 0, 0, 0)]
noncomputable def z_i273 : List zJ := z_dec cX12_ruin 0 (z_wx [(2, [1461]), (3, [1749, 1751, 57, 110, 1752]), (1, [1727, 1729, 56, 110, 1730]), (6, [1923, 1925, 86, 110, 1926]), (11, [1774, 1776, 62, 110, 1777]), (7, [1898, 1900, 81, 110, 1901]), (4, [1927, 1929, 87, 110, 1930])] 2)
noncomputable def z_h273 : List (Nat × Nat × Nat × Nat × Nat × Nat × Nat) := []
noncomputable def z_m274 : zMi := (RX12, yX12_changes, cX12_changes, 3, some .int, [])
noncomputable def z_c274 : List zI := [(2, 0, 0, 0), (0, 0, 0, 0), (38, 9, 0, 0), (0, 0, 0, 0), (4, 1, 0, 0), (0, 0, 0, 0), (4, 2, 0, 0), (1, 2, 0, 0), (0, 0, 0, 24), (32, 26, 3, 0), (1, 1, 0, 0), (2, 0, 0, 0), (1, 2, 0, 0), (54, 186, 1, 9), (2, 0, 0, 0), (1, 2, 0, 0), (55, 187, 1, 0), (54, 186, 1, 9), (32, 21, 0, 0), (0, 0, 0, 1), (30, 22, 0, 0), (0, 0, 0, 0), (8, 0, 0, 0), (4, 1, 0, 0), (7, 2, 0, 1), (30, 7, 0, 0), (1, 1, 0, 0), (50, 0, 0, 0)]
noncomputable def z_i274 : List zJ := z_dec cX12_changes 0 (z_wx [(2, [1461]), (10, [1637, 1639, 39, 110, 1640]), (2, [1623, 1624, 110, 1625]), (0, [1637, 1639, 39, 110, 1640])] 10)
noncomputable def z_h274 : List (Nat × Nat × Nat × Nat × Nat × Nat × Nat) := []
noncomputable def z_m275 : zMi := (RX12, yX12_meets, cX12_meets, 4, some .boolean, [])
noncomputable def z_c275 : List zI := [(2, 0, 0, 0), (1, 3, 0, 0), (54, 186, 1, 9), (1, 1, 0, 0), (32, 13, 1, 0), (2, 0, 0, 0), (1, 3, 0, 0), (55, 187, 1, 0), (54, 186, 1, 9), (1, 2, 0, 0), (32, 13, 1, 0), (0, 0, 0, 1), (30, 14, 0, 0), (0, 0, 0, 0), (50, 0, 0, 0)]
noncomputable def z_i275 : List zJ := z_dec cX12_meets 0 (z_wx [(2, [1637, 1639, 39, 110, 1640]), (4, [1623, 1624, 110, 1625]), (0, [1637, 1639, 39, 110, 1640])] 6)
noncomputable def z_h275 : List (Nat × Nat × Nat × Nat × Nat × Nat × Nat) := []
noncomputable def z_m276 : zMi := (RX12, yX12_metBy, cX12_metBy, 5, some .int, [])
noncomputable def z_c276 : List zI := [(0, 0, 0, 0), (4, 3, 0, 0), (0, 0, 0, 0), (4, 4, 0, 0), (1, 4, 0, 0), (0, 0, 0, 24), (32, 29, 3, 0), (1, 3, 0, 0), (2, 0, 0, 0), (1, 1, 0, 0), (1, 2, 0, 0), (1, 4, 0, 0), (54, 275, 3, 9), (31, 20, 1, 0), (2, 0, 0, 0), (1, 2, 0, 0), (1, 1, 0, 0), (1, 4, 0, 0), (54, 275, 3, 9), (31, 24, 0, 0), (0, 0, 0, 1), (1, 4, 0, 0), (13, 0, 0, 0), (30, 25, 0, 0), (0, 0, 0, 0), (17, 0, 0, 0), (4, 3, 0, 0), (7, 4, 0, 1), (30, 4, 0, 0), (1, 3, 0, 0), (50, 0, 0, 0)]
noncomputable def z_i276 : List zJ := z_dec cX12_metBy 0 (z_wx [(12, [1955, 1957, 89, 110, 1958]), (5, [1955, 1957, 89, 110, 1958])] 12)
noncomputable def z_h276 : List (Nat × Nat × Nat × Nat × Nat × Nat × Nat) := []
noncomputable def z_m277 : zMi := (RX12, yX12_met, cX12_met, 3, some .int, [])
noncomputable def z_c277 : List zI := [(2, 0, 0, 0), (0, 0, 0, 0), (38, 9, 0, 0), (2, 0, 0, 0), (2, 0, 0, 0), (1, 1, 0, 0), (54, 195, 1, 9), (31, 12, 1, 0), (2, 0, 0, 0), (1, 2, 0, 0), (54, 195, 1, 9), (31, 14, 0, 0), (0, 0, 0, 1), (30, 15, 0, 0), (0, 0, 0, 0), (0, 0, 0, 1), (54, 176, 2, 9), (31, 28, 1, 0), (2, 0, 0, 0), (1, 1, 0, 0), (1, 2, 0, 0), (32, 24, 1, 0), (0, 0, 0, 1), (30, 25, 0, 0), (0, 0, 0, 0), (0, 0, 0, 2), (54, 176, 2, 9), (31, 30, 0, 0), (0, 0, 0, 0), (30, 34, 0, 0), (2, 0, 0, 0), (1, 1, 0, 0), (1, 2, 0, 0), (54, 276, 2, 9), (50, 0, 0, 0)]
noncomputable def z_i277 : List zJ := z_dec cX12_met 0 (z_wx [(2, [1461]), (3, [1749, 1751, 57, 110, 1752]), (3, [1749, 1751, 57, 110, 1752]), (5, [1727, 1729, 56, 110, 1730]), (9, [1727, 1729, 56, 110, 1730]), (6, [1951, 1953, 88, 110, 1954])] 1)
noncomputable def z_h277 : List (Nat × Nat × Nat × Nat × Nat × Nat × Nat) := []
noncomputable def z_m278 : zMi := (RX12, yX12_lovers, cX12_lovers, 4, some .int, [])
noncomputable def z_c278 : List zI := [(2, 0, 0, 0), (0, 0, 0, 0), (38, 9, 0, 0), (0, 0, 0, 0), (4, 1, 0, 0), (0, 0, 0, 0), (4, 2, 0, 0), (1, 2, 0, 0), (2, 0, 0, 0), (54, 184, 0, 9), (32, 33, 3, 0), (0, 0, 0, 0), (4, 3, 0, 0), (1, 3, 0, 0), (1, 2, 0, 0), (32, 31, 3, 0), (1, 1, 0, 0), (2, 0, 0, 0), (1, 2, 0, 0), (1, 3, 0, 0), (54, 276, 2, 9), (55, 311, 1, 0), (0, 0, 0, 1), (32, 26, 5, 0), (0, 0, 0, 1), (30, 27, 0, 0), (0, 0, 0, 0), (8, 0, 0, 0), (4, 1, 0, 0), (7, 3, 0, 1), (30, 13, 0, 0), (7, 2, 0, 1), (30, 7, 0, 0), (1, 1, 0, 0), (50, 0, 0, 0)]
noncomputable def z_i278 : List zJ := z_dec cX12_lovers 0 (z_wx [(2, [1461]), (6, [1598, 1600, 33, 110, 1601]), (10, [1951, 1953, 88, 110, 1954]), (0, [1761, 482, 126, 483])] 13)
noncomputable def z_h278 : List (Nat × Nat × Nat × Nat × Nat × Nat × Nat) := []
noncomputable def z_m279 : zMi := (RX12, yX12_gaps, cX12_gaps, 1, some .int, [])
noncomputable def z_c279 : List zI := [(2, 0, 0, 0), (0, 0, 0, 0), (38, 9, 0, 0), (2, 0, 0, 0), (0, 0, 0, -1), (54, 242, 1, 9), (50, 0, 0, 0)]
noncomputable def z_i279 : List zJ := z_dec cX12_gaps 0 (z_wx [(2, [1461]), (2, [1753, 1755, 58, 110, 1756])] 1)
noncomputable def z_h279 : List (Nat × Nat × Nat × Nat × Nat × Nat × Nat) := []
noncomputable def z_m280 : zMi := (RX12, yX12_widows, cX12_widows, 3, some .int, [])
noncomputable def z_c280 : List zI := [(2, 0, 0, 0), (0, 0, 0, 0), (38, 9, 0, 0), (0, 0, 0, 0), (4, 1, 0, 0), (0, 0, 0, 0), (4, 2, 0, 0), (1, 2, 0, 0), (2, 0, 0, 0), (54, 184, 0, 9), (32, 26, 3, 0), (1, 1, 0, 0), (2, 0, 0, 0), (1, 2, 0, 0), (54, 243, 1, 9), (0, 0, 0, 1), (32, 21, 1, 0), (0, 0, 0, 1), (1, 2, 0, 0), (13, 0, 0, 0), (30, 22, 0, 0), (0, 0, 0, 0), (17, 0, 0, 0), (4, 1, 0, 0), (7, 2, 0, 1), (30, 7, 0, 0), (1, 1, 0, 0), (50, 0, 0, 0)]
noncomputable def z_i280 : List zJ := z_dec cX12_widows 0 (z_wx [(2, [1461]), (6, [1598, 1600, 33, 110, 1601]), (4, [1757, 1759, 59, 110, 1760])] 13)
noncomputable def z_h280 : List (Nat × Nat × Nat × Nat × Nat × Nat × Nat) := []
noncomputable def z_m281 : zMi := (RX12, yX12_fewest, cX12_fewest, 3, some .int, [])
noncomputable def z_c281 : List zI := [(2, 0, 0, 0), (0, 0, 0, 0), (38, 9, 0, 0), (2, 0, 0, 0), (0, 0, 0, -1), (54, 242, 1, 9), (31, 9, 0, 0), (0, 0, 0, 1), (30, 10, 0, 0), (0, 0, 0, 0), (4, 1, 0, 0), (0, 0, 0, 0), (4, 2, 0, 0), (1, 2, 0, 0), (2, 0, 0, 0), (54, 184, 0, 9), (32, 29, 3, 0), (1, 1, 0, 0), (2, 0, 0, 0), (1, 2, 0, 0), (54, 243, 1, 9), (31, 24, 5, 0), (0, 0, 0, 1), (30, 25, 0, 0), (0, 0, 0, 0), (8, 0, 0, 0), (4, 1, 0, 0), (7, 2, 0, 1), (30, 13, 0, 0), (1, 1, 0, 0), (0, 0, 0, 2), (32, 34, 3, 0), (0, 0, 0, 0), (30, 35, 0, 0), (1, 1, 0, 0), (50, 0, 0, 0)]
noncomputable def z_i281 : List zJ := z_dec cX12_fewest 0 (z_wx [(2, [1461]), (2, [1753, 1755, 58, 110, 1756]), (9, [1598, 1600, 33, 110, 1601]), (4, [1757, 1759, 59, 110, 1760])] 15)
noncomputable def z_h281 : List (Nat × Nat × Nat × Nat × Nat × Nat × Nat) := []
noncomputable def z_m282 : zMi := (RX12, yX12_parts, cX12_parts, 3, some .int, [])
noncomputable def z_c282 : List zI := [(1, 0, 0, 0), (0, 0, 0, 16777215), (32, 5, 1, 0), (0, 0, 0, 12), (50, 0, 0, 0), (0, 0, 0, 0), (4, 1, 0, 0), (0, 0, 0, 0), (4, 2, 0, 0), (1, 2, 0, 0), (0, 0, 0, 24), (32, 38, 3, 0), (1, 1, 0, 0), (1, 0, 0, 0), (1, 2, 0, 0), (55, 178, 2, 0), (31, 33, 0, 0), (1, 0, 0, 0), (1, 2, 0, 0), (0, 0, 0, 24), (8, 0, 0, 0), (0, 0, 0, 1), (9, 0, 0, 0), (0, 0, 0, 24), (12, 0, 0, 0), (55, 178, 2, 0), (31, 33, 1, 0), (1, 0, 0, 0), (1, 2, 0, 0), (55, 245, 2, 0), (0, 0, 0, 2), (11, 0, 0, 0), (30, 34, 0, 0), (0, 0, 0, 0), (8, 0, 0, 0), (4, 1, 0, 0), (7, 2, 0, 1), (30, 9, 0, 0), (1, 1, 0, 0), (50, 0, 0, 0)]
noncomputable def z_i282 : List zJ := z_dec cX12_parts 0 (z_wx [(1, [1982]), (13, [1634, 1635, 110, 1636]), (9, [1634, 1635, 110, 1636]), (3, [1766, 1767, 110, 1768])] 10)
noncomputable def z_h282 : List (Nat × Nat × Nat × Nat × Nat × Nat × Nat) := []
noncomputable def z_m283 : zMi := (RX12, yX12_corner, cX12_corner, 4, some .int, [])
noncomputable def z_c283 : List zI := [(2, 0, 0, 0), (0, 0, 0, 0), (38, 9, 0, 0), (2, 0, 0, 0), (2, 0, 0, 0), (1, 1, 0, 0), (54, 195, 1, 9), (0, 0, 0, 1), (54, 176, 2, 9), (31, 12, 0, 0), (0, 0, 0, 0), (50, 0, 0, 0), (0, 0, 0, 0), (4, 2, 0, 0), (0, 0, 0, 0), (4, 3, 0, 0), (1, 3, 0, 0), (2, 0, 0, 0), (54, 184, 0, 9), (32, 34, 3, 0), (1, 2, 0, 0), (1, 3, 0, 0), (1, 1, 0, 0), (32, 26, 1, 0), (0, 0, 0, 0), (30, 30, 0, 0), (2, 0, 0, 0), (1, 3, 0, 0), (54, 242, 1, 9), (55, 282, 1, 0), (8, 0, 0, 0), (4, 2, 0, 0), (7, 3, 0, 1), (30, 16, 0, 0), (1, 2, 0, 0), (50, 0, 0, 0)]
noncomputable def z_i283 : List zJ := z_dec cX12_corner 0 (z_wx [(2, [1461]), (3, [1749, 1751, 57, 110, 1752]), (1, [1727, 1729, 56, 110, 1730]), (9, [1598, 1600, 33, 110, 1601]), (9, [1753, 1755, 58, 110, 1756]), (0, [1979, 1980, 110, 1981])] 6)
noncomputable def z_h283 : List (Nat × Nat × Nat × Nat × Nat × Nat × Nat) := []
noncomputable def z_m284 : zMi := (RX12, yX12_lesson, cX12_lesson, 4, some .int, [])
noncomputable def z_c284 : List zI := [(2, 0, 0, 0), (0, 0, 0, 0), (38, 9, 0, 0), (2, 0, 0, 0), (1, 1, 0, 0), (0, 0, 0, 1), (0, 0, 0, 24), (55, 177, 3, 0), (31, 11, 1, 0), (0, 0, 0, 1), (30, 12, 0, 0), (0, 0, 0, 0), (0, 0, 0, 1), (54, 176, 2, 9), (31, 17, 0, 0), (0, 0, 0, 0), (50, 0, 0, 0), (0, 0, 0, 0), (4, 2, 0, 0), (1, 2, 0, 0), (0, 0, 0, 24), (32, 46, 3, 0), (0, 0, 0, 0), (4, 3, 0, 0), (1, 3, 0, 0), (2, 0, 0, 0), (54, 184, 0, 9), (32, 44, 3, 0), (2, 0, 0, 0), (1, 3, 0, 0), (54, 242, 1, 9), (2, 0, 0, 0), (1, 3, 0, 0), (0, 0, 0, 3), (54, 190, 2, 9), (16, 0, 0, 0), (1, 2, 0, 0), (55, 245, 2, 0), (1, 1, 0, 0), (32, 42, 2, 0), (1, 2, 0, 0), (50, 0, 0, 0), (7, 3, 0, 1), (30, 24, 0, 0), (7, 2, 0, 1), (30, 19, 0, 0), (0, 0, 0, -1), (50, 0, 0, 0)]
noncomputable def z_i284 : List zJ := z_dec cX12_lesson 0 (z_wx [(2, [1461]), (4, [1742, 1743, 110, 1744]), (5, [1727, 1729, 56, 110, 1730]), (12, [1598, 1600, 33, 110, 1601]), (3, [1753, 1755, 58, 110, 1756]), (3, [1774, 1776, 62, 110, 1777]), (2, [1766, 1767, 110, 1768])] 10)
noncomputable def z_h284 : List (Nat × Nat × Nat × Nat × Nat × Nat × Nat) := []
noncomputable def z_m285 : zMi := (RX12, yX12_looksFor, cX12_looksFor, 4, some .int, [])
noncomputable def z_c285 : List zI := [(0, 0, 0, 0), (4, 3, 0, 0), (1, 3, 0, 0), (2, 0, 0, 0), (54, 184, 0, 9), (32, 47, 3, 0), (2, 0, 0, 0), (37, 9, 22, 0), (1, 3, 0, 0), (55, 178, 2, 0), (31, 45, 1, 0), (2, 0, 0, 0), (1, 3, 0, 0), (1, 1, 0, 0), (54, 191, 2, 9), (31, 17, 1, 0), (30, 45, 0, 0), (2, 0, 0, 0), (27, 0, 0, 0), (37, 9, 22, 0), (0, 0, 0, 1), (1, 3, 0, 0), (13, 0, 0, 0), (17, 0, 0, 0), (38, 9, 22, 0), (2, 0, 0, 0), (37, 9, 20, 0), (1, 3, 0, 0), (1, 1, 0, 0), (40, 0, 0, 0), (2, 0, 0, 0), (37, 9, 21, 0), (1, 3, 0, 0), (1, 2, 0, 0), (40, 0, 0, 0), (2, 0, 0, 0), (37, 9, 19, 0), (1, 3, 0, 0), (39, 0, 0, 0), (2, 0, 0, 0), (1, 3, 0, 0), (54, 243, 1, 9), (32, 45, 3, 0), (1, 3, 0, 0), (50, 0, 0, 0), (7, 3, 0, 1), (30, 2, 0, 0), (0, 0, 0, -1), (50, 0, 0, 0)]
noncomputable def z_i285 : List zJ := z_dec cX12_looksFor 0 (z_wx [(4, [1598, 1600, 33, 110, 1601]), (2, [1483]), (1, [1634, 1635, 110, 1636]), (4, [1821, 1823, 72, 110, 1824]), (4, [1483]), (4, [1483]), (1, [1481]), (4, [1482]), (4, [1480]), (4, [1757, 1759, 59, 110, 1760])] 7)
noncomputable def z_h285 : List (Nat × Nat × Nat × Nat × Nat × Nat × Nat) := []
noncomputable def z_m286 : zMi := (RX12, yX12_findsRoom, cX12_findsRoom, 5, some .int, [])
noncomputable def z_c286 : List zI := [(2, 0, 0, 0), (0, 0, 0, 0), (38, 9, 22, 0), (2, 0, 0, 0), (1, 1, 0, 0), (0, 0, 0, -1), (54, 285, 2, 9), (4, 2, 0, 0), (0, 0, 0, 0), (4, 3, 0, 0), (1, 3, 0, 0), (0, 0, 0, 6), (32, 50, 3, 0), (1, 2, 0, 0), (0, 0, 0, -1), (32, 50, 1, 0), (0, 0, 0, 0), (4, 4, 0, 0), (1, 4, 0, 0), (0, 0, 0, 24), (32, 48, 3, 0), (1, 2, 0, 0), (0, 0, 0, -1), (32, 48, 1, 0), (2, 0, 0, 0), (37, 9, 18, 0), (1, 4, 0, 0), (39, 0, 0, 0), (0, 0, 0, -1), (32, 46, 0, 0), (2, 0, 0, 0), (37, 9, 22, 0), (2, 0, 0, 0), (37, 9, 18, 0), (1, 4, 0, 0), (39, 0, 0, 0), (55, 178, 2, 0), (31, 46, 0, 0), (2, 0, 0, 0), (1, 4, 0, 0), (2, 0, 0, 0), (37, 9, 18, 0), (1, 4, 0, 0), (39, 0, 0, 0), (54, 285, 2, 9), (4, 2, 0, 0), (7, 4, 0, 1), (30, 18, 0, 0), (7, 3, 0, 1), (30, 10, 0, 0), (1, 2, 0, 0), (50, 0, 0, 0)]
noncomputable def z_i286 : List zJ := z_dec cX12_findsRoom 0 (z_wx [(2, [1483]), (3, [1999, 2001, 92, 110, 2002]), (18, [1479]), (5, [1483]), (1, [1479]), (2, [1634, 1635, 110, 1636]), (4, [1479]), (2, [1999, 2001, 92, 110, 2002])] 7)
noncomputable def z_h286 : List (Nat × Nat × Nat × Nat × Nat × Nat × Nat) := []
noncomputable def z_m287 : zMi := (RX12, yX12_isDealt, cX12_isDealt, 4, some .boolean, [])
noncomputable def z_c287 : List zI := [(2, 0, 0, 0), (1, 1, 0, 0), (54, 286, 1, 9), (4, 2, 0, 0), (1, 2, 0, 0), (0, 0, 0, -1), (32, 9, 1, 0), (0, 0, 0, 0), (50, 0, 0, 0), (2, 0, 0, 0), (37, 9, 19, 0), (1, 2, 0, 0), (28, 0, 0, 0), (39, 0, 0, 0), (0, 0, 0, 1), (8, 0, 0, 0), (40, 0, 0, 0), (1, 2, 0, 0), (0, 0, 0, -1), (32, 36, 0, 0), (2, 0, 0, 0), (37, 9, 20, 0), (1, 2, 0, 0), (39, 0, 0, 0), (4, 3, 0, 0), (2, 0, 0, 0), (37, 9, 18, 0), (1, 3, 0, 0), (1, 2, 0, 0), (40, 0, 0, 0), (2, 0, 0, 0), (37, 9, 21, 0), (1, 2, 0, 0), (39, 0, 0, 0), (4, 2, 0, 0), (30, 17, 0, 0), (0, 0, 0, 1), (50, 0, 0, 0)]
noncomputable def z_i287 : List zJ := z_dec cX12_isDealt 0 (z_wx [(2, [1995, 1997, 91, 110, 1998]), (7, [1480]), (10, [1481]), (4, [1479]), (4, [1482])] 6)
noncomputable def z_h287 : List (Nat × Nat × Nat × Nat × Nat × Nat × Nat) := []
noncomputable def z_m288 : zMi := (RX12, yX12_deal, cX12_deal, 3, some .int, [])
noncomputable def z_c288 : List zI := [(2, 0, 0, 0), (0, 0, 0, 0), (38, 9, 0, 0), (0, 0, 0, 0), (4, 1, 0, 0), (1, 1, 0, 0), (0, 0, 0, 24), (32, 15, 3, 0), (2, 0, 0, 0), (37, 9, 18, 0), (1, 1, 0, 0), (0, 0, 0, -1), (40, 0, 0, 0), (7, 1, 0, 1), (30, 5, 0, 0), (0, 0, 0, 0), (4, 1, 0, 0), (1, 1, 0, 0), (0, 0, 0, 6), (32, 27, 3, 0), (2, 0, 0, 0), (37, 9, 19, 0), (1, 1, 0, 0), (0, 0, 0, 0), (40, 0, 0, 0), (7, 1, 0, 1), (30, 17, 0, 0), (0, 0, 0, 0), (4, 1, 0, 0), (0, 0, 0, 0), (4, 2, 0, 0), (1, 2, 0, 0), (0, 0, 0, 24), (32, 46, 3, 0), (1, 1, 0, 0), (2, 0, 0, 0), (1, 2, 0, 0), (54, 287, 1, 9), (31, 41, 0, 0), (0, 0, 0, 1), (30, 42, 0, 0), (0, 0, 0, 0), (8, 0, 0, 0), (4, 1, 0, 0), (7, 2, 0, 1), (30, 31, 0, 0), (1, 1, 0, 0), (50, 0, 0, 0)]
noncomputable def z_i288 : List zJ := z_dec cX12_deal 0 (z_wx [(2, [1461]), (6, [1479]), (11, [1480]), (15, [1991, 1993, 90, 110, 1994])] 10)
noncomputable def z_h288 : List (Nat × Nat × Nat × Nat × Nat × Nat × Nat) := []
noncomputable def z_m289 : zMi := (RX12, yX12_gladder, cX12_gladder, 4, some .int, [])
noncomputable def z_c289 : List zI := [(2, 0, 0, 0), (1, 1, 0, 0), (1, 2, 0, 0), (54, 191, 2, 9), (31, 7, 0, 0), (0, 0, 0, 1), (30, 8, 0, 0), (0, 0, 0, 0), (2, 0, 0, 0), (1, 1, 0, 0), (1, 3, 0, 0), (54, 191, 2, 9), (31, 15, 0, 0), (0, 0, 0, 1), (30, 16, 0, 0), (0, 0, 0, 0), (9, 0, 0, 0), (50, 0, 0, 0)]
noncomputable def z_i289 : List zJ := z_dec cX12_gladder 0 (z_wx [(3, [1821, 1823, 72, 110, 1824]), (7, [1821, 1823, 72, 110, 1824])] 6)
noncomputable def z_h289 : List (Nat × Nat × Nat × Nat × Nat × Nat × Nat) := []
noncomputable def z_m290 : zMi := (RX12, yX12_trade, cX12_trade, 8, some .int, [])
noncomputable def z_c290 : List zI := [(2, 0, 0, 0), (0, 0, 0, 0), (38, 9, 0, 0), (0, 0, 0, -1), (4, 1, 0, 0), (0, 0, 0, 0), (4, 2, 0, 0), (0, 0, 0, 0), (4, 3, 0, 0), (1, 3, 0, 0), (0, 0, 0, 24), (32, 80, 3, 0), (1, 3, 0, 0), (0, 0, 0, 1), (8, 0, 0, 0), (4, 4, 0, 0), (1, 4, 0, 0), (0, 0, 0, 24), (32, 78, 3, 0), (2, 0, 0, 0), (1, 3, 0, 0), (54, 186, 1, 9), (4, 5, 0, 0), (2, 0, 0, 0), (1, 4, 0, 0), (54, 186, 1, 9), (4, 6, 0, 0), (1, 5, 0, 0), (0, 0, 0, -1), (32, 76, 0, 0), (1, 6, 0, 0), (0, 0, 0, -1), (32, 76, 0, 0), (1, 5, 0, 0), (1, 6, 0, 0), (32, 76, 0, 0), (2, 0, 0, 0), (1, 5, 0, 0), (1, 4, 0, 0), (1, 3, 0, 0), (54, 289, 3, 9), (31, 76, 2, 0), (2, 0, 0, 0), (1, 6, 0, 0), (1, 3, 0, 0), (1, 4, 0, 0), (54, 289, 3, 9), (31, 49, 3, 0), (30, 76, 0, 0), (2, 0, 0, 0), (1, 5, 0, 0), (1, 4, 0, 0), (1, 3, 0, 0), (54, 289, 3, 9), (2, 0, 0, 0), (1, 6, 0, 0), (1, 3, 0, 0), (1, 4, 0, 0), (54, 289, 3, 9), (8, 0, 0, 0), (4, 7, 0, 0), (1, 7, 0, 0), (1, 2, 0, 0), (32, 70, 5, 0), (0, 0, 0, 24), (1, 3, 0, 0), (10, 0, 0, 0), (1, 4, 0, 0), (8, 0, 0, 0), (30, 71, 0, 0), (1, 1, 0, 0), (4, 1, 0, 0), (1, 2, 0, 0), (1, 7, 0, 0), (68, 0, 0, 0), (4, 2, 0, 0), (7, 4, 0, 1), (30, 16, 0, 0), (7, 3, 0, 1), (30, 9, 0, 0), (1, 1, 0, 0), (50, 0, 0, 0)]
noncomputable def z_i290 : List zJ := z_dec cX12_trade 0 (z_wx [(2, [1461]), (18, [1637, 1639, 39, 110, 1640]), (3, [1637, 1639, 39, 110, 1640]), (14, [2007, 2009, 93, 110, 2010]), (5, [2007, 2009, 93, 110, 2010]), (6, [2007, 2009, 93, 110, 2010]), (4, [2007, 2009, 93, 110, 2010]), (15, [1769])] 7)
noncomputable def z_h290 : List (Nat × Nat × Nat × Nat × Nat × Nat × Nat) := []
noncomputable def z_m291 : zMi := (RX12, yX12_worthOf, cX12_worthOf, 6, some .int, [])
noncomputable def z_c291 : List zI := [(0, 0, 0, 0), (4, 2, 0, 0), (0, 0, 0, 0), (4, 3, 0, 0), (1, 3, 0, 0), (0, 0, 0, 24), (32, 59, 3, 0), (2, 0, 0, 0), (1, 3, 0, 0), (54, 186, 1, 9), (0, 0, 0, -1), (32, 57, 0, 0), (1, 1, 0, 0), (2, 0, 0, 0), (1, 3, 0, 0), (54, 186, 1, 9), (55, 178, 2, 0), (31, 19, 1, 0), (30, 57, 0, 0), (0, 0, 0, 0), (4, 4, 0, 0), (0, 0, 0, 0), (4, 5, 0, 0), (1, 5, 0, 0), (2, 0, 0, 0), (54, 184, 0, 9), (32, 44, 3, 0), (1, 4, 0, 0), (31, 38, 1, 0), (1, 1, 0, 0), (1, 5, 0, 0), (55, 178, 2, 0), (31, 40, 0, 0), (2, 0, 0, 0), (1, 5, 0, 0), (1, 3, 0, 0), (54, 191, 2, 9), (31, 40, 0, 0), (0, 0, 0, 1), (30, 41, 0, 0), (0, 0, 0, 0), (4, 4, 0, 0), (7, 5, 0, 1), (30, 23, 0, 0), (1, 2, 0, 0), (1, 3, 0, 0), (55, 235, 1, 0), (31, 50, 0, 0), (0, 0, 0, 3), (30, 55, 0, 0), (1, 4, 0, 0), (31, 54, 0, 0), (0, 0, 0, 2), (30, 55, 0, 0), (0, 0, 0, 1), (8, 0, 0, 0), (4, 2, 0, 0), (7, 3, 0, 1), (30, 4, 0, 0), (1, 2, 0, 0), (50, 0, 0, 0)]
noncomputable def z_i291 : List zJ := z_dec cX12_worthOf 0 (z_wx [(9, [1637, 1639, 39, 110, 1640]), (5, [1637, 1639, 39, 110, 1640]), (0, [1634, 1635, 110, 1636]), (8, [1598, 1600, 33, 110, 1601]), (5, [1634, 1635, 110, 1636]), (4, [1821, 1823, 72, 110, 1824]), (9, [1818, 1819, 110, 1820])] 14)
noncomputable def z_h291 : List (Nat × Nat × Nat × Nat × Nat × Nat × Nat) := []
noncomputable def z_m292 : zMi := (RX12, yX12_everybody, cX12_everybody, 1, some .int, [])
noncomputable def z_c292 : List zI := [(0, 0, 0, 1), (2, 0, 0, 0), (54, 184, 0, 9), (13, 0, 0, 0), (0, 0, 0, 1), (9, 0, 0, 0), (50, 0, 0, 0)]
noncomputable def z_i292 : List zJ := z_dec cX12_everybody 0 (z_wx [(2, [1598, 1600, 33, 110, 1601])] 4)
noncomputable def z_h292 : List (Nat × Nat × Nat × Nat × Nat × Nat × Nat) := []
noncomputable def z_m293 : zMi := (RX12, yX12_worth, cX12_worth, 2, some .int, [])
noncomputable def z_c293 : List zI := [(2, 0, 0, 0), (0, 0, 0, 0), (38, 9, 0, 0), (2, 0, 0, 0), (1, 1, 0, 0), (2, 0, 0, 0), (54, 292, 0, 9), (16, 0, 0, 0), (54, 291, 1, 9), (50, 0, 0, 0)]
noncomputable def z_i293 : List zJ := z_dec cX12_worth 0 (z_wx [(2, [1461]), (3, [2015, 2017, 94, 110, 2018]), (1, [2019, 2021, 95, 110, 2022])] 1)
noncomputable def z_h293 : List (Nat × Nat × Nat × Nat × Nat × Nat × Nat) := []
noncomputable def z_m294 : zMi := (RX12, yX12_ordersOf, cX12_ordersOf, 3, some .int, [])
noncomputable def z_c294 : List zI := [(0, 0, 0, 1), (4, 1, 0, 0), (0, 0, 0, 2), (4, 2, 0, 0), (1, 2, 0, 0), (1, 0, 0, 0), (32, 13, 4, 0), (1, 1, 0, 0), (1, 2, 0, 0), (10, 0, 0, 0), (4, 1, 0, 0), (7, 2, 0, 1), (30, 4, 0, 0), (1, 1, 0, 0), (50, 0, 0, 0)]
noncomputable def z_i294 : List zJ := z_dec cX12_ordersOf 0 (z_wx [] 15)
noncomputable def z_h294 : List (Nat × Nat × Nat × Nat × Nat × Nat × Nat) := []
noncomputable def z_m295 : zMi := (RX12, yX12_part, cX12_part, 10, some .int, [])
noncomputable def z_c295 : List zI := [(2, 0, 0, 0), (0, 0, 0, 0), (38, 9, 0, 0), (2, 0, 0, 0), (2, 0, 0, 0), (1, 1, 0, 0), (54, 195, 1, 9), (0, 0, 0, 1), (54, 176, 2, 9), (31, 22, 1, 0), (2, 0, 0, 0), (1, 2, 0, 0), (0, 0, 0, 0), (0, 0, 0, 999), (55, 177, 3, 0), (31, 18, 1, 0), (0, 0, 0, 1), (30, 19, 0, 0), (0, 0, 0, 0), (0, 0, 0, 2), (54, 176, 2, 9), (31, 24, 0, 0), (0, 0, 0, 0), (50, 0, 0, 0), (2, 0, 0, 0), (2, 0, 0, 0), (54, 292, 0, 9), (54, 291, 1, 9), (4, 3, 0, 0), (1, 3, 0, 0), (31, 33, 1, 0), (0, 0, 0, 0), (50, 0, 0, 0), (25, 0, 0, 0), (6, 4, 0, 0), (0, 0, 0, 0), (4, 6, 0, 0), (1, 6, 0, 0), (2, 0, 0, 0), (54, 292, 0, 9), (32, 81, 4, 0), (1, 6, 0, 0), (1, 1, 0, 0), (55, 178, 2, 0), (31, 46, 0, 0), (30, 79, 0, 0), (1, 6, 0, 0), (55, 311, 1, 0), (4, 7, 0, 0), (1, 7, 0, 0), (55, 294, 1, 0), (19, 0, 0, 0), (2, 0, 0, 0), (54, 184, 0, 9), (0, 0, 0, 1), (9, 0, 0, 0), (1, 7, 0, 0), (9, 0, 0, 0), (55, 294, 1, 0), (19, 0, 0, 0), (23, 0, 0, 0), (6, 8, 0, 0), (3, 4, 0, 0), (3, 8, 0, 0), (2, 0, 0, 0), (1, 6, 0, 0), (0, 0, 0, 1), (1, 1, 0, 0), (13, 0, 0, 0), (17, 0, 0, 0), (54, 291, 1, 9), (2, 0, 0, 0), (1, 6, 0, 0), (54, 291, 1, 9), (9, 0, 0, 0), (19, 0, 0, 0), (23, 0, 0, 0), (22, 0, 0, 0), (6, 4, 0, 0), (7, 6, 0, 1), (30, 37, 0, 0), (0, 0, 0, 100), (1, 2, 0, 0), (10, 0, 0, 0), (19, 0, 0, 0), (3, 4, 0, 0), (23, 0, 0, 0), (2, 0, 0, 0), (54, 184, 0, 9), (55, 294, 1, 0), (19, 0, 0, 0), (1, 3, 0, 0), (19, 0, 0, 0), (23, 0, 0, 0), (24, 0, 0, 0), (20, 0, 0, 0), (50, 0, 0, 0)]
noncomputable def z_i295 : List zJ := z_dec cX12_part 0 (z_wx [(2, [1461]), (3, [1749, 1751, 57, 110, 1752]), (1, [1727, 1729, 56, 110, 1730]), (5, [1742, 1743, 110, 1744]), (5, [1727, 1729, 56, 110, 1730]), (5, [2015, 2017, 94, 110, 2018]), (0, [2019, 2021, 95, 110, 2022]), (11, [2015, 2017, 94, 110, 2018]), (3, [1634, 1635, 110, 1636]), (3, [1761, 482, 126, 483]), (2, [2027, 2028, 110, 2029]), (2, [1598, 1600, 33, 110, 1601]), (4, [2027, 2028, 110, 2029]), (11, [2019, 2021, 95, 110, 2022]), (2, [2019, 2021, 95, 110, 2022]), (14, [1598, 1600, 33, 110, 1601]), (0, [2027, 2028, 110, 2029])] 7)
noncomputable def z_h295 : List (Nat × Nat × Nat × Nat × Nat × Nat × Nat) := []
noncomputable def z_m296 : zMi := (RX12, yX12_hasBy, cX12_hasBy, 5, some .int, [])
noncomputable def z_c296 : List zI := [(1, 3, 0, 0), (1, 4, 0, 0), (32, 5, 4, 0), (0, 0, 0, 0), (30, 22, 0, 0), (2, 0, 0, 0), (1, 1, 0, 0), (1, 2, 0, 0), (54, 191, 2, 9), (31, 12, 0, 0), (0, 0, 0, 30), (30, 13, 0, 0), (0, 0, 0, 15), (2, 0, 0, 0), (37, 9, 1, 0), (0, 0, 0, 12), (39, 0, 0, 0), (1, 3, 0, 0), (0, 0, 0, 1), (8, 0, 0, 0), (10, 0, 0, 0), (9, 0, 0, 0), (50, 0, 0, 0)]
noncomputable def z_i296 : List zJ := z_dec cX12_hasBy 0 (z_wx [(8, [1821, 1823, 72, 110, 1824]), (5, [1462])] 8)
noncomputable def z_h296 : List (Nat × Nat × Nat × Nat × Nat × Nat × Nat) := []
noncomputable def z_m297 : zMi := (RX12, yX12_bids, cX12_bids, 9, some .int, [])
noncomputable def z_c297 : List zI := [(2, 0, 0, 0), (0, 0, 0, 0), (38, 9, 0, 0), (2, 0, 0, 0), (2, 0, 0, 0), (1, 1, 0, 0), (54, 195, 1, 9), (31, 15, 1, 0), (2, 0, 0, 0), (1, 2, 0, 0), (54, 195, 1, 9), (31, 15, 1, 0), (1, 3, 0, 0), (55, 197, 1, 0), (31, 17, 0, 0), (0, 0, 0, 1), (30, 18, 0, 0), (0, 0, 0, 0), (0, 0, 0, 1), (54, 176, 2, 9), (31, 31, 1, 0), (2, 0, 0, 0), (1, 1, 0, 0), (1, 2, 0, 0), (32, 27, 1, 0), (0, 0, 0, 1), (30, 28, 0, 0), (0, 0, 0, 0), (0, 0, 0, 2), (54, 176, 2, 9), (31, 33, 0, 0), (0, 0, 0, 0), (50, 0, 0, 0), (0, 0, 0, 0), (4, 4, 0, 0), (0, 0, 0, 0), (4, 5, 0, 0), (1, 5, 0, 0), (0, 0, 0, 2), (32, 103, 3, 0), (0, 0, 0, 0), (4, 6, 0, 0), (1, 6, 0, 0), (0, 0, 0, 2), (32, 101, 3, 0), (2, 0, 0, 0), (1, 1, 0, 0), (1, 3, 0, 0), (1, 5, 0, 0), (1, 6, 0, 0), (54, 296, 4, 9), (2, 0, 0, 0), (1, 1, 0, 0), (1, 3, 0, 0), (0, 0, 0, 1), (1, 5, 0, 0), (9, 0, 0, 0), (1, 6, 0, 0), (54, 296, 4, 9), (32, 62, 2, 0), (0, 0, 0, 1), (30, 63, 0, 0), (0, 0, 0, 0), (4, 7, 0, 0), (2, 0, 0, 0), (1, 2, 0, 0), (1, 3, 0, 0), (1, 6, 0, 0), (1, 5, 0, 0), (54, 296, 4, 9), (2, 0, 0, 0), (1, 2, 0, 0), (1, 3, 0, 0), (0, 0, 0, 1), (1, 6, 0, 0), (9, 0, 0, 0), (1, 5, 0, 0), (54, 296, 4, 9), (32, 81, 2, 0), (0, 0, 0, 1), (30, 82, 0, 0), (0, 0, 0, 0), (4, 8, 0, 0), (1, 4, 0, 0), (1, 7, 0, 0), (31, 96, 0, 0), (1, 8, 0, 0), (31, 96, 0, 0), (0, 0, 0, 1), (0, 0, 0, 2), (1, 5, 0, 0), (10, 0, 0, 0), (1, 6, 0, 0), (8, 0, 0, 0), (13, 0, 0, 0), (30, 97, 0, 0), (0, 0, 0, 0), (17, 0, 0, 0), (4, 4, 0, 0), (7, 6, 0, 1), (30, 42, 0, 0), (7, 5, 0, 1), (30, 37, 0, 0), (1, 4, 0, 0), (50, 0, 0, 0)]
noncomputable def z_i297 : List zJ := z_dec cX12_bids 0 (z_wx [(2, [1461]), (3, [1749, 1751, 57, 110, 1752]), (3, [1749, 1751, 57, 110, 1752]), (2, [1739, 1740, 110, 1741]), (5, [1727, 1729, 56, 110, 1730]), (9, [1727, 1729, 56, 110, 1730]), (20, [2034, 2036, 96, 110, 2037]), (7, [2034, 2036, 96, 110, 2037]), (10, [2034, 2036, 96, 110, 2037]), (7, [2034, 2036, 96, 110, 2037])] 27)
noncomputable def z_h297 : List (Nat × Nat × Nat × Nat × Nat × Nat × Nat) := []
noncomputable def z_m298 : zMi := (RX12, yX12_familiesOf, cX12_familiesOf, 4, some .int, [])
noncomputable def z_c298 : List zI := [(0, 0, 0, 0), (4, 2, 0, 0), (0, 0, 0, 0), (4, 3, 0, 0), (1, 3, 0, 0), (2, 0, 0, 0), (54, 184, 0, 9), (32, 24, 3, 0), (1, 2, 0, 0), (2, 0, 0, 0), (1, 3, 0, 0), (0, 0, 0, 1), (54, 190, 2, 9), (1, 1, 0, 0), (32, 19, 1, 0), (0, 0, 0, 1), (1, 3, 0, 0), (13, 0, 0, 0), (30, 20, 0, 0), (0, 0, 0, 0), (17, 0, 0, 0), (4, 2, 0, 0), (7, 3, 0, 1), (30, 4, 0, 0), (1, 2, 0, 0), (50, 0, 0, 0)]
noncomputable def z_i298 : List zJ := z_dec cX12_familiesOf 0 (z_wx [(6, [1598, 1600, 33, 110, 1601]), (5, [1774, 1776, 62, 110, 1777])] 13)
noncomputable def z_h298 : List (Nat × Nat × Nat × Nat × Nat × Nat × Nat) := []
noncomputable def z_m299 : zMi := (RX12, yX12_who, cX12_who, 6, some .int, [])
noncomputable def z_c299 : List zI := [(2, 0, 0, 0), (54, 210, 0, 9), (2, 0, 0, 0), (37, 9, 11, 0), (0, 0, 0, 20), (32, 8, 4, 0), (0, 0, 0, 1), (30, 9, 0, 0), (0, 0, 0, 0), (4, 2, 0, 0), (0, 0, 0, 0), (4, 3, 0, 0), (1, 3, 0, 0), (2, 0, 0, 0), (37, 9, 11, 0), (32, 28, 3, 0), (1, 2, 0, 0), (31, 28, 0, 0), (2, 0, 0, 0), (37, 9, 8, 0), (1, 3, 0, 0), (41, 0, 0, 0), (0, 0, 0, 0), (0, 0, 0, 9), (55, 177, 3, 0), (4, 2, 0, 0), (7, 3, 0, 1), (30, 12, 0, 0), (2, 0, 0, 0), (1, 2, 0, 0), (31, 33, 1, 0), (0, 0, 0, 1), (30, 34, 0, 0), (0, 0, 0, 0), (0, 0, 0, 1), (54, 176, 2, 9), (31, 39, 0, 0), (0, 0, 0, 0), (50, 0, 0, 0), (2, 0, 0, 0), (54, 292, 0, 9), (4, 3, 0, 0), (0, 0, 0, 1), (4, 4, 0, 0), (0, 0, 0, 0), (4, 5, 0, 0), (1, 5, 0, 0), (2, 0, 0, 0), (37, 9, 11, 0), (32, 73, 3, 0), (1, 3, 0, 0), (2, 0, 0, 0), (2, 0, 0, 0), (37, 9, 8, 0), (1, 5, 0, 0), (41, 0, 0, 0), (54, 298, 1, 9), (16, 0, 0, 0), (4, 3, 0, 0), (0, 0, 0, 10000), (1, 4, 0, 0), (67, 0, 0, 0), (2, 0, 0, 0), (2, 0, 0, 0), (37, 9, 8, 0), (1, 5, 0, 0), (41, 0, 0, 0), (54, 298, 1, 9), (55, 311, 1, 0), (10, 0, 0, 0), (4, 4, 0, 0), (7, 5, 0, 1), (30, 46, 0, 0), (1, 1, 0, 0), (31, 79, 0, 0), (0, 0, 0, 9999), (1, 4, 0, 0), (67, 0, 0, 0), (30, 80, 0, 0), (1, 3, 0, 0), (50, 0, 0, 0)]
noncomputable def z_i299 : List zJ := z_dec cX12_who 0 (z_wx [(1, [1563, 1565, 25, 110, 1566]), (1, [1472]), (10, [1472]), (4, [1469]), (4, [1742, 1743, 110, 1744]), (10, [1727, 1729, 56, 110, 1730]), (4, [2015, 2017, 94, 110, 2018]), (7, [1472]), (4, [1469]), (2, [2042, 2044, 97, 110, 2045]), (4, [1849]), (2, [1469]), (2, [2042, 2044, 97, 110, 2045]), (0, [1761, 482, 126, 483]), (8, [1849])] 3)
noncomputable def z_h299 : List (Nat × Nat × Nat × Nat × Nat × Nat × Nat) := []
noncomputable def z_m300 : zMi := (RX12, yX12_common, cX12_common, 3, some .int, [])
noncomputable def z_c300 : List zI := [(2, 0, 0, 0), (0, 0, 0, 0), (38, 9, 0, 0), (0, 0, 0, 0), (4, 1, 0, 0), (0, 0, 0, 1), (4, 2, 0, 0), (1, 2, 0, 0), (0, 0, 0, 9), (32, 25, 4, 0), (2, 0, 0, 0), (1, 2, 0, 0), (54, 298, 1, 9), (55, 311, 1, 0), (2, 0, 0, 0), (1, 1, 0, 0), (54, 298, 1, 9), (55, 311, 1, 0), (32, 21, 5, 0), (1, 2, 0, 0), (30, 22, 0, 0), (1, 1, 0, 0), (4, 1, 0, 0), (7, 2, 0, 1), (30, 7, 0, 0), (1, 1, 0, 0), (50, 0, 0, 0)]
noncomputable def z_i300 : List zJ := z_dec cX12_common 0 (z_wx [(2, [1461]), (9, [2042, 2044, 97, 110, 2045]), (0, [1761, 482, 126, 483]), (2, [2042, 2044, 97, 110, 2045]), (0, [1761, 482, 126, 483])] 9)
noncomputable def z_h300 : List (Nat × Nat × Nat × Nat × Nat × Nat × Nat) := []
noncomputable def z_m301 : zMi := (RX12, yX12_rich, cX12_rich, 5, some .int, [])
noncomputable def z_c301 : List zI := [(2, 0, 0, 0), (0, 0, 0, 0), (38, 9, 0, 0), (0, 0, 0, -1), (4, 1, 0, 0), (0, 0, 0, -1), (4, 2, 0, 0), (0, 0, 0, 0), (4, 3, 0, 0), (1, 3, 0, 0), (2, 0, 0, 0), (54, 184, 0, 9), (32, 40, 3, 0), (2, 0, 0, 0), (1, 3, 0, 0), (0, 0, 0, 0), (54, 190, 2, 9), (2, 0, 0, 0), (37, 9, 1, 0), (0, 0, 0, 12), (39, 0, 0, 0), (2, 0, 0, 0), (1, 3, 0, 0), (54, 243, 1, 9), (10, 0, 0, 0), (8, 0, 0, 0), (4, 4, 0, 0), (1, 4, 0, 0), (1, 2, 0, 0), (32, 32, 5, 0), (1, 3, 0, 0), (30, 33, 0, 0), (1, 1, 0, 0), (4, 1, 0, 0), (1, 2, 0, 0), (1, 4, 0, 0), (68, 0, 0, 0), (4, 2, 0, 0), (7, 3, 0, 1), (30, 9, 0, 0), (1, 1, 0, 0), (50, 0, 0, 0)]
noncomputable def z_i301 : List zJ := z_dec cX12_rich 0 (z_wx [(2, [1461]), (8, [1598, 1600, 33, 110, 1601]), (4, [1774, 1776, 62, 110, 1777]), (1, [1462]), (4, [1757, 1759, 59, 110, 1760]), (12, [1769])] 5)
noncomputable def z_h301 : List (Nat × Nat × Nat × Nat × Nat × Nat × Nat) := []
noncomputable def z_m302 : zMi := (RX12, yX12_cramped, cX12_cramped, 3, some .int, [])
noncomputable def z_c302 : List zI := [(2, 0, 0, 0), (0, 0, 0, 0), (38, 9, 0, 0), (0, 0, 0, 0), (4, 1, 0, 0), (0, 0, 0, 0), (4, 2, 0, 0), (1, 2, 0, 0), (2, 0, 0, 0), (54, 185, 0, 9), (32, 33, 3, 0), (1, 1, 0, 0), (2, 0, 0, 0), (1, 2, 0, 0), (54, 194, 1, 9), (31, 28, 0, 0), (2, 0, 0, 0), (1, 2, 0, 0), (0, 0, 0, 0), (54, 193, 2, 9), (2, 0, 0, 0), (54, 188, 0, 9), (32, 28, 0, 0), (2, 0, 0, 0), (1, 2, 0, 0), (0, 0, 0, 1), (54, 193, 2, 9), (30, 29, 0, 0), (0, 0, 0, 0), (8, 0, 0, 0), (4, 1, 0, 0), (7, 2, 0, 1), (30, 7, 0, 0), (1, 1, 0, 0), (50, 0, 0, 0)]
noncomputable def z_i302 : List zJ := z_dec cX12_cramped 0 (z_wx [(2, [1461]), (6, [1659, 1661, 44, 110, 1662]), (4, [1806, 1808, 69, 110, 1809]), (4, [1810, 1812, 70, 110, 1813]), (1, [1870, 1872, 78, 110, 1873]), (4, [1810, 1812, 70, 110, 1813])] 8)
noncomputable def z_h302 : List (Nat × Nat × Nat × Nat × Nat × Nat × Nat) := []
noncomputable def z_m303 : zMi := (RX12, yX12_pursesOfAll, cX12_pursesOfAll, 3, some .int, [])
noncomputable def z_c303 : List zI := [(0, 0, 0, 0), (4, 1, 0, 0), (0, 0, 0, 0), (4, 2, 0, 0), (1, 2, 0, 0), (2, 0, 0, 0), (54, 184, 0, 9), (32, 17, 3, 0), (1, 1, 0, 0), (2, 0, 0, 0), (1, 2, 0, 0), (0, 0, 0, 0), (54, 190, 2, 9), (8, 0, 0, 0), (4, 1, 0, 0), (7, 2, 0, 1), (30, 4, 0, 0), (1, 1, 0, 0), (50, 0, 0, 0)]
noncomputable def z_i303 : List zJ := z_dec cX12_pursesOfAll 0 (z_wx [(6, [1598, 1600, 33, 110, 1601]), (5, [1774, 1776, 62, 110, 1777])] 6)
noncomputable def z_h303 : List (Nat × Nat × Nat × Nat × Nat × Nat × Nat) := []
noncomputable def z_m304 : zMi := (RX12, yX12_trial, cX12_trial, 4, some .int, [])
noncomputable def z_c304 : List zI := [(2, 0, 0, 0), (0, 0, 0, 0), (38, 9, 0, 0), (2, 0, 0, 0), (1, 1, 0, 0), (0, 0, 0, 0), (0, 0, 0, 200), (55, 177, 3, 0), (31, 11, 1, 0), (0, 0, 0, 1), (30, 12, 0, 0), (0, 0, 0, 0), (0, 0, 0, 1), (54, 176, 2, 9), (31, 17, 0, 0), (0, 0, 0, 0), (50, 0, 0, 0), (2, 0, 0, 0), (54, 266, 0, 9), (2, 0, 0, 0), (1, 1, 0, 0), (0, 0, 0, 0), (54, 268, 2, 9), (29, 0, 0, 0), (1, 2, 0, 0), (31, 29, 0, 0), (2, 0, 0, 0), (54, 303, 0, 9), (30, 33, 0, 0), (2, 0, 0, 0), (37, 9, 1, 0), (0, 0, 0, 8), (39, 0, 0, 0), (4, 3, 0, 0), (2, 0, 0, 0), (54, 267, 0, 9), (1, 3, 0, 0), (50, 0, 0, 0)]
noncomputable def z_i304 : List zJ := z_dec cX12_trial 0 (z_wx [(2, [1461]), (4, [1742, 1743, 110, 1744]), (5, [1727, 1729, 56, 110, 1730]), (4, [1923, 1925, 86, 110, 1926]), (3, [1894, 1896, 80, 110, 1897]), (4, [2062, 2064, 98, 110, 2065]), (2, [1462]), (4, [1927, 1929, 87, 110, 1930])] 2)
noncomputable def z_h304 : List (Nat × Nat × Nat × Nat × Nat × Nat × Nat) := []
noncomputable def z_m305 : zMi := (RX12, yX12_span, cX12_span, 6, some .int, [])
noncomputable def z_c305 : List zI := [(2, 0, 0, 0), (0, 0, 0, 0), (38, 9, 0, 0), (2, 0, 0, 0), (1, 1, 0, 0), (0, 0, 0, 0), (0, 0, 0, 200), (55, 177, 3, 0), (31, 11, 1, 0), (0, 0, 0, 1), (30, 12, 0, 0), (0, 0, 0, 0), (0, 0, 0, 1), (54, 176, 2, 9), (31, 17, 0, 0), (0, 0, 0, 0), (50, 0, 0, 0), (2, 0, 0, 0), (54, 266, 0, 9), (0, 0, 0, -1), (4, 3, 0, 0), (0, 0, 0, 1), (4, 4, 0, 0), (1, 4, 0, 0), (0, 0, 0, 6), (32, 59, 4, 0), (2, 0, 0, 0), (37, 9, 1, 0), (0, 0, 0, 15), (1, 4, 0, 0), (40, 0, 0, 0), (2, 0, 0, 0), (1, 1, 0, 0), (0, 0, 0, 0), (54, 268, 2, 9), (29, 0, 0, 0), (2, 0, 0, 0), (37, 9, 1, 0), (0, 0, 0, 8), (39, 0, 0, 0), (4, 5, 0, 0), (2, 0, 0, 0), (54, 267, 0, 9), (1, 3, 0, 0), (31, 47, 3, 0), (1, 5, 0, 0), (30, 56, 0, 0), (1, 2, 0, 0), (31, 53, 0, 0), (1, 3, 0, 0), (1, 5, 0, 0), (68, 0, 0, 0), (30, 56, 0, 0), (1, 3, 0, 0), (1, 5, 0, 0), (67, 0, 0, 0), (4, 3, 0, 0), (7, 4, 0, 1), (30, 23, 0, 0), (1, 3, 0, 0), (50, 0, 0, 0)]
noncomputable def z_i305 : List zJ := z_dec cX12_span 0 (z_wx [(2, [1461]), (4, [1742, 1743, 110, 1744]), (5, [1727, 1729, 56, 110, 1730]), (4, [1923, 1925, 86, 110, 1926]), (8, [1462]), (6, [1894, 1896, 80, 110, 1897]), (2, [1462]), (4, [1927, 1929, 87, 110, 1930]), (8, [1769]), (3, [1849])] 5)
noncomputable def z_h305 : List (Nat × Nat × Nat × Nat × Nat × Nat × Nat) := []
noncomputable def z_m306 : zMi := (RX12, yX12_ofLog, cX12_ofLog, 3, some .int, [])
noncomputable def z_c306 : List zI := [(2, 0, 0, 0), (37, 9, 1, 0), (0, 0, 0, 88), (0, 0, 0, 5), (1, 1, 0, 0), (10, 0, 0, 0), (8, 0, 0, 0), (1, 2, 0, 0), (8, 0, 0, 0), (39, 0, 0, 0), (50, 0, 0, 0)]
noncomputable def z_i306 : List zJ := z_dec cX12_ofLog 0 (z_wx [(1, [1462])] 9)
noncomputable def z_h306 : List (Nat × Nat × Nat × Nat × Nat × Nat × Nat) := []
noncomputable def z_m307 : zMi := (RX12, yX12_led, cX12_led, 6, some .int, [])
noncomputable def z_c307 : List zI := [(2, 0, 0, 0), (0, 0, 0, 0), (38, 9, 0, 0), (2, 0, 0, 0), (2, 0, 0, 0), (1, 1, 0, 0), (54, 195, 1, 9), (0, 0, 0, 1), (54, 176, 2, 9), (31, 12, 0, 0), (0, 0, 0, 0), (50, 0, 0, 0), (0, 0, 0, 0), (4, 3, 0, 0), (0, 0, 0, -1), (4, 4, 0, 0), (2, 0, 0, 0), (37, 9, 1, 0), (0, 0, 0, 14), (39, 0, 0, 0), (0, 0, 0, 1), (9, 0, 0, 0), (4, 5, 0, 0), (1, 5, 0, 0), (31, 40, 2, 0), (2, 0, 0, 0), (1, 5, 0, 0), (0, 0, 0, 2), (54, 306, 2, 9), (1, 1, 0, 0), (32, 32, 0, 0), (30, 38, 0, 0), (7, 3, 0, 1), (2, 0, 0, 0), (1, 5, 0, 0), (0, 0, 0, 0), (54, 306, 2, 9), (4, 4, 0, 0), (7, 5, 0, -1), (30, 23, 0, 0), (1, 2, 0, 0), (31, 44, 0, 0), (1, 4, 0, 0), (30, 45, 0, 0), (1, 3, 0, 0), (50, 0, 0, 0)]
noncomputable def z_i307 : List zJ := z_dec cX12_led 0 (z_wx [(2, [1461]), (3, [1749, 1751, 57, 110, 1752]), (1, [1727, 1729, 56, 110, 1730]), (8, [1462]), (10, [2074, 2076, 99, 110, 2077]), (7, [2074, 2076, 99, 110, 2077])] 9)
noncomputable def z_h307 : List (Nat × Nat × Nat × Nat × Nat × Nat × Nat) := []
noncomputable def z_m308 : zMi := (RX12, yX12_log, cX12_log, 3, some .int, [])
noncomputable def z_c308 : List zI := [(2, 0, 0, 0), (0, 0, 0, 0), (38, 9, 0, 0), (2, 0, 0, 0), (1, 2, 0, 0), (0, 0, 0, 0), (0, 0, 0, 4), (55, 177, 3, 0), (31, 11, 1, 0), (0, 0, 0, 1), (30, 12, 0, 0), (0, 0, 0, 0), (0, 0, 0, 1), (54, 176, 2, 9), (31, 17, 0, 0), (0, 0, 0, 0), (50, 0, 0, 0), (1, 1, 0, 0), (0, 0, 0, 0), (2, 0, 0, 0), (37, 9, 1, 0), (0, 0, 0, 14), (39, 0, 0, 0), (0, 0, 0, 1), (9, 0, 0, 0), (55, 177, 3, 0), (31, 32, 0, 0), (2, 0, 0, 0), (1, 1, 0, 0), (1, 2, 0, 0), (54, 306, 2, 9), (30, 33, 0, 0), (0, 0, 0, -1), (50, 0, 0, 0)]
noncomputable def z_i308 : List zJ := z_dec cX12_log 0 (z_wx [(2, [1461]), (4, [1742, 1743, 110, 1744]), (5, [1727, 1729, 56, 110, 1730]), (6, [1462]), (4, [1742, 1743, 110, 1744]), (4, [2074, 2076, 99, 110, 2077])] 3)
noncomputable def z_h308 : List (Nat × Nat × Nat × Nat × Nat × Nat × Nat) := []
noncomputable def z_m309 : zMi := (RX12, yX12_seed, cX12_seed, 3, some .int, [])
noncomputable def z_c309 : List zI := [(2, 0, 0, 0), (0, 0, 0, 0), (38, 9, 0, 0), (2, 0, 0, 0), (37, 9, 1, 0), (0, 0, 0, 15), (39, 0, 0, 0), (4, 2, 0, 0), (2, 0, 0, 0), (37, 9, 1, 0), (0, 0, 0, 15), (1, 1, 0, 0), (40, 0, 0, 0), (1, 2, 0, 0), (50, 0, 0, 0)]
noncomputable def z_i309 : List zJ := z_dec cX12_seed 0 (z_wx [(2, [1461]), (1, [1462]), (4, [1462])] 5)
noncomputable def z_h309 : List (Nat × Nat × Nat × Nat × Nat × Nat × Nat) := []
noncomputable def z_m310 : zMi := (RX12, yX12_count, cX12_count, 2, some .int, [])
noncomputable def z_c310 : List zI := [(2, 0, 0, 0), (0, 0, 0, 0), (38, 9, 0, 0), (1, 1, 0, 0), (35, 7, 0, 0), (2, 0, 0, 0), (37, 9, 1, 0), (0, 0, 0, 3), (39, 0, 0, 0), (0, 0, 0, 1), (32, 16, 1, 0), (2, 0, 0, 0), (37, 9, 1, 0), (0, 0, 0, 388), (39, 0, 0, 0), (30, 17, 0, 0), (0, 0, 0, -1), (50, 0, 0, 0), (2, 0, 0, 0), (54, 233, 0, 9), (50, 0, 0, 0), (2, 0, 0, 0), (54, 188, 0, 9), (50, 0, 0, 0), (2, 0, 0, 0), (37, 9, 1, 0), (0, 0, 0, 14), (39, 0, 0, 0), (50, 0, 0, 0), (2, 0, 0, 0), (37, 9, 7, 0), (50, 0, 0, 0), (1, 1, 0, 0), (0, 0, 0, 0), (0, 0, 0, 13), (55, 177, 3, 0), (31, 42, 0, 0), (2, 0, 0, 0), (37, 9, 1, 0), (1, 1, 0, 0), (39, 0, 0, 0), (30, 43, 0, 0), (0, 0, 0, -1), (50, 0, 0, 0)]
noncomputable def z_i310 : List zJ := z_dec cX12_count 0 (z_wx [(2, [1461]), (3, [1462]), (5, [1462]), (6, [1802, 1804, 68, 110, 1805]), (2, [1870, 1872, 78, 110, 1873]), (2, [1462]), (4, [1468]), (4, [1742, 1743, 110, 1744]), (2, [1462])] 5)
noncomputable def z_h310 : List (Nat × Nat × Nat × Nat × Nat × Nat × Nat) := []
noncomputable def z_m311 : zMi := (RJ6, yJ6_bitCount_0f7a4, cJ6_bitCount_0f7a4, 1, some .int, [])
noncomputable def z_c311 : List zI := [(1, 0, 0, 0), (1, 0, 0, 0), (0, 0, 0, 1), (15, 0, 0, 0), (0, 0, 0, 1431655765), (16, 0, 0, 0), (9, 0, 0, 0), (4, 0, 0, 0), (1, 0, 0, 0), (0, 0, 0, 858993459), (16, 0, 0, 0), (1, 0, 0, 0), (0, 0, 0, 2), (15, 0, 0, 0), (0, 0, 0, 858993459), (16, 0, 0, 0), (8, 0, 0, 0), (4, 0, 0, 0), (1, 0, 0, 0), (1, 0, 0, 0), (0, 0, 0, 4), (15, 0, 0, 0), (8, 0, 0, 0), (0, 0, 0, 252645135), (16, 0, 0, 0), (4, 0, 0, 0), (1, 0, 0, 0), (1, 0, 0, 0), (0, 0, 0, 8), (15, 0, 0, 0), (8, 0, 0, 0), (4, 0, 0, 0), (1, 0, 0, 0), (1, 0, 0, 0), (0, 0, 0, 16), (15, 0, 0, 0), (8, 0, 0, 0), (4, 0, 0, 0), (1, 0, 0, 0), (0, 0, 0, 63), (16, 0, 0, 0), (50, 0, 0, 0)]
noncomputable def z_i311 : List zJ := z_dec cJ6_bitCount_0f7a4 0 (z_wx [(4, [484]), (4, [485]), (4, [485]), (8, [486])] 18)
noncomputable def z_h311 : List (Nat × Nat × Nat × Nat × Nat × Nat × Nat) := []
noncomputable def z_m312 : zMi := (RJ9, yJ9_floorMod_7cf53, cJ9_floorMod_7cf53, 3, some .int, [])
noncomputable def z_c312 : List zI := [(1, 0, 0, 0), (1, 1, 0, 0), (12, 0, 0, 0), (4, 2, 0, 0), (1, 0, 0, 0), (1, 1, 0, 0), (18, 0, 0, 0), (31, 14, 3, 0), (1, 2, 0, 0), (31, 14, 0, 0), (1, 2, 0, 0), (1, 1, 0, 0), (8, 0, 0, 0), (50, 0, 0, 0), (1, 2, 0, 0), (50, 0, 0, 0)]
noncomputable def z_i312 : List zJ := z_dec cJ9_floorMod_7cf53 0 (z_wx [] 16)
noncomputable def z_h312 : List (Nat × Nat × Nat × Nat × Nat × Nat × Nat) := []
noncomputable def z_m313 : zMi := (RJ7, yJ7_fill_53178, cJ7_fill_53178, 4, none, [])
noncomputable def z_c313 : List zI := [(0, 0, 0, 0), (4, 2, 0, 0), (2, 0, 0, 0), (46, 0, 0, 0), (4, 3, 0, 0), (1, 2, 0, 0), (1, 3, 0, 0), (32, 14, 3, 0), (2, 0, 0, 0), (1, 2, 0, 0), (1, 1, 0, 0), (40, 0, 0, 0), (7, 2, 0, 1), (30, 5, 0, 0), (53, 0, 0, 0)]
noncomputable def z_i313 : List zJ := z_dec cJ7_fill_53178 0 (z_wx [] 15)
noncomputable def z_h313 : List (Nat × Nat × Nat × Nat × Nat × Nat × Nat) := []
noncomputable def z_m314 : zMi := (RJ7, yJ7_copyOf_59c91, cJ7_copyOf_59c91, 3, some (.array .int), [])
noncomputable def z_c314 : List zI := [(1, 1, 0, 0), (2, 0, 0, 0), (46, 0, 0, 0), (32, 8, 1, 0), (2, 0, 0, 0), (70, 0, 0, 0), (71, 0, 0, 0), (52, 0, 0, 0), (1, 1, 0, 0), (47, 0, 0, 0), (5, 2, 0, 0), (2, 0, 0, 0), (0, 0, 0, 0), (2, 2, 0, 0), (0, 0, 0, 0), (2, 0, 0, 0), (46, 0, 0, 0), (1, 1, 0, 0), (67, 0, 0, 0), (61, 0, 0, 0), (2, 2, 0, 0), (52, 0, 0, 0)]
noncomputable def z_i314 : List zJ := z_dec cJ7_copyOf_59c91 0 (z_wx [(5, [955]), (0, [961]), (2, [158]), (8, [962]), (0, [963])] 2)
noncomputable def z_h314 : List (Nat × Nat × Nat × Nat × Nat × Nat × Nat) := []
noncomputable def z_m315 : zMi := (RL, yL_deed, cL_deed, 3, some .int, [(0, 8, 11, 13), (0, 8, 14, 15)])
noncomputable def z_c315 : List zI := [(2, 1, 0, 0), (0, 0, 0, 0), (2, 0, 0, 0), (54, 120, 0, 8), (19, 0, 0, 0), (43, 0, 0, 0), (30, 13, 0, 0), (5, 2, 0, 0), (0, 0, 0, 1), (50, 0, 0, 0), (5, 2, 0, 0), (0, 0, 0, 2), (50, 0, 0, 0), (0, 0, 0, 0), (50, 0, 0, 0)]
noncomputable def z_i315 : List zJ := z_dec cL_deed 0 (z_wx [(3, [624, 625, 626, 101, 627])] 11)
noncomputable def z_h315 : List (Nat × Nat × Nat × Nat × Nat × Nat × Nat) := [(0, 8, 11, 13, 0, 8, 2), (0, 8, 14, 15, 1, 11, 2)]
noncomputable def z_m316 : zMi := (RL, yL_law, cL_law, 3, some .int, [(0, 8, 11, 13)])
noncomputable def z_c316 : List zI := [(2, 1, 0, 0), (0, 0, 0, 0), (2, 0, 0, 0), (54, 121, 0, 8), (19, 0, 0, 0), (43, 0, 0, 0), (30, 10, 0, 0), (5, 2, 0, 0), (0, 0, 0, 1), (50, 0, 0, 0), (0, 0, 0, 0), (50, 0, 0, 0)]
noncomputable def z_i316 : List zJ := z_dec cL_law 0 (z_wx [(3, [885, 886, 887, 101, 888])] 8)
noncomputable def z_h316 : List (Nat × Nat × Nat × Nat × Nat × Nat × Nat) := [(0, 8, 11, 13, 0, 8, 2)]
noncomputable def z_m317 : zMi := (RL, yL_holds, cL_holds, 4, some .int, [(0, 9, 12, 24)])
noncomputable def z_c317 : List zI := [(2, 2, 0, 0), (0, 0, 0, 0), (2, 0, 0, 0), (1, 1, 0, 0), (54, 123, 1, 8), (19, 0, 0, 0), (43, 0, 0, 0), (30, 11, 0, 0), (5, 3, 0, 0), (0, 0, 0, 1), (50, 0, 0, 0), (0, 0, 0, 0), (50, 0, 0, 0)]
noncomputable def z_i317 : List zJ := z_dec cL_holds 0 (z_wx [(4, [994, 995, 996, 101, 997])] 8)
noncomputable def z_h317 : List (Nat × Nat × Nat × Nat × Nat × Nat × Nat) := [(0, 9, 12, 24, 2, 9, 3)]
noncomputable def z_m318 : zMi := (RL, yL_family, cL_family, 5, some .int, [(0, 10, 13, 24), (0, 10, 17, 30)])
noncomputable def z_c318 : List zI := [(2, 3, 0, 0), (0, 0, 0, 0), (2, 0, 0, 0), (1, 1, 0, 0), (1, 2, 0, 0), (54, 124, 2, 8), (19, 0, 0, 0), (43, 0, 0, 0), (30, 15, 0, 0), (5, 4, 0, 0), (0, 0, 0, 1), (50, 0, 0, 0), (5, 4, 0, 0), (0, 0, 0, 2), (50, 0, 0, 0), (0, 0, 0, 0), (50, 0, 0, 0)]
noncomputable def z_i318 : List zJ := z_dec cL_family 0 (z_wx [(5, [1022, 1023, 1024, 101, 1025])] 11)
noncomputable def z_h318 : List (Nat × Nat × Nat × Nat × Nat × Nat × Nat) := [(0, 10, 13, 24, 2, 10, 4), (0, 10, 17, 30, 3, 13, 4)]
noncomputable def z_m319 : zMi := (RL, yL_does, cL_does, 6, some .int, [(0, 12, 15, 24), (0, 12, 19, 30)])
noncomputable def z_c319 : List zI := [(2, 4, 0, 0), (0, 0, 0, 0), (2, 0, 0, 0), (1, 1, 0, 0), (1, 2, 0, 0), (1, 3, 0, 0), (54, 125, 3, 8), (19, 0, 0, 0), (43, 0, 0, 0), (30, 16, 0, 0), (5, 5, 0, 0), (0, 0, 0, 1), (50, 0, 0, 0), (5, 5, 0, 0), (0, 0, 0, 2), (50, 0, 0, 0), (0, 0, 0, 0), (50, 0, 0, 0)]
noncomputable def z_i319 : List zJ := z_dec cL_does 0 (z_wx [(6, [1070, 1071, 1072, 101, 1073])] 11)
noncomputable def z_h319 : List (Nat × Nat × Nat × Nat × Nat × Nat × Nat) := [(0, 12, 15, 24, 2, 11, 5), (0, 12, 19, 30, 3, 14, 5)]
noncomputable def z_m320 : zMi := (RL, yL_thing, cL_thing, 5, some .int, [(0, 10, 13, 24), (0, 10, 17, 30)])
noncomputable def z_c320 : List zI := [(2, 3, 0, 0), (0, 0, 0, 0), (2, 0, 0, 0), (1, 1, 0, 0), (1, 2, 0, 0), (54, 126, 2, 8), (19, 0, 0, 0), (43, 0, 0, 0), (30, 15, 0, 0), (5, 4, 0, 0), (0, 0, 0, 1), (50, 0, 0, 0), (5, 4, 0, 0), (0, 0, 0, 2), (50, 0, 0, 0), (0, 0, 0, 0), (50, 0, 0, 0)]
noncomputable def z_i320 : List zJ := z_dec cL_thing 0 (z_wx [(5, [1111, 1112, 1113, 101, 1114])] 11)
noncomputable def z_h320 : List (Nat × Nat × Nat × Nat × Nat × Nat × Nat) := [(0, 10, 13, 24, 2, 10, 4), (0, 10, 17, 30, 3, 13, 4)]
noncomputable def z_m321 : zMi := (RL, yL_sell, cL_sell, 5, some .int, [(0, 10, 13, 24), (0, 10, 17, 13), (0, 10, 21, 42)])
noncomputable def z_c321 : List zI := [(2, 3, 0, 0), (0, 0, 0, 0), (2, 0, 0, 0), (1, 1, 0, 0), (1, 2, 0, 0), (54, 127, 2, 8), (19, 0, 0, 0), (43, 0, 0, 0), (30, 18, 0, 0), (5, 4, 0, 0), (0, 0, 0, 1), (50, 0, 0, 0), (5, 4, 0, 0), (0, 0, 0, 2), (50, 0, 0, 0), (5, 4, 0, 0), (0, 0, 0, 3), (50, 0, 0, 0), (0, 0, 0, 0), (50, 0, 0, 0)]
noncomputable def z_i321 : List zJ := z_dec cL_sell 0 (z_wx [(5, [1137, 1138, 1139, 101, 1140])] 14)
noncomputable def z_h321 : List (Nat × Nat × Nat × Nat × Nat × Nat × Nat) := [(0, 10, 13, 24, 2, 10, 4), (0, 10, 17, 13, 0, 13, 4), (0, 10, 21, 42, 4, 16, 4)]
noncomputable def z_m322 : zMi := (RL, yL_buy, cL_buy, 5, some .int, [(0, 10, 13, 24), (0, 10, 17, 42)])
noncomputable def z_c322 : List zI := [(2, 3, 0, 0), (0, 0, 0, 0), (2, 0, 0, 0), (1, 1, 0, 0), (1, 2, 0, 0), (54, 128, 2, 8), (19, 0, 0, 0), (43, 0, 0, 0), (30, 15, 0, 0), (5, 4, 0, 0), (0, 0, 0, 1), (50, 0, 0, 0), (5, 4, 0, 0), (0, 0, 0, 2), (50, 0, 0, 0), (0, 0, 0, 0), (50, 0, 0, 0)]
noncomputable def z_i322 : List zJ := z_dec cL_buy 0 (z_wx [(5, [1181, 1182, 1183, 101, 1184])] 11)
noncomputable def z_h322 : List (Nat × Nat × Nat × Nat × Nat × Nat × Nat) := [(0, 10, 13, 24, 2, 10, 4), (0, 10, 17, 42, 4, 13, 4)]
noncomputable def z_m323 : zMi := (RL, yL_swap, cL_swap, 5, some .int, [(0, 10, 13, 24), (0, 10, 17, 13), (0, 10, 21, 42)])
noncomputable def z_c323 : List zI := [(2, 3, 0, 0), (0, 0, 0, 0), (2, 0, 0, 0), (1, 1, 0, 0), (1, 2, 0, 0), (54, 129, 2, 8), (19, 0, 0, 0), (43, 0, 0, 0), (30, 18, 0, 0), (5, 4, 0, 0), (0, 0, 0, 1), (50, 0, 0, 0), (5, 4, 0, 0), (0, 0, 0, 2), (50, 0, 0, 0), (5, 4, 0, 0), (0, 0, 0, 3), (50, 0, 0, 0), (0, 0, 0, 0), (50, 0, 0, 0)]
noncomputable def z_i323 : List zJ := z_dec cL_swap 0 (z_wx [(5, [1188, 1189, 1190, 101, 1191])] 14)
noncomputable def z_h323 : List (Nat × Nat × Nat × Nat × Nat × Nat × Nat) := [(0, 10, 13, 24, 2, 10, 4), (0, 10, 17, 13, 0, 13, 4), (0, 10, 21, 42, 4, 16, 4)]
noncomputable def z_m324 : zMi := (RL, yL_free, cL_free, 4, some .int, [(0, 9, 12, 24), (0, 9, 15, 42)])
noncomputable def z_c324 : List zI := [(2, 2, 0, 0), (0, 0, 0, 0), (2, 0, 0, 0), (1, 1, 0, 0), (54, 130, 1, 8), (19, 0, 0, 0), (43, 0, 0, 0), (30, 14, 0, 0), (5, 3, 0, 0), (0, 0, 0, 1), (50, 0, 0, 0), (5, 3, 0, 0), (0, 0, 0, 2), (50, 0, 0, 0), (0, 0, 0, 0), (50, 0, 0, 0)]
noncomputable def z_i324 : List zJ := z_dec cL_free 0 (z_wx [(4, [1195, 1196, 1197, 101, 1198])] 11)
noncomputable def z_h324 : List (Nat × Nat × Nat × Nat × Nat × Nat × Nat) := [(0, 9, 12, 24, 2, 9, 3), (0, 9, 15, 42, 4, 12, 3)]
noncomputable def z_m325 : zMi := (RL, yL_leave, cL_leave, 4, some .int, [(0, 9, 12, 24), (0, 9, 15, 42)])
noncomputable def z_c325 : List zI := [(2, 2, 0, 0), (0, 0, 0, 0), (2, 0, 0, 0), (1, 1, 0, 0), (54, 131, 1, 8), (19, 0, 0, 0), (43, 0, 0, 0), (30, 14, 0, 0), (5, 3, 0, 0), (0, 0, 0, 1), (50, 0, 0, 0), (5, 3, 0, 0), (0, 0, 0, 2), (50, 0, 0, 0), (0, 0, 0, 0), (50, 0, 0, 0)]
noncomputable def z_i325 : List zJ := z_dec cL_leave 0 (z_wx [(4, [1202, 1203, 1204, 101, 1205])] 11)
noncomputable def z_h325 : List (Nat × Nat × Nat × Nat × Nat × Nat × Nat) := [(0, 9, 12, 24, 2, 9, 3), (0, 9, 15, 42, 4, 12, 3)]
noncomputable def z_m326 : zMi := (RL, yL_fetch, cL_fetch, 4, some .int, [(0, 9, 12, 24), (0, 9, 15, 42)])
noncomputable def z_c326 : List zI := [(2, 2, 0, 0), (0, 0, 0, 0), (2, 0, 0, 0), (1, 1, 0, 0), (54, 132, 1, 8), (19, 0, 0, 0), (43, 0, 0, 0), (30, 14, 0, 0), (5, 3, 0, 0), (0, 0, 0, 1), (50, 0, 0, 0), (5, 3, 0, 0), (0, 0, 0, 2), (50, 0, 0, 0), (0, 0, 0, 0), (50, 0, 0, 0)]
noncomputable def z_i326 : List zJ := z_dec cL_fetch 0 (z_wx [(4, [1211, 1212, 1213, 101, 1214])] 11)
noncomputable def z_h326 : List (Nat × Nat × Nat × Nat × Nat × Nat × Nat) := [(0, 9, 12, 24, 2, 9, 3), (0, 9, 15, 42, 4, 12, 3)]
noncomputable def z_m327 : zMi := (RL, yL_quiet, cL_quiet, 3, some .int, [(0, 8, 11, 42)])
noncomputable def z_c327 : List zI := [(2, 1, 0, 0), (0, 0, 0, 0), (2, 0, 0, 0), (54, 133, 0, 8), (19, 0, 0, 0), (43, 0, 0, 0), (30, 10, 0, 0), (5, 2, 0, 0), (0, 0, 0, 1), (50, 0, 0, 0), (0, 0, 0, 0), (50, 0, 0, 0)]
noncomputable def z_i327 : List zJ := z_dec cL_quiet 0 (z_wx [(3, [1222, 1223, 1224, 101, 1225])] 8)
noncomputable def z_h327 : List (Nat × Nat × Nat × Nat × Nat × Nat × Nat) := [(0, 8, 11, 42, 4, 8, 2)]
noncomputable def z_m328 : zMi := (RL, yL_hours, cL_hours, 4, some .int, [(0, 9, 12, 13)])
noncomputable def z_c328 : List zI := [(2, 2, 0, 0), (0, 0, 0, 0), (2, 0, 0, 0), (1, 1, 0, 0), (54, 135, 1, 8), (19, 0, 0, 0), (43, 0, 0, 0), (30, 11, 0, 0), (5, 3, 0, 0), (0, 0, 0, 1), (50, 0, 0, 0), (0, 0, 0, 0), (50, 0, 0, 0)]
noncomputable def z_i328 : List zJ := z_dec cL_hours 0 (z_wx [(4, [1229, 1230, 1231, 101, 1232])] 8)
noncomputable def z_h328 : List (Nat × Nat × Nat × Nat × Nat × Nat × Nat) := [(0, 9, 12, 13, 0, 9, 3)]
noncomputable def z_m329 : zMi := (RL, yL_met, cL_met, 5, some .int, [(0, 10, 13, 24), (0, 10, 17, 13)])
noncomputable def z_c329 : List zI := [(2, 3, 0, 0), (0, 0, 0, 0), (2, 0, 0, 0), (1, 1, 0, 0), (1, 2, 0, 0), (54, 137, 2, 8), (19, 0, 0, 0), (43, 0, 0, 0), (30, 15, 0, 0), (5, 4, 0, 0), (0, 0, 0, 1), (50, 0, 0, 0), (5, 4, 0, 0), (0, 0, 0, 2), (50, 0, 0, 0), (0, 0, 0, 0), (50, 0, 0, 0)]
noncomputable def z_i329 : List zJ := z_dec cL_met 0 (z_wx [(5, [1279, 1280, 1281, 101, 1282])] 11)
noncomputable def z_h329 : List (Nat × Nat × Nat × Nat × Nat × Nat × Nat) := [(0, 10, 13, 24, 2, 10, 4), (0, 10, 17, 13, 0, 13, 4)]
noncomputable def z_m330 : zMi := (RL, yL_part, cL_part, 5, some .int, [(0, 10, 13, 24), (0, 10, 17, 13)])
noncomputable def z_c330 : List zI := [(2, 3, 0, 0), (0, 0, 0, 0), (2, 0, 0, 0), (1, 1, 0, 0), (1, 2, 0, 0), (54, 143, 2, 8), (19, 0, 0, 0), (43, 0, 0, 0), (30, 15, 0, 0), (5, 4, 0, 0), (0, 0, 0, 1), (50, 0, 0, 0), (5, 4, 0, 0), (0, 0, 0, 2), (50, 0, 0, 0), (0, 0, 0, 0), (50, 0, 0, 0)]
noncomputable def z_i330 : List zJ := z_dec cL_part 0 (z_wx [(5, [1287, 1288, 1289, 101, 1290])] 11)
noncomputable def z_h330 : List (Nat × Nat × Nat × Nat × Nat × Nat × Nat) := [(0, 10, 13, 24, 2, 10, 4), (0, 10, 17, 13, 0, 13, 4)]
noncomputable def z_m331 : zMi := (RL, yL_corner, cL_corner, 4, some .int, [(0, 9, 12, 24)])
noncomputable def z_c331 : List zI := [(2, 2, 0, 0), (0, 0, 0, 0), (2, 0, 0, 0), (1, 1, 0, 0), (54, 144, 1, 8), (19, 0, 0, 0), (43, 0, 0, 0), (30, 11, 0, 0), (5, 3, 0, 0), (0, 0, 0, 1), (50, 0, 0, 0), (0, 0, 0, 0), (50, 0, 0, 0)]
noncomputable def z_i331 : List zJ := z_dec cL_corner 0 (z_wx [(4, [1303, 1304, 1305, 101, 1306])] 8)
noncomputable def z_h331 : List (Nat × Nat × Nat × Nat × Nat × Nat × Nat) := [(0, 9, 12, 24, 2, 9, 3)]
noncomputable def z_m332 : zMi := (RL, yL_bids, cL_bids, 6, some .int, [(0, 12, 15, 24), (0, 12, 19, 13)])
noncomputable def z_c332 : List zI := [(2, 4, 0, 0), (0, 0, 0, 0), (2, 0, 0, 0), (1, 1, 0, 0), (1, 2, 0, 0), (1, 3, 0, 0), (54, 145, 3, 8), (19, 0, 0, 0), (43, 0, 0, 0), (30, 16, 0, 0), (5, 5, 0, 0), (0, 0, 0, 1), (50, 0, 0, 0), (5, 5, 0, 0), (0, 0, 0, 2), (50, 0, 0, 0), (0, 0, 0, 0), (50, 0, 0, 0)]
noncomputable def z_i332 : List zJ := z_dec cL_bids 0 (z_wx [(6, [1320, 1321, 1322, 101, 1323])] 11)
noncomputable def z_h332 : List (Nat × Nat × Nat × Nat × Nat × Nat × Nat) := [(0, 12, 15, 24, 2, 11, 5), (0, 12, 19, 13, 0, 14, 5)]
noncomputable def z_m333 : zMi := (RL, yL_who, cL_who, 4, some .int, [(0, 9, 12, 13)])
noncomputable def z_c333 : List zI := [(2, 2, 0, 0), (0, 0, 0, 0), (2, 0, 0, 0), (1, 1, 0, 0), (54, 146, 1, 8), (19, 0, 0, 0), (43, 0, 0, 0), (30, 11, 0, 0), (5, 3, 0, 0), (0, 0, 0, 1), (50, 0, 0, 0), (0, 0, 0, 0), (50, 0, 0, 0)]
noncomputable def z_i333 : List zJ := z_dec cL_who 0 (z_wx [(4, [1337, 1338, 1339, 101, 1340])] 8)
noncomputable def z_h333 : List (Nat × Nat × Nat × Nat × Nat × Nat × Nat) := [(0, 9, 12, 13, 0, 9, 3)]
noncomputable def z_m334 : zMi := (RL, yL_lesson, cL_lesson, 4, some .int, [(0, 9, 12, 13)])
noncomputable def z_c334 : List zI := [(2, 2, 0, 0), (0, 0, 0, 0), (2, 0, 0, 0), (1, 1, 0, 0), (54, 149, 1, 8), (19, 0, 0, 0), (43, 0, 0, 0), (30, 11, 0, 0), (5, 3, 0, 0), (0, 0, 0, 1), (50, 0, 0, 0), (0, 0, 0, 0), (50, 0, 0, 0)]
noncomputable def z_i334 : List zJ := z_dec cL_lesson 0 (z_wx [(4, [1361, 1362, 1363, 101, 1364])] 8)
noncomputable def z_h334 : List (Nat × Nat × Nat × Nat × Nat × Nat × Nat) := [(0, 9, 12, 13, 0, 9, 3)]
noncomputable def z_m335 : zMi := (RL, yL_ahead, cL_ahead, 5, some .int, [(0, 10, 13, 13), (0, 10, 17, 30)])
noncomputable def z_c335 : List zI := [(2, 3, 0, 0), (0, 0, 0, 0), (2, 0, 0, 0), (1, 1, 0, 0), (1, 2, 0, 0), (54, 151, 2, 8), (19, 0, 0, 0), (43, 0, 0, 0), (30, 15, 0, 0), (5, 4, 0, 0), (0, 0, 0, 1), (50, 0, 0, 0), (5, 4, 0, 0), (0, 0, 0, 2), (50, 0, 0, 0), (0, 0, 0, 0), (50, 0, 0, 0)]
noncomputable def z_i335 : List zJ := z_dec cL_ahead 0 (z_wx [(5, [1374, 1375, 1376, 101, 1377])] 11)
noncomputable def z_h335 : List (Nat × Nat × Nat × Nat × Nat × Nat × Nat) := [(0, 10, 13, 13, 0, 10, 4), (0, 10, 17, 30, 3, 13, 4)]
noncomputable def z_m336 : zMi := (RL, yL_dusty, cL_dusty, 4, some .int, [(0, 9, 12, 13)])
noncomputable def z_c336 : List zI := [(2, 2, 0, 0), (0, 0, 0, 0), (2, 0, 0, 0), (1, 1, 0, 0), (54, 152, 1, 8), (19, 0, 0, 0), (43, 0, 0, 0), (30, 11, 0, 0), (5, 3, 0, 0), (0, 0, 0, 1), (50, 0, 0, 0), (0, 0, 0, 0), (50, 0, 0, 0)]
noncomputable def z_i336 : List zJ := z_dec cL_dusty 0 (z_wx [(4, [1381, 1382, 1383, 101, 1384])] 8)
noncomputable def z_h336 : List (Nat × Nat × Nat × Nat × Nat × Nat × Nat) := [(0, 9, 12, 13, 0, 9, 3)]
noncomputable def z_m337 : zMi := (RL, yL_warmest, cL_warmest, 4, some .int, [(0, 9, 12, 13)])
noncomputable def z_c337 : List zI := [(2, 2, 0, 0), (0, 0, 0, 0), (2, 0, 0, 0), (1, 1, 0, 0), (54, 153, 1, 8), (19, 0, 0, 0), (43, 0, 0, 0), (30, 11, 0, 0), (5, 3, 0, 0), (0, 0, 0, 1), (50, 0, 0, 0), (0, 0, 0, 0), (50, 0, 0, 0)]
noncomputable def z_i337 : List zJ := z_dec cL_warmest 0 (z_wx [(4, [1388, 1389, 1390, 101, 1391])] 8)
noncomputable def z_h337 : List (Nat × Nat × Nat × Nat × Nat × Nat × Nat) := [(0, 9, 12, 13, 0, 9, 3)]
noncomputable def z_m338 : zMi := (RL, yL_ruin, cL_ruin, 4, some .int, [(0, 9, 12, 24)])
noncomputable def z_c338 : List zI := [(2, 2, 0, 0), (0, 0, 0, 0), (2, 0, 0, 0), (1, 1, 0, 0), (54, 154, 1, 8), (19, 0, 0, 0), (43, 0, 0, 0), (30, 11, 0, 0), (5, 3, 0, 0), (0, 0, 0, 1), (50, 0, 0, 0), (0, 0, 0, 0), (50, 0, 0, 0)]
noncomputable def z_i338 : List zJ := z_dec cL_ruin 0 (z_wx [(4, [1395, 1396, 1397, 101, 1398])] 8)
noncomputable def z_h338 : List (Nat × Nat × Nat × Nat × Nat × Nat × Nat) := [(0, 9, 12, 24, 2, 9, 3)]
noncomputable def z_m339 : zMi := (RL, yL_trial, cL_trial, 5, some .int, [(0, 10, 13, 13)])
noncomputable def z_c339 : List zI := [(2, 3, 0, 0), (0, 0, 0, 0), (2, 0, 0, 0), (1, 1, 0, 0), (1, 2, 0, 0), (54, 157, 2, 8), (19, 0, 0, 0), (43, 0, 0, 0), (30, 12, 0, 0), (5, 4, 0, 0), (0, 0, 0, 1), (50, 0, 0, 0), (0, 0, 0, 0), (50, 0, 0, 0)]
noncomputable def z_i339 : List zJ := z_dec cL_trial 0 (z_wx [(5, [1402, 1403, 1404, 101, 1405])] 8)
noncomputable def z_h339 : List (Nat × Nat × Nat × Nat × Nat × Nat × Nat) := [(0, 10, 13, 13, 0, 10, 4)]
noncomputable def z_m340 : zMi := (RL, yL_span, cL_span, 5, some .int, [(0, 10, 13, 13)])
noncomputable def z_c340 : List zI := [(2, 3, 0, 0), (0, 0, 0, 0), (2, 0, 0, 0), (1, 1, 0, 0), (1, 2, 0, 0), (54, 158, 2, 8), (19, 0, 0, 0), (43, 0, 0, 0), (30, 12, 0, 0), (5, 4, 0, 0), (0, 0, 0, 1), (50, 0, 0, 0), (0, 0, 0, 0), (50, 0, 0, 0)]
noncomputable def z_i340 : List zJ := z_dec cL_span 0 (z_wx [(5, [1417, 1418, 1419, 101, 1420])] 8)
noncomputable def z_h340 : List (Nat × Nat × Nat × Nat × Nat × Nat × Nat) := [(0, 10, 13, 13, 0, 10, 4)]
noncomputable def z_m341 : zMi := (RL, yL_led, cL_led, 5, some .int, [(0, 10, 13, 24)])
noncomputable def z_c341 : List zI := [(2, 3, 0, 0), (0, 0, 0, 0), (2, 0, 0, 0), (1, 1, 0, 0), (1, 2, 0, 0), (54, 159, 2, 8), (19, 0, 0, 0), (43, 0, 0, 0), (30, 12, 0, 0), (5, 4, 0, 0), (0, 0, 0, 1), (50, 0, 0, 0), (0, 0, 0, 0), (50, 0, 0, 0)]
noncomputable def z_i341 : List zJ := z_dec cL_led 0 (z_wx [(5, [1426, 1427, 1428, 101, 1429])] 8)
noncomputable def z_h341 : List (Nat × Nat × Nat × Nat × Nat × Nat × Nat) := [(0, 10, 13, 24, 2, 10, 4)]
noncomputable def z_m342 : zMi := (RL, yL_log, cL_log, 5, some .int, [(0, 10, 13, 30)])
noncomputable def z_c342 : List zI := [(2, 3, 0, 0), (0, 0, 0, 0), (2, 0, 0, 0), (1, 1, 0, 0), (1, 2, 0, 0), (54, 160, 2, 8), (19, 0, 0, 0), (43, 0, 0, 0), (30, 12, 0, 0), (5, 4, 0, 0), (0, 0, 0, 1), (50, 0, 0, 0), (0, 0, 0, 0), (50, 0, 0, 0)]
noncomputable def z_i342 : List zJ := z_dec cL_log 0 (z_wx [(5, [1446, 1447, 1448, 101, 1449])] 8)
noncomputable def z_h342 : List (Nat × Nat × Nat × Nat × Nat × Nat × Nat) := [(0, 10, 13, 30, 3, 10, 4)]
noncomputable def z_m343 : zMi := (RL, yL_law_, cL_law_, 7, some .boolean, [])
noncomputable def z_c343 : List zI := [(49, 8, 0, 0), (27, 0, 0, 0), (56, 117, 0, 0), (5, 1, 0, 0), (49, 9, 0, 0), (27, 0, 0, 0), (56, 179, 0, 0), (5, 2, 0, 0), (0, 0, 0, 1), (47, 2, 0, 0), (5, 3, 0, 0), (0, 0, 0, 0), (4, 4, 0, 0), (1, 4, 0, 0), (2, 0, 0, 0), (66, 0, 0, 0), (0, 0, 0, 6), (9, 0, 0, 0), (32, 938, 4, 0), (2, 0, 0, 0), (1, 4, 0, 0), (65, 0, 0, 0), (0, 0, 0, 63), (16, 0, 0, 0), (35, 8, 0, 0), (2, 1, 0, 0), (2, 0, 0, 0), (1, 4, 0, 0), (0, 0, 0, 1), (8, 0, 0, 0), (65, 0, 0, 0), (2, 0, 0, 0), (1, 4, 0, 0), (0, 0, 0, 2), (8, 0, 0, 0), (65, 0, 0, 0), (2, 0, 0, 0), (1, 4, 0, 0), (0, 0, 0, 3), (8, 0, 0, 0), (65, 0, 0, 0), (2, 0, 0, 0), (1, 4, 0, 0), (0, 0, 0, 4), (8, 0, 0, 0), (65, 0, 0, 0), (2, 0, 0, 0), (1, 4, 0, 0), (0, 0, 0, 5), (8, 0, 0, 0), (65, 0, 0, 0), (54, 118, 5, 8), (29, 0, 0, 0), (2, 2, 0, 0), (2, 0, 0, 0), (1, 4, 0, 0), (0, 0, 0, 1), (8, 0, 0, 0), (65, 0, 0, 0), (2, 0, 0, 0), (1, 4, 0, 0), (0, 0, 0, 2), (8, 0, 0, 0), (65, 0, 0, 0), (2, 0, 0, 0), (1, 4, 0, 0), (0, 0, 0, 3), (8, 0, 0, 0), (65, 0, 0, 0), (2, 0, 0, 0), (1, 4, 0, 0), (0, 0, 0, 4), (8, 0, 0, 0), (65, 0, 0, 0), (2, 0, 0, 0), (1, 4, 0, 0), (0, 0, 0, 5), (8, 0, 0, 0), (65, 0, 0, 0), (54, 199, 5, 9), (29, 0, 0, 0), (30, 936, 0, 0), (2, 1, 0, 0), (2, 0, 0, 0), (1, 4, 0, 0), (0, 0, 0, 1), (8, 0, 0, 0), (65, 0, 0, 0), (54, 119, 1, 8), (29, 0, 0, 0), (2, 2, 0, 0), (2, 0, 0, 0), (1, 4, 0, 0), (0, 0, 0, 1), (8, 0, 0, 0), (65, 0, 0, 0), (54, 200, 1, 9), (29, 0, 0, 0), (30, 936, 0, 0), (2, 1, 0, 0), (2, 3, 0, 0), (72, 315, 2, 0), (4, 5, 0, 0), (2, 2, 0, 0), (54, 231, 0, 9), (4, 6, 0, 0), (30, 936, 0, 0), (2, 1, 0, 0), (2, 3, 0, 0), (72, 316, 2, 0), (4, 5, 0, 0), (2, 2, 0, 0), (54, 232, 0, 9), (4, 6, 0, 0), (30, 936, 0, 0), (2, 1, 0, 0), (54, 122, 0, 8), (29, 0, 0, 0), (2, 2, 0, 0), (54, 209, 0, 9), (29, 0, 0, 0), (30, 936, 0, 0), (2, 1, 0, 0), (2, 0, 0, 0), (1, 4, 0, 0), (0, 0, 0, 1), (8, 0, 0, 0), (65, 0, 0, 0), (2, 3, 0, 0), (72, 317, 3, 0), (4, 5, 0, 0), (2, 2, 0, 0), (2, 0, 0, 0), (1, 4, 0, 0), (0, 0, 0, 1), (8, 0, 0, 0), (65, 0, 0, 0), (54, 248, 1, 9), (4, 6, 0, 0), (30, 936, 0, 0), (2, 1, 0, 0), (2, 0, 0, 0), (1, 4, 0, 0), (0, 0, 0, 1), (8, 0, 0, 0), (65, 0, 0, 0), (2, 0, 0, 0), (1, 4, 0, 0), (0, 0, 0, 2), (8, 0, 0, 0), (65, 0, 0, 0), (2, 3, 0, 0), (72, 318, 4, 0), (4, 5, 0, 0), (2, 2, 0, 0), (2, 0, 0, 0), (1, 4, 0, 0), (0, 0, 0, 1), (8, 0, 0, 0), (65, 0, 0, 0), (2, 0, 0, 0), (1, 4, 0, 0), (0, 0, 0, 2), (8, 0, 0, 0), (65, 0, 0, 0), (54, 249, 2, 9), (4, 6, 0, 0), (30, 936, 0, 0), (2, 1, 0, 0), (2, 0, 0, 0), (1, 4, 0, 0), (0, 0, 0, 1), (8, 0, 0, 0), (65, 0, 0, 0), (2, 0, 0, 0), (1, 4, 0, 0), (0, 0, 0, 2), (8, 0, 0, 0), (65, 0, 0, 0), (2, 0, 0, 0), (1, 4, 0, 0), (0, 0, 0, 3), (8, 0, 0, 0), (65, 0, 0, 0), (2, 3, 0, 0), (72, 319, 5, 0), (4, 5, 0, 0), (2, 2, 0, 0), (2, 0, 0, 0), (1, 4, 0, 0), (0, 0, 0, 1), (8, 0, 0, 0), (65, 0, 0, 0), (2, 0, 0, 0), (1, 4, 0, 0), (0, 0, 0, 2), (8, 0, 0, 0), (65, 0, 0, 0), (2, 0, 0, 0), (1, 4, 0, 0), (0, 0, 0, 3), (8, 0, 0, 0), (65, 0, 0, 0), (54, 250, 3, 9), (4, 6, 0, 0), (30, 936, 0, 0), (2, 1, 0, 0), (2, 0, 0, 0), (1, 4, 0, 0), (0, 0, 0, 1), (8, 0, 0, 0), (65, 0, 0, 0), (2, 0, 0, 0), (1, 4, 0, 0), (0, 0, 0, 2), (8, 0, 0, 0), (65, 0, 0, 0), (2, 3, 0, 0), (72, 320, 4, 0), (4, 5, 0, 0), (2, 2, 0, 0), (2, 0, 0, 0), (1, 4, 0, 0), (0, 0, 0, 1), (8, 0, 0, 0), (65, 0, 0, 0), (2, 0, 0, 0), (1, 4, 0, 0), (0, 0, 0, 2), (8, 0, 0, 0), (65, 0, 0, 0), (54, 251, 2, 9), (4, 6, 0, 0), (30, 936, 0, 0), (2, 1, 0, 0), (2, 0, 0, 0), (1, 4, 0, 0), (0, 0, 0, 1), (8, 0, 0, 0), (65, 0, 0, 0), (2, 0, 0, 0), (1, 4, 0, 0), (0, 0, 0, 2), (8, 0, 0, 0), (65, 0, 0, 0), (2, 3, 0, 0), (72, 321, 4, 0), (4, 5, 0, 0), (2, 2, 0, 0), (2, 0, 0, 0), (1, 4, 0, 0), (0, 0, 0, 1), (8, 0, 0, 0), (65, 0, 0, 0), (2, 0, 0, 0), (1, 4, 0, 0), (0, 0, 0, 2), (8, 0, 0, 0), (65, 0, 0, 0), (54, 252, 2, 9), (4, 6, 0, 0), (30, 936, 0, 0), (2, 1, 0, 0), (2, 0, 0, 0), (1, 4, 0, 0), (0, 0, 0, 1), (8, 0, 0, 0), (65, 0, 0, 0), (2, 0, 0, 0), (1, 4, 0, 0), (0, 0, 0, 2), (8, 0, 0, 0), (65, 0, 0, 0), (2, 3, 0, 0), (72, 322, 4, 0), (4, 5, 0, 0), (2, 2, 0, 0), (2, 0, 0, 0), (1, 4, 0, 0), (0, 0, 0, 1), (8, 0, 0, 0), (65, 0, 0, 0), (2, 0, 0, 0), (1, 4, 0, 0), (0, 0, 0, 2), (8, 0, 0, 0), (65, 0, 0, 0), (54, 253, 2, 9), (4, 6, 0, 0), (30, 936, 0, 0), (2, 1, 0, 0), (2, 0, 0, 0), (1, 4, 0, 0), (0, 0, 0, 1), (8, 0, 0, 0), (65, 0, 0, 0), (2, 0, 0, 0), (1, 4, 0, 0), (0, 0, 0, 2), (8, 0, 0, 0), (65, 0, 0, 0), (2, 3, 0, 0), (72, 323, 4, 0), (4, 5, 0, 0), (2, 2, 0, 0), (2, 0, 0, 0), (1, 4, 0, 0), (0, 0, 0, 1), (8, 0, 0, 0), (65, 0, 0, 0), (2, 0, 0, 0), (1, 4, 0, 0), (0, 0, 0, 2), (8, 0, 0, 0), (65, 0, 0, 0), (54, 255, 2, 9), (4, 6, 0, 0), (30, 936, 0, 0), (2, 1, 0, 0), (2, 0, 0, 0), (1, 4, 0, 0), (0, 0, 0, 1), (8, 0, 0, 0), (65, 0, 0, 0), (2, 3, 0, 0), (72, 324, 3, 0), (4, 5, 0, 0), (2, 2, 0, 0), (2, 0, 0, 0), (1, 4, 0, 0), (0, 0, 0, 1), (8, 0, 0, 0), (65, 0, 0, 0), (54, 256, 1, 9), (4, 6, 0, 0), (30, 936, 0, 0), (2, 1, 0, 0), (2, 0, 0, 0), (1, 4, 0, 0), (0, 0, 0, 1), (8, 0, 0, 0), (65, 0, 0, 0), (2, 3, 0, 0), (72, 325, 3, 0), (4, 5, 0, 0), (2, 2, 0, 0), (2, 0, 0, 0), (1, 4, 0, 0), (0, 0, 0, 1), (8, 0, 0, 0), (65, 0, 0, 0), (54, 258, 1, 9), (4, 6, 0, 0), (2, 2, 0, 0), (54, 344, 0, 9), (1, 5, 0, 0), (32, 359, 0, 0), (0, 0, 0, 0), (50, 0, 0, 0), (1, 5, 0, 0), (31, 370, 1, 0), (2, 3, 0, 0), (0, 0, 0, 0), (34, 0, 0, 0), (1, 6, 0, 0), (19, 0, 0, 0), (26, 0, 0, 0), (31, 370, 0, 0), (0, 0, 0, 0), (50, 0, 0, 0), (30, 936, 0, 0), (2, 1, 0, 0), (2, 0, 0, 0), (1, 4, 0, 0), (0, 0, 0, 1), (8, 0, 0, 0), (65, 0, 0, 0), (2, 3, 0, 0), (72, 326, 3, 0), (4, 5, 0, 0), (2, 2, 0, 0), (2, 0, 0, 0), (1, 4, 0, 0), (0, 0, 0, 1), (8, 0, 0, 0), (65, 0, 0, 0), (54, 259, 1, 9), (4, 6, 0, 0), (30, 936, 0, 0), (2, 1, 0, 0), (2, 3, 0, 0), (72, 327, 2, 0), (4, 5, 0, 0), (2, 2, 0, 0), (54, 260, 0, 9), (4, 6, 0, 0), (30, 936, 0, 0), (2, 1, 0, 0), (54, 134, 0, 8), (29, 0, 0, 0), (2, 2, 0, 0), (54, 261, 0, 9), (29, 0, 0, 0), (30, 936, 0, 0), (2, 1, 0, 0), (2, 0, 0, 0), (1, 4, 0, 0), (0, 0, 0, 1), (8, 0, 0, 0), (65, 0, 0, 0), (2, 3, 0, 0), (72, 328, 3, 0), (4, 5, 0, 0), (2, 2, 0, 0), (2, 0, 0, 0), (1, 4, 0, 0), (0, 0, 0, 1), (8, 0, 0, 0), (65, 0, 0, 0), (54, 269, 1, 9), (4, 6, 0, 0), (30, 936, 0, 0), (2, 1, 0, 0), (54, 136, 0, 8), (29, 0, 0, 0), (2, 2, 0, 0), (54, 274, 0, 9), (29, 0, 0, 0), (30, 936, 0, 0), (2, 1, 0, 0), (2, 0, 0, 0), (1, 4, 0, 0), (0, 0, 0, 1), (8, 0, 0, 0), (65, 0, 0, 0), (2, 0, 0, 0), (1, 4, 0, 0), (0, 0, 0, 2), (8, 0, 0, 0), (65, 0, 0, 0), (2, 3, 0, 0), (72, 329, 4, 0), (4, 5, 0, 0), (2, 2, 0, 0), (2, 0, 0, 0), (1, 4, 0, 0), (0, 0, 0, 1), (8, 0, 0, 0), (65, 0, 0, 0), (2, 0, 0, 0), (1, 4, 0, 0), (0, 0, 0, 2), (8, 0, 0, 0), (65, 0, 0, 0), (54, 277, 2, 9), (4, 6, 0, 0), (30, 936, 0, 0), (2, 1, 0, 0), (54, 138, 0, 8), (29, 0, 0, 0), (2, 2, 0, 0), (54, 279, 0, 9), (29, 0, 0, 0), (30, 936, 0, 0), (2, 1, 0, 0), (54, 139, 0, 8), (29, 0, 0, 0), (2, 2, 0, 0), (54, 288, 0, 9), (29, 0, 0, 0), (30, 936, 0, 0), (2, 1, 0, 0), (54, 140, 0, 8), (29, 0, 0, 0), (2, 2, 0, 0), (54, 290, 0, 9), (29, 0, 0, 0), (30, 936, 0, 0), (2, 1, 0, 0), (54, 141, 0, 8), (29, 0, 0, 0), (2, 2, 0, 0), (54, 281, 0, 9), (29, 0, 0, 0), (30, 936, 0, 0), (2, 1, 0, 0), (2, 0, 0, 0), (1, 4, 0, 0), (0, 0, 0, 1), (8, 0, 0, 0), (65, 0, 0, 0), (54, 142, 1, 8), (29, 0, 0, 0), (2, 2, 0, 0), (2, 0, 0, 0), (1, 4, 0, 0), (0, 0, 0, 1), (8, 0, 0, 0), (65, 0, 0, 0), (54, 293, 1, 9), (29, 0, 0, 0), (30, 936, 0, 0), (2, 1, 0, 0), (2, 0, 0, 0), (1, 4, 0, 0), (0, 0, 0, 1), (8, 0, 0, 0), (65, 0, 0, 0), (2, 0, 0, 0), (1, 4, 0, 0), (0, 0, 0, 2), (8, 0, 0, 0), (65, 0, 0, 0), (2, 3, 0, 0), (72, 330, 4, 0), (4, 5, 0, 0), (2, 2, 0, 0), (2, 0, 0, 0), (1, 4, 0, 0), (0, 0, 0, 1), (8, 0, 0, 0), (65, 0, 0, 0), (2, 0, 0, 0), (1, 4, 0, 0), (0, 0, 0, 2), (8, 0, 0, 0), (65, 0, 0, 0), (54, 295, 2, 9), (4, 6, 0, 0), (30, 936, 0, 0), (2, 1, 0, 0), (2, 0, 0, 0), (1, 4, 0, 0), (0, 0, 0, 1), (8, 0, 0, 0), (65, 0, 0, 0), (2, 3, 0, 0), (72, 331, 3, 0), (4, 5, 0, 0), (2, 2, 0, 0), (2, 0, 0, 0), (1, 4, 0, 0), (0, 0, 0, 1), (8, 0, 0, 0), (65, 0, 0, 0), (54, 283, 1, 9), (4, 6, 0, 0), (30, 936, 0, 0), (2, 1, 0, 0), (2, 0, 0, 0), (1, 4, 0, 0), (0, 0, 0, 1), (8, 0, 0, 0), (65, 0, 0, 0), (2, 0, 0, 0), (1, 4, 0, 0), (0, 0, 0, 2), (8, 0, 0, 0), (65, 0, 0, 0), (2, 0, 0, 0), (1, 4, 0, 0), (0, 0, 0, 3), (8, 0, 0, 0), (65, 0, 0, 0), (2, 3, 0, 0), (72, 332, 5, 0), (4, 5, 0, 0), (2, 2, 0, 0), (2, 0, 0, 0), (1, 4, 0, 0), (0, 0, 0, 1), (8, 0, 0, 0), (65, 0, 0, 0), (2, 0, 0, 0), (1, 4, 0, 0), (0, 0, 0, 2), (8, 0, 0, 0), (65, 0, 0, 0), (2, 0, 0, 0), (1, 4, 0, 0), (0, 0, 0, 3), (8, 0, 0, 0), (65, 0, 0, 0), (54, 297, 3, 9), (4, 6, 0, 0), (30, 936, 0, 0), (2, 1, 0, 0), (2, 0, 0, 0), (1, 4, 0, 0), (0, 0, 0, 1), (8, 0, 0, 0), (65, 0, 0, 0), (31, 595, 0, 0), (0, 0, 0, 1), (30, 596, 0, 0), (0, 0, 0, 0), (2, 3, 0, 0), (72, 333, 3, 0), (4, 5, 0, 0), (2, 2, 0, 0), (2, 0, 0, 0), (1, 4, 0, 0), (0, 0, 0, 1), (8, 0, 0, 0), (65, 0, 0, 0), (31, 608, 0, 0), (0, 0, 0, 1), (30, 609, 0, 0), (0, 0, 0, 0), (54, 299, 1, 9), (4, 6, 0, 0), (30, 936, 0, 0), (2, 1, 0, 0), (54, 147, 0, 8), (29, 0, 0, 0), (2, 2, 0, 0), (54, 300, 0, 9), (29, 0, 0, 0), (30, 936, 0, 0), (2, 1, 0, 0), (54, 148, 0, 8), (29, 0, 0, 0), (2, 2, 0, 0), (54, 278, 0, 9), (29, 0, 0, 0), (30, 936, 0, 0), (2, 1, 0, 0), (2, 0, 0, 0), (1, 4, 0, 0), (0, 0, 0, 1), (8, 0, 0, 0), (65, 0, 0, 0), (2, 3, 0, 0), (72, 334, 3, 0), (4, 5, 0, 0), (2, 2, 0, 0), (2, 0, 0, 0), (1, 4, 0, 0), (0, 0, 0, 1), (8, 0, 0, 0), (65, 0, 0, 0), (54, 284, 1, 9), (4, 6, 0, 0), (30, 936, 0, 0), (2, 1, 0, 0), (54, 150, 0, 8), (29, 0, 0, 0), (2, 2, 0, 0), (54, 280, 0, 9), (29, 0, 0, 0), (30, 936, 0, 0), (2, 1, 0, 0), (2, 0, 0, 0), (1, 4, 0, 0), (0, 0, 0, 1), (8, 0, 0, 0), (65, 0, 0, 0), (2, 0, 0, 0), (1, 4, 0, 0), (0, 0, 0, 2), (8, 0, 0, 0), (65, 0, 0, 0), (2, 3, 0, 0), (72, 335, 4, 0), (4, 5, 0, 0), (2, 2, 0, 0), (2, 0, 0, 0), (1, 4, 0, 0), (0, 0, 0, 1), (8, 0, 0, 0), (65, 0, 0, 0), (2, 0, 0, 0), (1, 4, 0, 0), (0, 0, 0, 2), (8, 0, 0, 0), (65, 0, 0, 0), (54, 270, 2, 9), (4, 6, 0, 0), (30, 936, 0, 0), (2, 1, 0, 0), (2, 0, 0, 0), (1, 4, 0, 0), (0, 0, 0, 1), (8, 0, 0, 0), (65, 0, 0, 0), (2, 3, 0, 0), (72, 336, 3, 0), (4, 5, 0, 0), (2, 2, 0, 0), (2, 0, 0, 0), (1, 4, 0, 0), (0, 0, 0, 1), (8, 0, 0, 0), (65, 0, 0, 0), (54, 271, 1, 9), (4, 6, 0, 0), (30, 936, 0, 0), (2, 1, 0, 0), (2, 0, 0, 0), (1, 4, 0, 0), (0, 0, 0, 1), (8, 0, 0, 0), (65, 0, 0, 0), (2, 3, 0, 0), (72, 337, 3, 0), (4, 5, 0, 0), (2, 2, 0, 0), (2, 0, 0, 0), (1, 4, 0, 0), (0, 0, 0, 1), (8, 0, 0, 0), (65, 0, 0, 0), (54, 272, 1, 9), (4, 6, 0, 0), (30, 936, 0, 0), (2, 1, 0, 0), (2, 0, 0, 0), (1, 4, 0, 0), (0, 0, 0, 1), (8, 0, 0, 0), (65, 0, 0, 0), (2, 3, 0, 0), (72, 338, 3, 0), (4, 5, 0, 0), (2, 2, 0, 0), (2, 0, 0, 0), (1, 4, 0, 0), (0, 0, 0, 1), (8, 0, 0, 0), (65, 0, 0, 0), (54, 273, 1, 9), (4, 6, 0, 0), (30, 936, 0, 0), (2, 1, 0, 0), (54, 155, 0, 8), (29, 0, 0, 0), (2, 2, 0, 0), (54, 301, 0, 9), (29, 0, 0, 0), (30, 936, 0, 0), (2, 1, 0, 0), (54, 156, 0, 8), (29, 0, 0, 0), (2, 2, 0, 0), (54, 302, 0, 9), (29, 0, 0, 0), (30, 936, 0, 0), (2, 1, 0, 0), (2, 0, 0, 0), (1, 4, 0, 0), (0, 0, 0, 1), (8, 0, 0, 0), (65, 0, 0, 0), (2, 0, 0, 0), (1, 4, 0, 0), (0, 0, 0, 2), (8, 0, 0, 0), (65, 0, 0, 0), (31, 761, 0, 0), (0, 0, 0, 1), (30, 762, 0, 0), (0, 0, 0, 0), (2, 3, 0, 0), (72, 339, 4, 0), (4, 5, 0, 0), (2, 2, 0, 0), (2, 0, 0, 0), (1, 4, 0, 0), (0, 0, 0, 1), (8, 0, 0, 0), (65, 0, 0, 0), (2, 0, 0, 0), (1, 4, 0, 0), (0, 0, 0, 2), (8, 0, 0, 0), (65, 0, 0, 0), (31, 779, 0, 0), (0, 0, 0, 1), (30, 780, 0, 0), (0, 0, 0, 0), (54, 304, 2, 9), (4, 6, 0, 0), (30, 936, 0, 0), (2, 1, 0, 0), (2, 0, 0, 0), (1, 4, 0, 0), (0, 0, 0, 1), (8, 0, 0, 0), (65, 0, 0, 0), (2, 0, 0, 0), (1, 4, 0, 0), (0, 0, 0, 2), (8, 0, 0, 0), (65, 0, 0, 0), (31, 797, 0, 0), (0, 0, 0, 1), (30, 798, 0, 0), (0, 0, 0, 0), (2, 3, 0, 0), (72, 340, 4, 0), (4, 5, 0, 0), (2, 2, 0, 0), (2, 0, 0, 0), (1, 4, 0, 0), (0, 0, 0, 1), (8, 0, 0, 0), (65, 0, 0, 0), (2, 0, 0, 0), (1, 4, 0, 0), (0, 0, 0, 2), (8, 0, 0, 0), (65, 0, 0, 0), (31, 815, 0, 0), (0, 0, 0, 1), (30, 816, 0, 0), (0, 0, 0, 0), (54, 305, 2, 9), (4, 6, 0, 0), (30, 936, 0, 0), (2, 1, 0, 0), (2, 0, 0, 0), (1, 4, 0, 0), (0, 0, 0, 1), (8, 0, 0, 0), (65, 0, 0, 0), (2, 0, 0, 0), (1, 4, 0, 0), (0, 0, 0, 2), (8, 0, 0, 0), (65, 0, 0, 0), (31, 833, 0, 0), (0, 0, 0, 1), (30, 834, 0, 0), (0, 0, 0, 0), (2, 3, 0, 0), (72, 341, 4, 0), (4, 5, 0, 0), (2, 2, 0, 0), (2, 0, 0, 0), (1, 4, 0, 0), (0, 0, 0, 1), (8, 0, 0, 0), (65, 0, 0, 0), (2, 0, 0, 0), (1, 4, 0, 0), (0, 0, 0, 2), (8, 0, 0, 0), (65, 0, 0, 0), (31, 851, 0, 0), (0, 0, 0, 1), (30, 852, 0, 0), (0, 0, 0, 0), (54, 307, 2, 9), (4, 6, 0, 0), (30, 936, 0, 0), (2, 1, 0, 0), (2, 0, 0, 0), (1, 4, 0, 0), (0, 0, 0, 1), (8, 0, 0, 0), (65, 0, 0, 0), (2, 0, 0, 0), (1, 4, 0, 0), (0, 0, 0, 2), (8, 0, 0, 0), (65, 0, 0, 0), (2, 3, 0, 0), (72, 342, 4, 0), (4, 5, 0, 0), (2, 2, 0, 0), (2, 0, 0, 0), (1, 4, 0, 0), (0, 0, 0, 1), (8, 0, 0, 0), (65, 0, 0, 0), (2, 0, 0, 0), (1, 4, 0, 0), (0, 0, 0, 2), (8, 0, 0, 0), (65, 0, 0, 0), (54, 308, 2, 9), (4, 6, 0, 0), (30, 936, 0, 0), (2, 1, 0, 0), (2, 0, 0, 0), (1, 4, 0, 0), (0, 0, 0, 1), (8, 0, 0, 0), (65, 0, 0, 0), (54, 161, 1, 8), (29, 0, 0, 0), (2, 2, 0, 0), (2, 0, 0, 0), (1, 4, 0, 0), (0, 0, 0, 1), (8, 0, 0, 0), (65, 0, 0, 0), (54, 309, 1, 9), (29, 0, 0, 0), (30, 936, 0, 0), (2, 1, 0, 0), (54, 162, 0, 8), (29, 0, 0, 0), (2, 2, 0, 0), (54, 183, 0, 9), (29, 0, 0, 0), (30, 936, 0, 0), (2, 1, 0, 0), (54, 163, 0, 8), (2, 2, 0, 0), (54, 180, 0, 9), (30, 936, 0, 0), (2, 1, 0, 0), (54, 164, 0, 8), (29, 0, 0, 0), (2, 2, 0, 0), (54, 181, 0, 9), (29, 0, 0, 0), (30, 936, 0, 0), (2, 1, 0, 0), (2, 0, 0, 0), (1, 4, 0, 0), (0, 0, 0, 1), (8, 0, 0, 0), (65, 0, 0, 0), (54, 165, 1, 8), (29, 0, 0, 0), (2, 2, 0, 0), (2, 0, 0, 0), (1, 4, 0, 0), (0, 0, 0, 1), (8, 0, 0, 0), (65, 0, 0, 0), (54, 310, 1, 9), (29, 0, 0, 0), (30, 936, 0, 0), (7, 4, 0, 6), (30, 13, 0, 0), (0, 0, 0, 1), (50, 0, 0, 0)]
noncomputable def z_i343 : List zJ := z_dec cL_law_ 0 (z_wx [(0, [130, 131, 101]), (1, [132, 133, 101, 134]), (1, [1455, 1456, 110]), (1, [1457, 1458, 110, 1459]), (2, [2090]), (41, [391, 392, 393, 101, 394]), (27, [1543, 1544, 1545, 110, 1546]), (8, [399, 400, 401, 101, 402]), (7, [1547, 1548, 1549, 110, 1550]), (4, [619, 620, 100, 621]), (2, [1555, 1556, 1557, 110, 1558]), (4, [882, 883, 100, 884]), (2, [1731, 1732, 1733, 110, 1734]), (3, [403, 404, 405, 101, 406]), (2, [1551, 1552, 1553, 110, 1554]), (9, [990, 991, 100, 992]), (7, [1735, 1736, 1737, 110, 1738]), (14, [1018, 1019, 100, 1020]), (12, [1745, 1746, 1747, 110, 1748]), (19, [1067, 1068, 100, 1069]), (17, [1782, 1783, 1784, 110, 1785]), (14, [1108, 1109, 100, 1110]), (12, [1829, 1830, 1831, 110, 1832]), (14, [1133, 1134, 100, 1135]), (12, [1841, 1842, 1843, 110, 1844]), (14, [1178, 1179, 100, 1180]), (12, [1850, 1851, 1852, 110, 1853]), (14, [1185, 1186, 100, 1187]), (12, [1854, 1855, 1856, 110, 1857]), (9, [1192, 1193, 100, 1194]), (7, [1862, 1863, 1864, 110, 1865]), (9, [1199, 1200, 100, 1201]), (7, [1866, 1867, 1868, 110, 1869]), (2, [1451, 1452, 1453, 110, 1454]), (23, [1208, 1209, 100, 1210]), (7, [1878, 1879, 1880, 110, 1881]), (4, [1219, 1220, 100, 1221]), (2, [1882, 1883, 1884, 110, 1885]), (3, [407, 408, 409, 101, 410]), (2, [1886, 1887, 1888, 110, 1889]), (9, [1226, 1227, 100, 1228]), (7, [1890, 1891, 1892, 110, 1893]), (3, [440, 441, 442, 101, 443]), (2, [1943, 1944, 1945, 110, 1946]), (14, [1276, 1277, 100, 1278]), (12, [1947, 1948, 1949, 110, 1950]), (3, [454, 455, 456, 101, 457]), (2, [1963, 1964, 1965, 110, 1966]), (3, [470, 471, 472, 101, 473]), (2, [1987, 1988, 1989, 110, 1990]), (3, [488, 489, 490, 101, 491]), (2, [2003, 2004, 2005, 110, 2006]), (3, [509, 510, 511, 101, 512]), (2, [1971, 1972, 1973, 110, 1974]), (8, [517, 518, 519, 101, 520]), (7, [2011, 2012, 2013, 110, 2014]), (14, [1284, 1285, 100, 1286]), (12, [2023, 2024, 2025, 110, 2026]), (9, [1300, 1301, 100, 1302]), (7, [1975, 1976, 1977, 110, 1978]), (19, [1317, 1318, 100, 1319]), (17, [2030, 2031, 2032, 110, 2033]), (13, [1334, 1335, 100, 1336]), (11, [2038, 2039, 2040, 110, 2041]), (3, [529, 530, 531, 101, 532]), (2, [2046, 2047, 2048, 110, 2049]), (3, [542, 543, 544, 101, 545]), (2, [1959, 1960, 1961, 110, 1962]), (9, [1358, 1359, 100, 1360]), (7, [1983, 1984, 1985, 110, 1986]), (3, [555, 556, 557, 101, 558]), (2, [1967, 1968, 1969, 110, 1970]), (14, [1371, 1372, 100, 1373]), (12, [1919, 1920, 1921, 110, 1922]), (9, [1378, 1379, 100, 1380]), (7, [1931, 1932, 1933, 110, 1934]), (9, [1385, 1386, 100, 1387]), (7, [1935, 1936, 1937, 110, 1938]), (9, [1392, 1393, 100, 1394]), (7, [1939, 1940, 1941, 110, 1942]), (3, [562, 563, 564, 101, 565]), (2, [2050, 2051, 2052, 110, 2053]), (3, [569, 570, 571, 101, 572]), (2, [2054, 2055, 2056, 110, 2057]), (18, [1399, 1400, 100, 1401]), (16, [2058, 2059, 2060, 110, 2061]), (18, [1414, 1415, 100, 1416]), (16, [2066, 2067, 2068, 110, 2069]), (18, [1423, 1424, 100, 1425]), (16, [2070, 2071, 2072, 110, 2073]), (14, [1443, 1444, 100, 1445]), (12, [2078, 2079, 2080, 110, 2081]), (8, [582, 583, 584, 101, 585]), (7, [2082, 2083, 2084, 110, 2085]), (3, [586, 587, 588, 101, 589]), (2, [1539, 1540, 1541, 110, 1542]), (3, [594, 595, 596, 101, 597]), (1, [1531, 1532, 1533, 110, 1534]), (2, [599, 600, 601, 101, 602]), (2, [1535, 1536, 1537, 110, 1538]), (8, [607, 608, 609, 101, 610]), (7, [2086, 2087, 2088, 110, 2089])] 6)
noncomputable def z_h343 : List (Nat × Nat × Nat × Nat × Nat × Nat × Nat) := []
noncomputable def z_m344 : zMi := (RX12, yX12_thrown, cX12_thrown, 1, some .int, [])
noncomputable def z_c344 : List zI := [(2, 0, 0, 0), (37, 9, 0, 0), (50, 0, 0, 0)]
noncomputable def z_i344 : List zJ := z_dec cX12_thrown 0 (z_wx [(1, [1461])] 1)
noncomputable def z_h344 : List (Nat × Nat × Nat × Nat × Nat × Nat × Nat) := []
noncomputable def z_df : List (List Value) := [[.null, .null, .null, .null, .int 0], [.null, .null, .null, .null, .null, .null, .int 0, .int 0, .int 0, .int 0, .int 0, .int 0, .int 0, .int 0, .int 0, .int 0, .int 0, .int 0], [.int 0, .null, .null, .null, .null, .null], [.null, .null, .null, .null, .int 0, .int 0], [.null, .int 0, .int 0], [.null, .int 0, .int 0], [.null, .int 0, .int 0, .int 0], [.null, .null, .int 0, .int 0], [.null, .null, .null, .null, .null, .null, .int 0, .int 0], [.int 0, .null, .null, .null, .null, .null, .int 0, .int 0, .null, .int 0, .int 0, .int 0, .int 0, .int 0, .int 0, .null, .int 0, .null, .null, .null, .null, .null, .int 0]]
noncomputable def z_lp0 : List Nat := [212, 214, 216, 218, 220]
noncomputable def z_lp1 : List Nat := [309, 311, 313, 315, 317, 319, 321, 323, 325, 327, 329, 331, 333, 335, 337, 339, 341, 343]
noncomputable def z_lp2 : List Nat := [977, 979, 981, 983, 985, 987]
noncomputable def z_lp3 : List Nat := [171, 173, 175, 177, 179, 181]
noncomputable def z_lp4 : List Nat := [259, 261, 263]
noncomputable def z_lp5 : List Nat := [359, 361, 363]
noncomputable def z_lp6 : List Nat := [149, 151, 153, 155]
noncomputable def z_lp7 : List Nat := [240, 242, 244, 246]
noncomputable def z_lp8 : List Nat := [374, 376, 378, 380, 382, 384, 386, 388]
noncomputable def z_lp9 : List Nat := [1484, 1486, 1488, 1490, 1492, 1494, 1496, 1498, 1500, 1502, 1504, 1506, 1508, 1510, 1512, 1514, 1516, 1518, 1520, 1522, 1524, 1526, 1528]
noncomputable def z_ms_0 : List (zMi) := [z_m0, z_m1, z_m2, z_m3, z_m4, z_m5, z_m6, z_m7, z_m8, z_m9, z_m10, z_m11, z_m12, z_m13, z_m14, z_m15, z_m16, z_m17, z_m18, z_m19, z_m20, z_m21, z_m22, z_m23, z_m24, z_m25, z_m26, z_m27, z_m28, z_m29, z_m30, z_m31, z_m32, z_m33, z_m34, z_m35, z_m36, z_m37, z_m38, z_m39, z_m40, z_m41, z_m42]
noncomputable def z_ms_1 : List (zMi) := [z_m43, z_m44, z_m45, z_m46, z_m47, z_m48, z_m49, z_m50, z_m51, z_m52, z_m53, z_m54, z_m55, z_m56, z_m57, z_m58, z_m59, z_m60, z_m61, z_m62, z_m63, z_m64, z_m65, z_m66, z_m67, z_m68, z_m69, z_m70, z_m71, z_m72, z_m73, z_m74, z_m75, z_m76, z_m77, z_m78, z_m79, z_m80, z_m81, z_m82, z_m83, z_m84, z_m85]
noncomputable def z_ms_2 : List (zMi) := [z_m86, z_m87, z_m88, z_m89, z_m90, z_m91, z_m92, z_m93, z_m94, z_m95, z_m96, z_m97, z_m98, z_m99, z_m100, z_m101, z_m102, z_m103, z_m104, z_m105, z_m106, z_m107, z_m108, z_m109, z_m110, z_m111, z_m112, z_m113, z_m114, z_m115, z_m116, z_m117, z_m118, z_m119, z_m120, z_m121, z_m122, z_m123, z_m124, z_m125, z_m126, z_m127, z_m128]
noncomputable def z_ms_3 : List (zMi) := [z_m129, z_m130, z_m131, z_m132, z_m133, z_m134, z_m135, z_m136, z_m137, z_m138, z_m139, z_m140, z_m141, z_m142, z_m143, z_m144, z_m145, z_m146, z_m147, z_m148, z_m149, z_m150, z_m151, z_m152, z_m153, z_m154, z_m155, z_m156, z_m157, z_m158, z_m159, z_m160, z_m161, z_m162, z_m163, z_m164, z_m165, z_m166, z_m167, z_m168, z_m169, z_m170, z_m171]
noncomputable def z_ms_4 : List (zMi) := [z_m172, z_m173, z_m174, z_m175, z_m176, z_m177, z_m178, z_m179, z_m180, z_m181, z_m182, z_m183, z_m184, z_m185, z_m186, z_m187, z_m188, z_m189, z_m190, z_m191, z_m192, z_m193, z_m194, z_m195, z_m196, z_m197, z_m198, z_m199, z_m200, z_m201, z_m202, z_m203, z_m204, z_m205, z_m206, z_m207, z_m208, z_m209, z_m210, z_m211, z_m212, z_m213, z_m214]
noncomputable def z_ms_5 : List (zMi) := [z_m215, z_m216, z_m217, z_m218, z_m219, z_m220, z_m221, z_m222, z_m223, z_m224, z_m225, z_m226, z_m227, z_m228, z_m229, z_m230, z_m231, z_m232, z_m233, z_m234, z_m235, z_m236, z_m237, z_m238, z_m239, z_m240, z_m241, z_m242, z_m243, z_m244, z_m245, z_m246, z_m247, z_m248, z_m249, z_m250, z_m251, z_m252, z_m253, z_m254, z_m255, z_m256, z_m257]
noncomputable def z_ms_6 : List (zMi) := [z_m258, z_m259, z_m260, z_m261, z_m262, z_m263, z_m264, z_m265, z_m266, z_m267, z_m268, z_m269, z_m270, z_m271, z_m272, z_m273, z_m274, z_m275, z_m276, z_m277, z_m278, z_m279, z_m280, z_m281, z_m282, z_m283, z_m284, z_m285, z_m286, z_m287, z_m288, z_m289, z_m290, z_m291, z_m292, z_m293, z_m294, z_m295, z_m296, z_m297, z_m298, z_m299, z_m300]
noncomputable def z_ms_7 : List (zMi) := [z_m301, z_m302, z_m303, z_m304, z_m305, z_m306, z_m307, z_m308, z_m309, z_m310, z_m311, z_m312, z_m313, z_m314, z_m315, z_m316, z_m317, z_m318, z_m319, z_m320, z_m321, z_m322, z_m323, z_m324, z_m325, z_m326, z_m327, z_m328, z_m329, z_m330, z_m331, z_m332, z_m333, z_m334, z_m335, z_m336, z_m337, z_m338, z_m339, z_m340, z_m341, z_m342, z_m343]
noncomputable def z_ms_8 : List (zMi) := [z_m344]
noncomputable def z_ms : List (zMi) := z_ms_0 ++ (z_ms_1 ++ (z_ms_2 ++ (z_ms_3 ++ (z_ms_4 ++ (z_ms_5 ++ (z_ms_6 ++ (z_ms_7 ++ (z_ms_8))))))))
noncomputable def z_cs_0 : List (List zI) := [z_c0, z_c1, z_c2, z_c3, z_c4, z_c5, z_c6, z_c7, z_c8, z_c9, z_c10, z_c11, z_c12, z_c13, z_c14, z_c15, z_c16, z_c17, z_c18, z_c19, z_c20, z_c21, z_c22, z_c23, z_c24, z_c25, z_c26, z_c27, z_c28, z_c29, z_c30, z_c31, z_c32, z_c33, z_c34, z_c35, z_c36, z_c37, z_c38, z_c39, z_c40, z_c41, z_c42]
noncomputable def z_cs_1 : List (List zI) := [z_c43, z_c44, z_c45, z_c46, z_c47, z_c48, z_c49, z_c50, z_c51, z_c52, z_c53, z_c54, z_c55, z_c56, z_c57, z_c58, z_c59, z_c60, z_c61, z_c62, z_c63, z_c64, z_c65, z_c66, z_c67, z_c68, z_c69, z_c70, z_c71, z_c72, z_c73, z_c74, z_c75, z_c76, z_c77, z_c78, z_c79, z_c80, z_c81, z_c82, z_c83, z_c84, z_c85]
noncomputable def z_cs_2 : List (List zI) := [z_c86, z_c87, z_c88, z_c89, z_c90, z_c91, z_c92, z_c93, z_c94, z_c95, z_c96, z_c97, z_c98, z_c99, z_c100, z_c101, z_c102, z_c103, z_c104, z_c105, z_c106, z_c107, z_c108, z_c109, z_c110, z_c111, z_c112, z_c113, z_c114, z_c115, z_c116, z_c117, z_c118, z_c119, z_c120, z_c121, z_c122, z_c123, z_c124, z_c125, z_c126, z_c127, z_c128]
noncomputable def z_cs_3 : List (List zI) := [z_c129, z_c130, z_c131, z_c132, z_c133, z_c134, z_c135, z_c136, z_c137, z_c138, z_c139, z_c140, z_c141, z_c142, z_c143, z_c144, z_c145, z_c146, z_c147, z_c148, z_c149, z_c150, z_c151, z_c152, z_c153, z_c154, z_c155, z_c156, z_c157, z_c158, z_c159, z_c160, z_c161, z_c162, z_c163, z_c164, z_c165, z_c166, z_c167, z_c168, z_c169, z_c170, z_c171]
noncomputable def z_cs_4 : List (List zI) := [z_c172, z_c173, z_c174, z_c175, z_c176, z_c177, z_c178, z_c179, z_c180, z_c181, z_c182, z_c183, z_c184, z_c185, z_c186, z_c187, z_c188, z_c189, z_c190, z_c191, z_c192, z_c193, z_c194, z_c195, z_c196, z_c197, z_c198, z_c199, z_c200, z_c201, z_c202, z_c203, z_c204, z_c205, z_c206, z_c207, z_c208, z_c209, z_c210, z_c211, z_c212, z_c213, z_c214]
noncomputable def z_cs_5 : List (List zI) := [z_c215, z_c216, z_c217, z_c218, z_c219, z_c220, z_c221, z_c222, z_c223, z_c224, z_c225, z_c226, z_c227, z_c228, z_c229, z_c230, z_c231, z_c232, z_c233, z_c234, z_c235, z_c236, z_c237, z_c238, z_c239, z_c240, z_c241, z_c242, z_c243, z_c244, z_c245, z_c246, z_c247, z_c248, z_c249, z_c250, z_c251, z_c252, z_c253, z_c254, z_c255, z_c256, z_c257]
noncomputable def z_cs_6 : List (List zI) := [z_c258, z_c259, z_c260, z_c261, z_c262, z_c263, z_c264, z_c265, z_c266, z_c267, z_c268, z_c269, z_c270, z_c271, z_c272, z_c273, z_c274, z_c275, z_c276, z_c277, z_c278, z_c279, z_c280, z_c281, z_c282, z_c283, z_c284, z_c285, z_c286, z_c287, z_c288, z_c289, z_c290, z_c291, z_c292, z_c293, z_c294, z_c295, z_c296, z_c297, z_c298, z_c299, z_c300]
noncomputable def z_cs_7 : List (List zI) := [z_c301, z_c302, z_c303, z_c304, z_c305, z_c306, z_c307, z_c308, z_c309, z_c310, z_c311, z_c312, z_c313, z_c314, z_c315, z_c316, z_c317, z_c318, z_c319, z_c320, z_c321, z_c322, z_c323, z_c324, z_c325, z_c326, z_c327, z_c328, z_c329, z_c330, z_c331, z_c332, z_c333, z_c334, z_c335, z_c336, z_c337, z_c338, z_c339, z_c340, z_c341, z_c342, z_c343]
noncomputable def z_cs_8 : List (List zI) := [z_c344]
noncomputable def z_cs : List (List zI) := z_cs_0 ++ (z_cs_1 ++ (z_cs_2 ++ (z_cs_3 ++ (z_cs_4 ++ (z_cs_5 ++ (z_cs_6 ++ (z_cs_7 ++ (z_cs_8))))))))
noncomputable def z_is_0 : List (List zJ) := [z_i0, z_i1, z_i2, z_i3, z_i4, z_i5, z_i6, z_i7, z_i8, z_i9, z_i10, z_i11, z_i12, z_i13, z_i14, z_i15, z_i16, z_i17, z_i18, z_i19, z_i20, z_i21, z_i22, z_i23, z_i24, z_i25, z_i26, z_i27, z_i28, z_i29, z_i30, z_i31, z_i32, z_i33, z_i34, z_i35, z_i36, z_i37, z_i38, z_i39, z_i40, z_i41, z_i42]
noncomputable def z_is_1 : List (List zJ) := [z_i43, z_i44, z_i45, z_i46, z_i47, z_i48, z_i49, z_i50, z_i51, z_i52, z_i53, z_i54, z_i55, z_i56, z_i57, z_i58, z_i59, z_i60, z_i61, z_i62, z_i63, z_i64, z_i65, z_i66, z_i67, z_i68, z_i69, z_i70, z_i71, z_i72, z_i73, z_i74, z_i75, z_i76, z_i77, z_i78, z_i79, z_i80, z_i81, z_i82, z_i83, z_i84, z_i85]
noncomputable def z_is_2 : List (List zJ) := [z_i86, z_i87, z_i88, z_i89, z_i90, z_i91, z_i92, z_i93, z_i94, z_i95, z_i96, z_i97, z_i98, z_i99, z_i100, z_i101, z_i102, z_i103, z_i104, z_i105, z_i106, z_i107, z_i108, z_i109, z_i110, z_i111, z_i112, z_i113, z_i114, z_i115, z_i116, z_i117, z_i118, z_i119, z_i120, z_i121, z_i122, z_i123, z_i124, z_i125, z_i126, z_i127, z_i128]
noncomputable def z_is_3 : List (List zJ) := [z_i129, z_i130, z_i131, z_i132, z_i133, z_i134, z_i135, z_i136, z_i137, z_i138, z_i139, z_i140, z_i141, z_i142, z_i143, z_i144, z_i145, z_i146, z_i147, z_i148, z_i149, z_i150, z_i151, z_i152, z_i153, z_i154, z_i155, z_i156, z_i157, z_i158, z_i159, z_i160, z_i161, z_i162, z_i163, z_i164, z_i165, z_i166, z_i167, z_i168, z_i169, z_i170, z_i171]
noncomputable def z_is_4 : List (List zJ) := [z_i172, z_i173, z_i174, z_i175, z_i176, z_i177, z_i178, z_i179, z_i180, z_i181, z_i182, z_i183, z_i184, z_i185, z_i186, z_i187, z_i188, z_i189, z_i190, z_i191, z_i192, z_i193, z_i194, z_i195, z_i196, z_i197, z_i198, z_i199, z_i200, z_i201, z_i202, z_i203, z_i204, z_i205, z_i206, z_i207, z_i208, z_i209, z_i210, z_i211, z_i212, z_i213, z_i214]
noncomputable def z_is_5 : List (List zJ) := [z_i215, z_i216, z_i217, z_i218, z_i219, z_i220, z_i221, z_i222, z_i223, z_i224, z_i225, z_i226, z_i227, z_i228, z_i229, z_i230, z_i231, z_i232, z_i233, z_i234, z_i235, z_i236, z_i237, z_i238, z_i239, z_i240, z_i241, z_i242, z_i243, z_i244, z_i245, z_i246, z_i247, z_i248, z_i249, z_i250, z_i251, z_i252, z_i253, z_i254, z_i255, z_i256, z_i257]
noncomputable def z_is_6 : List (List zJ) := [z_i258, z_i259, z_i260, z_i261, z_i262, z_i263, z_i264, z_i265, z_i266, z_i267, z_i268, z_i269, z_i270, z_i271, z_i272, z_i273, z_i274, z_i275, z_i276, z_i277, z_i278, z_i279, z_i280, z_i281, z_i282, z_i283, z_i284, z_i285, z_i286, z_i287, z_i288, z_i289, z_i290, z_i291, z_i292, z_i293, z_i294, z_i295, z_i296, z_i297, z_i298, z_i299, z_i300]
noncomputable def z_is_7 : List (List zJ) := [z_i301, z_i302, z_i303, z_i304, z_i305, z_i306, z_i307, z_i308, z_i309, z_i310, z_i311, z_i312, z_i313, z_i314, z_i315, z_i316, z_i317, z_i318, z_i319, z_i320, z_i321, z_i322, z_i323, z_i324, z_i325, z_i326, z_i327, z_i328, z_i329, z_i330, z_i331, z_i332, z_i333, z_i334, z_i335, z_i336, z_i337, z_i338, z_i339, z_i340, z_i341, z_i342, z_i343]
noncomputable def z_is_8 : List (List zJ) := [z_i344]
noncomputable def z_is : List (List zJ) := z_is_0 ++ (z_is_1 ++ (z_is_2 ++ (z_is_3 ++ (z_is_4 ++ (z_is_5 ++ (z_is_6 ++ (z_is_7 ++ (z_is_8))))))))
noncomputable def z_hs_0 : List (List (Nat × Nat × Nat × Nat × Nat × Nat × Nat)) := [z_h0, z_h1, z_h2, z_h3, z_h4, z_h5, z_h6, z_h7, z_h8, z_h9, z_h10, z_h11, z_h12, z_h13, z_h14, z_h15, z_h16, z_h17, z_h18, z_h19, z_h20, z_h21, z_h22, z_h23, z_h24, z_h25, z_h26, z_h27, z_h28, z_h29, z_h30, z_h31, z_h32, z_h33, z_h34, z_h35, z_h36, z_h37, z_h38, z_h39, z_h40, z_h41, z_h42]
noncomputable def z_hs_1 : List (List (Nat × Nat × Nat × Nat × Nat × Nat × Nat)) := [z_h43, z_h44, z_h45, z_h46, z_h47, z_h48, z_h49, z_h50, z_h51, z_h52, z_h53, z_h54, z_h55, z_h56, z_h57, z_h58, z_h59, z_h60, z_h61, z_h62, z_h63, z_h64, z_h65, z_h66, z_h67, z_h68, z_h69, z_h70, z_h71, z_h72, z_h73, z_h74, z_h75, z_h76, z_h77, z_h78, z_h79, z_h80, z_h81, z_h82, z_h83, z_h84, z_h85]
noncomputable def z_hs_2 : List (List (Nat × Nat × Nat × Nat × Nat × Nat × Nat)) := [z_h86, z_h87, z_h88, z_h89, z_h90, z_h91, z_h92, z_h93, z_h94, z_h95, z_h96, z_h97, z_h98, z_h99, z_h100, z_h101, z_h102, z_h103, z_h104, z_h105, z_h106, z_h107, z_h108, z_h109, z_h110, z_h111, z_h112, z_h113, z_h114, z_h115, z_h116, z_h117, z_h118, z_h119, z_h120, z_h121, z_h122, z_h123, z_h124, z_h125, z_h126, z_h127, z_h128]
noncomputable def z_hs_3 : List (List (Nat × Nat × Nat × Nat × Nat × Nat × Nat)) := [z_h129, z_h130, z_h131, z_h132, z_h133, z_h134, z_h135, z_h136, z_h137, z_h138, z_h139, z_h140, z_h141, z_h142, z_h143, z_h144, z_h145, z_h146, z_h147, z_h148, z_h149, z_h150, z_h151, z_h152, z_h153, z_h154, z_h155, z_h156, z_h157, z_h158, z_h159, z_h160, z_h161, z_h162, z_h163, z_h164, z_h165, z_h166, z_h167, z_h168, z_h169, z_h170, z_h171]
noncomputable def z_hs_4 : List (List (Nat × Nat × Nat × Nat × Nat × Nat × Nat)) := [z_h172, z_h173, z_h174, z_h175, z_h176, z_h177, z_h178, z_h179, z_h180, z_h181, z_h182, z_h183, z_h184, z_h185, z_h186, z_h187, z_h188, z_h189, z_h190, z_h191, z_h192, z_h193, z_h194, z_h195, z_h196, z_h197, z_h198, z_h199, z_h200, z_h201, z_h202, z_h203, z_h204, z_h205, z_h206, z_h207, z_h208, z_h209, z_h210, z_h211, z_h212, z_h213, z_h214]
noncomputable def z_hs_5 : List (List (Nat × Nat × Nat × Nat × Nat × Nat × Nat)) := [z_h215, z_h216, z_h217, z_h218, z_h219, z_h220, z_h221, z_h222, z_h223, z_h224, z_h225, z_h226, z_h227, z_h228, z_h229, z_h230, z_h231, z_h232, z_h233, z_h234, z_h235, z_h236, z_h237, z_h238, z_h239, z_h240, z_h241, z_h242, z_h243, z_h244, z_h245, z_h246, z_h247, z_h248, z_h249, z_h250, z_h251, z_h252, z_h253, z_h254, z_h255, z_h256, z_h257]
noncomputable def z_hs_6 : List (List (Nat × Nat × Nat × Nat × Nat × Nat × Nat)) := [z_h258, z_h259, z_h260, z_h261, z_h262, z_h263, z_h264, z_h265, z_h266, z_h267, z_h268, z_h269, z_h270, z_h271, z_h272, z_h273, z_h274, z_h275, z_h276, z_h277, z_h278, z_h279, z_h280, z_h281, z_h282, z_h283, z_h284, z_h285, z_h286, z_h287, z_h288, z_h289, z_h290, z_h291, z_h292, z_h293, z_h294, z_h295, z_h296, z_h297, z_h298, z_h299, z_h300]
noncomputable def z_hs_7 : List (List (Nat × Nat × Nat × Nat × Nat × Nat × Nat)) := [z_h301, z_h302, z_h303, z_h304, z_h305, z_h306, z_h307, z_h308, z_h309, z_h310, z_h311, z_h312, z_h313, z_h314, z_h315, z_h316, z_h317, z_h318, z_h319, z_h320, z_h321, z_h322, z_h323, z_h324, z_h325, z_h326, z_h327, z_h328, z_h329, z_h330, z_h331, z_h332, z_h333, z_h334, z_h335, z_h336, z_h337, z_h338, z_h339, z_h340, z_h341, z_h342, z_h343]
noncomputable def z_hs_8 : List (List (Nat × Nat × Nat × Nat × Nat × Nat × Nat)) := [z_h344]
noncomputable def z_hs : List (List (Nat × Nat × Nat × Nat × Nat × Nat × Nat)) := z_hs_0 ++ (z_hs_1 ++ (z_hs_2 ++ (z_hs_3 ++ (z_hs_4 ++ (z_hs_5 ++ (z_hs_6 ++ (z_hs_7 ++ (z_hs_8))))))))
end
section
/-! what a frame stands on, what the room and the start give -/
noncomputable def z_T : List Cond := lw_tbl.filter goodWord
/-- a cheap number of a word: words of two numbers are two -/
noncomputable def z_key : Cond → Nat
  | .methodLink _ i _ => 16 * i + 1
  | .classLink _ i _ => 16 * i + 2
  | .fieldLink _ i _ _ _ => 16 * i + 3
  | .code _ _ n _ => 16 * n + 4
  | .codeWith _ _ n _ _ => 16 * n + 5
  | .instantiable _ n => 16 * n + 6
  | .stringRef _ n _ => 16 * n + 7
  | .initialized _ => 8
  | .static _ => 9
  | .lays _ _ _ _ => 10
  | .laysFinal _ _ _ _ => 11
  | .instanceMethod _ => 13
  | .selects _ _ _ => 14
  | .privateMethod _ => 15
  | .soleField _ _ => 0
  | _ => 12
noncomputable def z_mk (w : Cond) (T : List Cond) : Bool := T.any (fun v => Nat.beq (z_key w) (z_key v) && decide (w = v))
theorem z_mk_ok {w : Cond} {T : List Cond} (h : z_mk w T = true) : w ∈ T := by
  unfold z_mk at h
  obtain ⟨v, hv, e⟩ := List.any_eq_true.mp h
  rw [Bool.and_eq_true, decide_eq_true_eq] at e
  rw [e.2]
  exact hv
/-- the table from each 64th word on -/
noncomputable def z_chn : Nat → List Cond → List (List Cond)
  | 0, _ => []
  | n + 1, L => L :: z_chn n (L.drop 64)
theorem z_chn_in {w : Cond} : ∀ {n : Nat} {L L' : List Cond}, L' ∈ z_chn n L → w ∈ L' → w ∈ L
  | 0, _, _, h, _ => by cases h
  | n + 1, L, L', h, hw => by
    rcases List.mem_cons.mp h with rfl | h
    · exact hw
    · exact List.mem_of_mem_drop (z_chn_in h hw)
noncomputable def z_chs : List (List Cond) := z_chn 40 lw_tbl
noncomputable def z_w (w : Cond) (i : Nat) : Bool := (match z_chs[i / 64]? with
  | some L => decide (L[i % 64]? = some w)
  | none => false) && goodWord w
theorem z_w_in {w : Cond} {i : Nat} (h : z_w w i = true) : w ∈ z_T := by
  unfold z_w at h
  rw [Bool.and_eq_true] at h
  obtain ⟨h1, h2⟩ := h
  split at h1
  · next L hL => exact List.mem_filter.mpr ⟨z_chn_in (List.mem_of_getElem? hL) (List.mem_of_getElem? (of_decide_eq_true h1)), h2⟩
  · cases h1
noncomputable def z_Fr (p : Program) (s : State) (m : MethodId) (args : Array Value) (meth : Method) (c : Code) (M : zMi) : Prop :=
  p.tables.exec = Jvm.exec ∧ c.code = M.2.2.1 ∧ c.maxLocals = M.2.2.2.1 ∧ meth.sig.returnType = M.2.2.2.2.1 ∧ s.vm.findClass M.1 = some m.cls ∧ (∀ w ∈ z_T, w.before args s = true) ∧ meth.locks = false ∧ c.exceptionTable.toList = tableOf M.2.2.2.2.2 ∧ meth.name = M.2.1.name
noncomputable def z_tys (tc : Nat → ClassId) : List (ClassId × FieldType) := [(tc 0, .int), (tc 1, .byte), (tc 2, .long), (tc 3, .object RX2)]
noncomputable def z_nest : List Cond := [.methodLinkNest RX11 9 yX8_init RX11, .methodLinkNest RX11 18 yX4_init RX11, .methodLinkNest RX2 17 yX1_init RX11, .methodLinkNest RX2 24 yX9_init RX11, .methodLinkNest RX2 31 yX5_init RX11]
noncomputable def z_xw : List Cond := [.declares (Bundle.initS "java/lang/RuntimeException"), .declares (Bundle.initS "java/lang/Exception"), .declares (Bundle.initS "java/lang/Throwable"), .castable "java/lang/IllegalArgumentException" "java/lang/IllegalArgumentException", .castable "java/lang/UnsupportedOperationException" "java/lang/UnsupportedOperationException", .castable "java/lang/IndexOutOfBoundsException" "java/lang/IndexOutOfBoundsException", .castable "java/util/NoSuchElementException" "java/util/NoSuchElementException", .castable "java/lang/IllegalStateException" "java/lang/IllegalStateException"]
/-- what stays as it is below Z: the classes, the texts, the script -/
noncomputable def z_K (l : Launch) (Z : Nat) (D : va_G) (tc : Nat → ClassId) (adK adV : Nat → Nat) (sb : Nat) (sx : zX) (U : State) : Prop :=
  Z ≤ U.heap.size ∧ va_K D vwCl (z_tys tc) U ∧
  (∀ (k : Nat) (q : String × Nat × String × List Int32), z_strs[k]? = some q → vk_R q.1 q.2.1 q.2.2.1 (adK k) U ∧ vk_S 1 [q.2.2.2.length] [q.2.2.2] (fun _ => adK k) (fun _ => adV k) (fun q => Z ≤ q) U U.heap) ∧
  vx_Zq Bundle.tN "UNASSIGNED_STACK" Bundle.steD (fun q => Z ≤ q) U U.heap ∧ vx_Zq Bundle.tN "SUPPRESSED_SENTINEL" Bundle.listD (fun q => Z ≤ q) U U.heap ∧
  (∀ w ∈ z_nest, va_Nw w U) ∧ va_AO RX2 U ∧ va_X sb sx.1 sx.2 U U.heap ∧ sb < Z ∧ l.stackTraces = false ∧
  va_Z "java/lang/String" "COMPACT_STRINGS" "Z" (.int 1) (fun q => Z ≤ q) U U.heap ∧ va_Zq "jdk/internal/util/Preconditions" "SIOOBE_FORMATTER" "Ljava/util/function/BiFunction;" (fun q => Z ≤ q) U U.heap ∧
  va_Nw (.castable "[I" "java/lang/Cloneable") U ∧ (∀ a ∈ z_excs, ∀ b ∈ z_excs, a ≠ b → va_Nc a b U) ∧ ∀ w ∈ z_xw, va_Nw w U
noncomputable def z_A0 (adK : Nat → Nat) (sb : Nat) (ad0 : Nat → Nat) : Prop := (∀ k, k < z_strs.length → ad0 (zB + k) = adK k) ∧ ad0 zS = sb
noncomputable def z_Rm (R : Room) (d C S : Nat) : Prop := d ≤ R.frames ∧ 60 * d ≤ R.locals ∧ C ≤ R.cells ∧ S ≤ R.slots
/-- from here the machine comes to Q, whatever the machine's heap that holds h -/
noncomputable def z_W (p : Program) (l : Launch) (e : Env) (R : Room) (s : State) (m : MethodId) (args : Array Value) (below : List Frame) (meth : Method) (c : Code) (Z : Nat) (D : va_G) (tc : Nat → ClassId) (M : zMi) (nx : Nat → Nat) (ad0 : Nat → Nat) (n0 C S : Nat) (Q : State → Prop) (k : Nat) (lo : zL) (st : List Value) (h : zH) (kc ks : Nat) : Prop :=
  ∀ (ad : Nat → Nat) (H : Heap) (locs : List Loc) (ls : Array Slot) (cells slots : Nat), z_R Z D tc ad h H → z_ag n0 ad0 ad → n0 ≤ h.length → va_S (fun q => Z ≤ q) s.heap H locs → lv_has ls M.2.2.2.1 (z_tl ad lo) → (∀ q ∈ lo, z_okV h.length q.2) → (∀ v ∈ st, z_okV h.length v) → cells + kc = C → slots + ks = S →
    W p l e R s m args below meth c H locs cells slots Q (F0 m (nx k) ls (st.map (z_tr ad)))
abbrev zNop : Type := zX → Nat → Nat → Nat → Int → Nat → zL → List Value → zH → Option zN
abbrev zCk : Type := zMi → Nat → Nat → Int → Nat → Instr → Nat → List Nat → (Nat → Nat) → Nat → Bool
/-- a step of the abstract machine is the machine's -/
noncomputable def z_Sn (op : zNop) (ck : zCk) : Prop := ∀ (p : Program) (l : Launch) (e : Env) (R : Room) (s : State) (m : MethodId) (args : Array Value) (below : List Frame) (meth : Method) (c : Code) (Z : Nat) (D : va_G) (tc : Nat → ClassId) (adK adV : Nat → Nat) (sb : Nat) (sx : zX) (M : zMi) (nx : Nat → Nat) (ad0 : Nat → Nat) (n0 C S d : Nat) (Q : State → Prop) (a b : Nat) (ci : Int) (k : Nat) (ins : Instr) (len : Nat) (pl : List Nat),
  z_Fr p s m args meth c M → z_K l Z D tc adK adV sb sx s → z_A0 adK sb ad0 → z_Rm R d C S → decode M.2.2.1 (nx k) = .ok (ins, len) → ck M a b ci (nx k) ins len pl nx k = true →
  ∀ (lo : zL) (st : List Value) (h : zH) (k' : Nat) (lo' : zL) (st' : List Value) (h' : zH) (x y : Nat), op sx d a b ci k lo st h = some (k', lo', st', h', x, y) → ∀ kc ks, z_W p l e R s m args below meth c Z D tc M nx ad0 n0 C S Q k' lo' st' h' kc ks → z_W p l e R s m args below meth c Z D tc M nx ad0 n0 C S Q k lo st h (kc + x) (ks + y)
noncomputable def zn (k : Nat) (l : zL) (st : List Value) (h : zH) : Option zN := some (k, l, st, h, 0, 0)
theorem zn_inj {k k' : Nat} {l l' : zL} {st st' : List Value} {h h' : zH} {x y : Nat} (e : zn k l st h = some (k', l', st', h', x, y)) : k' = k ∧ l' = l ∧ st' = st ∧ h' = h ∧ x = 0 ∧ y = 0 := by
  unfold zn at e
  simp only [Option.some.injEq, Prod.mk.injEq] at e
  obtain ⟨h1, h2, h3, h4, h5, h6⟩ := e
  exact ⟨h1.symm, h2.symm, h3.symm, h4.symm, h5.symm, h6.symm⟩
theorem z_okC {n : Nat} {v : Value} {st : List Value} (hv : z_okV n v) (h : ∀ w ∈ st, z_okV n w) : ∀ w ∈ v :: st, z_okV n w := fun w hw => (List.mem_cons.mp hw).elim (fun e => by rw [e]; exact hv) (h w)
theorem z_ok1 {n : Nat} {v : Value} {st : List Value} (h : ∀ w ∈ v :: st, z_okV n w) : z_okV n v := h v List.mem_cons_self
theorem z_okT {n : Nat} {v : Value} {st : List Value} (h : ∀ w ∈ v :: st, z_okV n w) : ∀ w ∈ st, z_okV n w := fun w hw => h w (List.mem_cons_of_mem _ hw)
/-! constants and locals -/
noncomputable def zo_const : zNop := fun _ _ _ _ c k l st h => zn (k + 1) l (.int (Int32.ofInt c) :: st) h
noncomputable def zk_const : zCk := fun M _ _ c pc ins len pl nx k => match ins with
  | .iconst n => decide (n = c) && decide (len = 1) && decide (nx (k + 1) = pc + 1)
  | .bipush n => decide ((Int8.ofInt n).toInt32 = Int32.ofInt c) && decide (len = 2) && decide (nx (k + 1) = pc + 2)
  | .sipush n => decide ((Int16.ofInt n).toInt32 = Int32.ofInt c) && decide (len = 3) && decide (nx (k + 1) = pc + 3)
  | .ldc i => z_w (.constant M.1 i (Int32.ofInt c)) (pl.getD 0 0) && decide (len = 2) && decide (nx (k + 1) = pc + 2)
  | .ldc_w i => z_w (.constant M.1 i (Int32.ofInt c)) (pl.getD 0 0) && decide (len = 3) && decide (nx (k + 1) = pc + 3)
  | _ => false
theorem zs_const : z_Sn zo_const zk_const := by
  intro p l e R s m args below meth c Z D tc adK adV sb sx M nx ad0 n0 C S d Q a b ci k ins len pl hF hK hA hR hd hck lo st h k' lo' st' h' x y hop kc ks hW
  obtain ⟨rfl, rfl, rfl, rfl, rfl, rfl⟩ := zn_inj hop
  obtain ⟨hx, hb, hml, hr, hown, hts, -⟩ := hF
  intro ad H locs ls cells slots q1 q2 q3 q4 q5 q6 q7 q8 q9
  have kk := hW ad H locs ls cells slots q1 q2 q3 q4 q5 q6 (z_okC (z_okV_int _ _) q7) q8 q9
  unfold zk_const at hck
  split at hck
  all_goals (try simp only [Bool.and_eq_true, decide_eq_true_eq] at hck)
  · obtain ⟨⟨rfl, rfl⟩, hn⟩ := hck
    rw [hn] at kk
    exact lv_iconst hx hb hd rfl kk
  · obtain ⟨⟨h1, rfl⟩, hn⟩ := hck
    rw [hn] at kk
    exact lv_bipush hx hb hd h1 kk
  · obtain ⟨⟨h1, rfl⟩, hn⟩ := hck
    rw [hn] at kk
    exact lv_sipush hx hb hd h1 kk
  · obtain ⟨⟨h1, rfl⟩, hn⟩ := hck
    rw [hn] at kk
    exact lv_ldc hx hb hown (hts _ (z_w_in h1)) hd kk
  · obtain ⟨⟨h1, rfl⟩, hn⟩ := hck
    rw [hn] at kk
    exact lv_ldcw hx hb hown (hts _ (z_w_in h1)) hd kk
  · cases hck
noncomputable def zo_iload : zNop := fun _ _ a _ _ k l st h => match z_get l a with
  | some (.int x) => zn (k + 1) l (.int x :: st) h
  | _ => none
noncomputable def zk_iload : zCk := fun _ a _ _ pc ins len _ nx k => match ins with
  | .iload i => decide (i = a) && decide (len = 2) && decide (nx (k + 1) = pc + 2)
  | .iload_n i => decide ((i : Nat) = a) && decide (len = 1) && decide (nx (k + 1) = pc + 1)
  | _ => false
theorem zs_iload : z_Sn zo_iload zk_iload := by
  intro p l e R s m args below meth c Z D tc adK adV sb sx M nx ad0 n0 C S d Q a b ci k ins len pl hF hK hA hR hd hck lo st h k' lo' st' h' x y hop kc ks hW
  unfold zo_iload at hop
  split at hop
  case h_2 => cases hop
  next v hg =>
  obtain ⟨rfl, rfl, rfl, rfl, rfl, rfl⟩ := zn_inj hop
  obtain ⟨hx, hb, hml, hr, hown, hts, -⟩ := hF
  intro ad H locs ls cells slots q1 q2 q3 q4 q5 q6 q7 q8 q9
  have kk := hW ad H locs ls cells slots q1 q2 q3 q4 q5 q6 (z_okC (z_okV_int _ _) q7) q8 q9
  have hl := z_tl_at q5 hg
  unfold zk_iload at hck
  split at hck
  all_goals (try simp only [Bool.and_eq_true, decide_eq_true_eq] at hck)
  · obtain ⟨⟨rfl, rfl⟩, hn⟩ := hck
    rw [hn] at kk
    exact lv_iload hx hb hd hl kk
  · obtain ⟨⟨h1, rfl⟩, hn⟩ := hck
    rw [hn] at kk
    exact lv_iload_n hx hb hd h1 hl kk
  · cases hck
noncomputable def zo_aload : zNop := fun _ _ a _ _ k l st h => match z_get l a with
  | some (.ref x) => zn (k + 1) l (.ref x :: st) h
  | _ => none
noncomputable def zk_aload : zCk := fun _ a _ _ pc ins len _ nx k => match ins with
  | .aload i => decide (i = a) && decide (len = 2) && decide (nx (k + 1) = pc + 2)
  | .aload_n i => decide ((i : Nat) = a) && decide (len = 1) && decide (nx (k + 1) = pc + 1)
  | _ => false
theorem zs_aload : z_Sn zo_aload zk_aload := by
  intro p l e R s m args below meth c Z D tc adK adV sb sx M nx ad0 n0 C S d Q a b ci k ins len pl hF hK hA hR hd hck lo st h k' lo' st' h' x y hop kc ks hW
  unfold zo_aload at hop
  split at hop
  case h_2 => cases hop
  next v hg =>
  obtain ⟨rfl, rfl, rfl, rfl, rfl, rfl⟩ := zn_inj hop
  obtain ⟨hx, hb, hml, hr, hown, hts, -⟩ := hF
  intro ad H locs ls cells slots q1 q2 q3 q4 q5 q6 q7 q8 q9
  have kk := hW ad H locs ls cells slots q1 q2 q3 q4 q5 q6 (z_okC (q6 _ (z_get_mem hg)) q7) q8 q9
  have hl := z_tl_at q5 hg
  unfold zk_aload at hck
  split at hck
  all_goals (try simp only [Bool.and_eq_true, decide_eq_true_eq] at hck)
  · obtain ⟨⟨rfl, rfl⟩, hn⟩ := hck
    rw [hn] at kk
    exact lv_aload hx hb hd hl kk
  · obtain ⟨⟨h1, rfl⟩, hn⟩ := hck
    rw [hn] at kk
    exact lv_aload_n hx hb hd h1 hl kk
  · cases hck
noncomputable def zo_lload : zNop := fun _ _ a _ _ k l st h => match z_get l a with
  | some (.long x) => zn (k + 1) l (.long x :: st) h
  | _ => none
noncomputable def zk_lload : zCk := fun _ a _ _ pc ins len _ nx k => match ins with
  | .lload i => decide (i = a) && decide (len = 2) && decide (nx (k + 1) = pc + 2)
  | .lload_n i => decide ((i : Nat) = a) && decide (len = 1) && decide (nx (k + 1) = pc + 1)
  | _ => false
theorem zs_lload : z_Sn zo_lload zk_lload := by
  intro p l e R s m args below meth c Z D tc adK adV sb sx M nx ad0 n0 C S d Q a b ci k ins len pl hF hK hA hR hd hck lo st h k' lo' st' h' x y hop kc ks hW
  unfold zo_lload at hop
  split at hop
  case h_2 => cases hop
  next v hg =>
  obtain ⟨rfl, rfl, rfl, rfl, rfl, rfl⟩ := zn_inj hop
  obtain ⟨hx, hb, hml, hr, hown, hts, -⟩ := hF
  intro ad H locs ls cells slots q1 q2 q3 q4 q5 q6 q7 q8 q9
  have kk := hW ad H locs ls cells slots q1 q2 q3 q4 q5 q6 (z_okC (z_okV_long _ _) q7) q8 q9
  have hl := z_tl_at q5 hg
  unfold zk_lload at hck
  split at hck
  all_goals (try simp only [Bool.and_eq_true, decide_eq_true_eq] at hck)
  · obtain ⟨⟨rfl, rfl⟩, hn⟩ := hck
    rw [hn] at kk
    exact lv_lload hx hb hd hl kk
  · obtain ⟨⟨h1, rfl⟩, hn⟩ := hck
    rw [hn] at kk
    exact lv_lload_n hx hb hd h1 hl kk
  · cases hck
noncomputable def zo_istore : zNop := fun _ _ a _ _ k l st h => match st with
  | .int x :: st => zn (k + 1) (z_set1 l a (.int x)) st h
  | _ => none
noncomputable def zk_istore : zCk := fun M a _ _ pc ins len _ nx k => decide (a < M.2.2.2.1) && match ins with
  | .istore i => decide (i = a) && decide (len = 2) && decide (nx (k + 1) = pc + 2)
  | .istore_n i => decide ((i : Nat) = a) && decide (len = 1) && decide (nx (k + 1) = pc + 1)
  | _ => false
theorem zs_istore : z_Sn zo_istore zk_istore := by
  intro p l e R s m args below meth c Z D tc adK adV sb sx M nx ad0 n0 C S d Q a b ci k ins len pl hF hK hA hR hd hck lo st h k' lo' st' h' x y hop kc ks hW
  unfold zo_istore at hop
  split at hop
  case h_2 => cases hop
  next v st2 =>
  obtain ⟨rfl, rfl, rfl, rfl, rfl, rfl⟩ := zn_inj hop
  obtain ⟨hx, hb, hml, hr, hown, hts, -⟩ := hF
  intro ad H locs ls cells slots q1 q2 q3 q4 q5 q6 q7 q8 q9
  have kk := fun ls hl => hW ad H locs ls cells slots q1 q2 q3 q4 hl (z_set1_ok q6 (z_okV_int _ _)) (z_okT q7) q8 q9
  unfold zk_istore at hck
  rw [Bool.and_eq_true] at hck
  obtain ⟨ha, hck⟩ := hck
  have ha := of_decide_eq_true ha
  split at hck
  all_goals (try simp only [Bool.and_eq_true, decide_eq_true_eq] at hck)
  · obtain ⟨⟨rfl, rfl⟩, hn⟩ := hck
    rw [hn] at kk
    exact lv_istore hx hb hd q5 ha (z_tl_set1 ad _ _ (.int v)) kk
  · obtain ⟨⟨h1, rfl⟩, hn⟩ := hck
    rw [hn] at kk
    exact lv_istore_n hx hb hd h1 q5 ha (z_tl_set1 ad _ _ (.int v)) kk
  · cases hck
noncomputable def zo_astore : zNop := fun _ _ a _ _ k l st h => match st with
  | .ref x :: st => zn (k + 1) (z_set1 l a (.ref x)) st h
  | _ => none
noncomputable def zk_astore : zCk := fun M a _ _ pc ins len _ nx k => decide (a < M.2.2.2.1) && match ins with
  | .astore i => decide (i = a) && decide (len = 2) && decide (nx (k + 1) = pc + 2)
  | .astore_n i => decide ((i : Nat) = a) && decide (len = 1) && decide (nx (k + 1) = pc + 1)
  | _ => false
theorem zs_astore : z_Sn zo_astore zk_astore := by
  intro p l e R s m args below meth c Z D tc adK adV sb sx M nx ad0 n0 C S d Q a b ci k ins len pl hF hK hA hR hd hck lo st h k' lo' st' h' x y hop kc ks hW
  unfold zo_astore at hop
  split at hop
  case h_2 => cases hop
  next v st2 =>
  obtain ⟨rfl, rfl, rfl, rfl, rfl, rfl⟩ := zn_inj hop
  obtain ⟨hx, hb, hml, hr, hown, hts, -⟩ := hF
  intro ad H locs ls cells slots q1 q2 q3 q4 q5 q6 q7 q8 q9
  have kk := fun ls hl => hW ad H locs ls cells slots q1 q2 q3 q4 hl (z_set1_ok q6 (z_ok1 q7)) (z_okT q7) q8 q9
  unfold zk_astore at hck
  rw [Bool.and_eq_true] at hck
  obtain ⟨ha, hck⟩ := hck
  have ha := of_decide_eq_true ha
  split at hck
  all_goals (try simp only [Bool.and_eq_true, decide_eq_true_eq] at hck)
  · obtain ⟨⟨rfl, rfl⟩, hn⟩ := hck
    rw [hn] at kk
    exact lv_astore hx hb hd q5 ha (z_tl_set1 ad _ _ (.ref v)) kk
  · obtain ⟨⟨h1, rfl⟩, hn⟩ := hck
    rw [hn] at kk
    exact lv_astore_n hx hb hd h1 q5 ha (z_tl_set1 ad _ _ (.ref v)) kk
  · cases hck
noncomputable def zo_lstore : zNop := fun _ _ a _ _ k l st h => match st with
  | .long x :: st => zn (k + 1) (z_set2 l a (.long x)) st h
  | _ => none
noncomputable def zk_lstore : zCk := fun M a _ _ pc ins len _ nx k => decide (a + 1 < M.2.2.2.1) && match ins with
  | .lstore i => decide (i = a) && decide (len = 2) && decide (nx (k + 1) = pc + 2)
  | .lstore_n i => decide ((i : Nat) = a) && decide (len = 1) && decide (nx (k + 1) = pc + 1)
  | _ => false
theorem zs_lstore : z_Sn zo_lstore zk_lstore := by
  intro p l e R s m args below meth c Z D tc adK adV sb sx M nx ad0 n0 C S d Q a b ci k ins len pl hF hK hA hR hd hck lo st h k' lo' st' h' x y hop kc ks hW
  unfold zo_lstore at hop
  split at hop
  case h_2 => cases hop
  next v st2 =>
  obtain ⟨rfl, rfl, rfl, rfl, rfl, rfl⟩ := zn_inj hop
  obtain ⟨hx, hb, hml, hr, hown, hts, -⟩ := hF
  intro ad H locs ls cells slots q1 q2 q3 q4 q5 q6 q7 q8 q9
  have kk := fun ls hl => hW ad H locs ls cells slots q1 q2 q3 q4 hl (z_set2_ok q6 (z_okV_long _ _)) (z_okT q7) q8 q9
  unfold zk_lstore at hck
  rw [Bool.and_eq_true] at hck
  obtain ⟨ha, hck⟩ := hck
  have ha := of_decide_eq_true ha
  split at hck
  all_goals (try simp only [Bool.and_eq_true, decide_eq_true_eq] at hck)
  · obtain ⟨⟨rfl, rfl⟩, hn⟩ := hck
    rw [hn] at kk
    exact lv_lstore hx hb hd q5 ha (z_tl_set2 ad _ _ (.long v)) kk
  · obtain ⟨⟨h1, rfl⟩, hn⟩ := hck
    rw [hn] at kk
    exact lv_lstore_n hx hb hd h1 q5 ha (z_tl_set2 ad _ _ (.long v)) kk
  · cases hck
noncomputable def zo_iinc : zNop := fun _ _ a _ c k l st h => match z_get l a with
  | some (.int x) => zn (k + 1) (z_set1 l a (.int (x + Int32.ofInt c))) st h
  | _ => none
noncomputable def zk_iinc : zCk := fun M a _ c pc ins len _ nx k => decide (a < M.2.2.2.1) && match ins with
  | .iinc i n => decide (i = a) && decide (n = c) && decide (len = 3) && decide (nx (k + 1) = pc + 3)
  | _ => false
theorem zs_iinc : z_Sn zo_iinc zk_iinc := by
  intro p l e R s m args below meth c Z D tc adK adV sb sx M nx ad0 n0 C S d Q a b ci k ins len pl hF hK hA hR hd hck lo st h k' lo' st' h' x y hop kc ks hW
  unfold zo_iinc at hop
  split at hop
  case h_2 => cases hop
  next v hg =>
  obtain ⟨rfl, rfl, rfl, rfl, rfl, rfl⟩ := zn_inj hop
  obtain ⟨hx, hb, hml, hr, hown, hts, -⟩ := hF
  intro ad H locs ls cells slots q1 q2 q3 q4 q5 q6 q7 q8 q9
  have kk := fun ls hl => hW ad H locs ls cells slots q1 q2 q3 q4 hl (z_set1_ok q6 (z_okV_int _ _)) q7 q8 q9
  have hm : (a, Value.int v) ∈ z_tl ad lo := List.mem_map.mpr ⟨(a, .int v), z_get_mem hg, rfl⟩
  obtain ⟨kk0, hk0⟩ := List.getElem?_of_mem hm
  unfold zk_iinc at hck
  rw [Bool.and_eq_true] at hck
  obtain ⟨ha, hck⟩ := hck
  have ha := of_decide_eq_true ha
  split at hck
  all_goals (try simp only [Bool.and_eq_true, decide_eq_true_eq] at hck)
  · obtain ⟨⟨⟨rfl, rfl⟩, rfl⟩, hn⟩ := hck
    rw [hn] at kk
    exact lv_iinc hx hb hd q5 hk0 rfl ha (z_tl_set1 ad _ _ (.int _)) kk
  · cases hck
end
section
noncomputable def zo_iadd : zNop := fun _ _ _ _ _ k l st h => match st with
  | .int y :: .int x :: st => zn (k + 1) l (.int (x + y) :: st) h
  | _ => none
noncomputable def zk_iadd : zCk := fun _ _ _ _ pc ins len _ nx k => match ins with
  | .iadd => decide (len = 1) && decide (nx (k + 1) = pc + 1)
  | _ => false
theorem zs_iadd : z_Sn zo_iadd zk_iadd := by
  intro p l e R s m args below meth c Z D tc adK adV sb sx M nx ad0 n0 C S d Q a b ci k ins len pl hF hK hA hR hd hck lo st h k' lo' st' h' x y hop kc ks hW
  unfold zo_iadd at hop
  split at hop
  case h_2 => cases hop
  next vy vx st2 =>
  obtain ⟨rfl, rfl, rfl, rfl, rfl, rfl⟩ := zn_inj hop
  obtain ⟨hx, hb, hml, hr, hown, hts, -⟩ := hF
  intro ad H locs ls cells slots q1 q2 q3 q4 q5 q6 q7 q8 q9
  have kk := hW ad H locs ls cells slots q1 q2 q3 q4 q5 q6 (z_okC (z_okV_int _ _) (z_okT (z_okT q7))) q8 q9
  unfold zk_iadd at hck
  split at hck
  all_goals (try simp only [Bool.and_eq_true, decide_eq_true_eq] at hck)
  · obtain ⟨rfl, hn⟩ := hck
    rw [hn] at kk
    exact lv_iadd hx hb hd kk
  · cases hck
noncomputable def zo_isub : zNop := fun _ _ _ _ _ k l st h => match st with
  | .int y :: .int x :: st => zn (k + 1) l (.int (x - y) :: st) h
  | _ => none
noncomputable def zk_isub : zCk := fun _ _ _ _ pc ins len _ nx k => match ins with
  | .isub => decide (len = 1) && decide (nx (k + 1) = pc + 1)
  | _ => false
theorem zs_isub : z_Sn zo_isub zk_isub := by
  intro p l e R s m args below meth c Z D tc adK adV sb sx M nx ad0 n0 C S d Q a b ci k ins len pl hF hK hA hR hd hck lo st h k' lo' st' h' x y hop kc ks hW
  unfold zo_isub at hop
  split at hop
  case h_2 => cases hop
  next vy vx st2 =>
  obtain ⟨rfl, rfl, rfl, rfl, rfl, rfl⟩ := zn_inj hop
  obtain ⟨hx, hb, hml, hr, hown, hts, -⟩ := hF
  intro ad H locs ls cells slots q1 q2 q3 q4 q5 q6 q7 q8 q9
  have kk := hW ad H locs ls cells slots q1 q2 q3 q4 q5 q6 (z_okC (z_okV_int _ _) (z_okT (z_okT q7))) q8 q9
  unfold zk_isub at hck
  split at hck
  all_goals (try simp only [Bool.and_eq_true, decide_eq_true_eq] at hck)
  · obtain ⟨rfl, hn⟩ := hck
    rw [hn] at kk
    exact lv_isub hx hb hd kk
  · cases hck
noncomputable def zo_imul : zNop := fun _ _ _ _ _ k l st h => match st with
  | .int y :: .int x :: st => zn (k + 1) l (.int (x * y) :: st) h
  | _ => none
noncomputable def zk_imul : zCk := fun _ _ _ _ pc ins len _ nx k => match ins with
  | .imul => decide (len = 1) && decide (nx (k + 1) = pc + 1)
  | _ => false
theorem zs_imul : z_Sn zo_imul zk_imul := by
  intro p l e R s m args below meth c Z D tc adK adV sb sx M nx ad0 n0 C S d Q a b ci k ins len pl hF hK hA hR hd hck lo st h k' lo' st' h' x y hop kc ks hW
  unfold zo_imul at hop
  split at hop
  case h_2 => cases hop
  next vy vx st2 =>
  obtain ⟨rfl, rfl, rfl, rfl, rfl, rfl⟩ := zn_inj hop
  obtain ⟨hx, hb, hml, hr, hown, hts, -⟩ := hF
  intro ad H locs ls cells slots q1 q2 q3 q4 q5 q6 q7 q8 q9
  have kk := hW ad H locs ls cells slots q1 q2 q3 q4 q5 q6 (z_okC (z_okV_int _ _) (z_okT (z_okT q7))) q8 q9
  unfold zk_imul at hck
  split at hck
  all_goals (try simp only [Bool.and_eq_true, decide_eq_true_eq] at hck)
  · obtain ⟨rfl, hn⟩ := hck
    rw [hn] at kk
    exact lv_imul hx hb hd kk
  · cases hck
noncomputable def zo_idiv : zNop := fun _ _ _ _ _ k l st h => match st with
  | .int y :: .int x :: st => if y = 0 then none else zn (k + 1) l (.int (x / y) :: st) h
  | _ => none
noncomputable def zk_idiv : zCk := fun _ _ _ _ pc ins len _ nx k => match ins with
  | .idiv => decide (len = 1) && decide (nx (k + 1) = pc + 1)
  | _ => false
theorem zs_idiv : z_Sn zo_idiv zk_idiv := by
  intro p l e R s m args below meth c Z D tc adK adV sb sx M nx ad0 n0 C S d Q a b ci k ins len pl hF hK hA hR hd hck lo st h k' lo' st' h' x y hop kc ks hW
  unfold zo_idiv at hop
  split at hop
  case h_2 => cases hop
  next vy vx st2 =>
  by_cases hne : vy = 0
  · rw [if_pos hne] at hop; cases hop
  rw [if_neg hne] at hop
  obtain ⟨rfl, rfl, rfl, rfl, rfl, rfl⟩ := zn_inj hop
  obtain ⟨hx, hb, hml, hr, hown, hts, -⟩ := hF
  intro ad H locs ls cells slots q1 q2 q3 q4 q5 q6 q7 q8 q9
  have kk := hW ad H locs ls cells slots q1 q2 q3 q4 q5 q6 (z_okC (z_okV_int _ _) (z_okT (z_okT q7))) q8 q9
  unfold zk_idiv at hck
  split at hck
  all_goals (try simp only [Bool.and_eq_true, decide_eq_true_eq] at hck)
  · obtain ⟨rfl, hn⟩ := hck
    rw [hn] at kk
    exact lv_idiv hx hb hd hne kk
  · cases hck
noncomputable def zo_irem : zNop := fun _ _ _ _ _ k l st h => match st with
  | .int y :: .int x :: st => if y = 0 then none else zn (k + 1) l (.int (x - x / y * y) :: st) h
  | _ => none
noncomputable def zk_irem : zCk := fun _ _ _ _ pc ins len _ nx k => match ins with
  | .irem => decide (len = 1) && decide (nx (k + 1) = pc + 1)
  | _ => false
theorem zs_irem : z_Sn zo_irem zk_irem := by
  intro p l e R s m args below meth c Z D tc adK adV sb sx M nx ad0 n0 C S d Q a b ci k ins len pl hF hK hA hR hd hck lo st h k' lo' st' h' x y hop kc ks hW
  unfold zo_irem at hop
  split at hop
  case h_2 => cases hop
  next vy vx st2 =>
  by_cases hne : vy = 0
  · rw [if_pos hne] at hop; cases hop
  rw [if_neg hne] at hop
  obtain ⟨rfl, rfl, rfl, rfl, rfl, rfl⟩ := zn_inj hop
  obtain ⟨hx, hb, hml, hr, hown, hts, -⟩ := hF
  intro ad H locs ls cells slots q1 q2 q3 q4 q5 q6 q7 q8 q9
  have kk := hW ad H locs ls cells slots q1 q2 q3 q4 q5 q6 (z_okC (z_okV_int _ _) (z_okT (z_okT q7))) q8 q9
  unfold zk_irem at hck
  split at hck
  all_goals (try simp only [Bool.and_eq_true, decide_eq_true_eq] at hck)
  · obtain ⟨rfl, hn⟩ := hck
    rw [hn] at kk
    exact lv_irem hx hb hd hne kk
  · cases hck
noncomputable def zo_ishl : zNop := fun _ _ _ _ _ k l st h => match st with
  | .int y :: .int x :: st => zn (k + 1) l (.int (x <<< (y &&& 31)) :: st) h
  | _ => none
noncomputable def zk_ishl : zCk := fun _ _ _ _ pc ins len _ nx k => match ins with
  | .ishl => decide (len = 1) && decide (nx (k + 1) = pc + 1)
  | _ => false
theorem zs_ishl : z_Sn zo_ishl zk_ishl := by
  intro p l e R s m args below meth c Z D tc adK adV sb sx M nx ad0 n0 C S d Q a b ci k ins len pl hF hK hA hR hd hck lo st h k' lo' st' h' x y hop kc ks hW
  unfold zo_ishl at hop
  split at hop
  case h_2 => cases hop
  next vy vx st2 =>
  obtain ⟨rfl, rfl, rfl, rfl, rfl, rfl⟩ := zn_inj hop
  obtain ⟨hx, hb, hml, hr, hown, hts, -⟩ := hF
  intro ad H locs ls cells slots q1 q2 q3 q4 q5 q6 q7 q8 q9
  have kk := hW ad H locs ls cells slots q1 q2 q3 q4 q5 q6 (z_okC (z_okV_int _ _) (z_okT (z_okT q7))) q8 q9
  unfold zk_ishl at hck
  split at hck
  all_goals (try simp only [Bool.and_eq_true, decide_eq_true_eq] at hck)
  · obtain ⟨rfl, hn⟩ := hck
    rw [hn] at kk
    exact lv_ishl hx hb hd kk
  · cases hck
noncomputable def zo_ishr : zNop := fun _ _ _ _ _ k l st h => match st with
  | .int y :: .int x :: st => zn (k + 1) l (.int (x >>> (y &&& 31)) :: st) h
  | _ => none
noncomputable def zk_ishr : zCk := fun _ _ _ _ pc ins len _ nx k => match ins with
  | .ishr => decide (len = 1) && decide (nx (k + 1) = pc + 1)
  | _ => false
theorem zs_ishr : z_Sn zo_ishr zk_ishr := by
  intro p l e R s m args below meth c Z D tc adK adV sb sx M nx ad0 n0 C S d Q a b ci k ins len pl hF hK hA hR hd hck lo st h k' lo' st' h' x y hop kc ks hW
  unfold zo_ishr at hop
  split at hop
  case h_2 => cases hop
  next vy vx st2 =>
  obtain ⟨rfl, rfl, rfl, rfl, rfl, rfl⟩ := zn_inj hop
  obtain ⟨hx, hb, hml, hr, hown, hts, -⟩ := hF
  intro ad H locs ls cells slots q1 q2 q3 q4 q5 q6 q7 q8 q9
  have kk := hW ad H locs ls cells slots q1 q2 q3 q4 q5 q6 (z_okC (z_okV_int _ _) (z_okT (z_okT q7))) q8 q9
  unfold zk_ishr at hck
  split at hck
  all_goals (try simp only [Bool.and_eq_true, decide_eq_true_eq] at hck)
  · obtain ⟨rfl, hn⟩ := hck
    rw [hn] at kk
    exact lv_ishr hx hb hd kk
  · cases hck
noncomputable def zo_iushr : zNop := fun _ _ _ _ _ k l st h => match st with
  | .int y :: .int x :: st => zn (k + 1) l (.int ((x.toUInt32 >>> (y.toUInt32 &&& Int32.toUInt32 31)).toInt32) :: st) h
  | _ => none
noncomputable def zk_iushr : zCk := fun _ _ _ _ pc ins len _ nx k => match ins with
  | .iushr => decide (len = 1) && decide (nx (k + 1) = pc + 1)
  | _ => false
theorem zs_iushr : z_Sn zo_iushr zk_iushr := by
  intro p l e R s m args below meth c Z D tc adK adV sb sx M nx ad0 n0 C S d Q a b ci k ins len pl hF hK hA hR hd hck lo st h k' lo' st' h' x y hop kc ks hW
  unfold zo_iushr at hop
  split at hop
  case h_2 => cases hop
  next vy vx st2 =>
  obtain ⟨rfl, rfl, rfl, rfl, rfl, rfl⟩ := zn_inj hop
  obtain ⟨hx, hb, hml, hr, hown, hts, -⟩ := hF
  intro ad H locs ls cells slots q1 q2 q3 q4 q5 q6 q7 q8 q9
  have kk := hW ad H locs ls cells slots q1 q2 q3 q4 q5 q6 (z_okC (z_okV_int _ _) (z_okT (z_okT q7))) q8 q9
  unfold zk_iushr at hck
  split at hck
  all_goals (try simp only [Bool.and_eq_true, decide_eq_true_eq] at hck)
  · obtain ⟨rfl, hn⟩ := hck
    rw [hn] at kk
    exact lv_iushr hx hb hd rfl kk
  · cases hck
noncomputable def zo_iand : zNop := fun _ _ _ _ _ k l st h => match st with
  | .int y :: .int x :: st => zn (k + 1) l (.int (x &&& y) :: st) h
  | _ => none
noncomputable def zk_iand : zCk := fun _ _ _ _ pc ins len _ nx k => match ins with
  | .iand => decide (len = 1) && decide (nx (k + 1) = pc + 1)
  | _ => false
theorem zs_iand : z_Sn zo_iand zk_iand := by
  intro p l e R s m args below meth c Z D tc adK adV sb sx M nx ad0 n0 C S d Q a b ci k ins len pl hF hK hA hR hd hck lo st h k' lo' st' h' x y hop kc ks hW
  unfold zo_iand at hop
  split at hop
  case h_2 => cases hop
  next vy vx st2 =>
  obtain ⟨rfl, rfl, rfl, rfl, rfl, rfl⟩ := zn_inj hop
  obtain ⟨hx, hb, hml, hr, hown, hts, -⟩ := hF
  intro ad H locs ls cells slots q1 q2 q3 q4 q5 q6 q7 q8 q9
  have kk := hW ad H locs ls cells slots q1 q2 q3 q4 q5 q6 (z_okC (z_okV_int _ _) (z_okT (z_okT q7))) q8 q9
  unfold zk_iand at hck
  split at hck
  all_goals (try simp only [Bool.and_eq_true, decide_eq_true_eq] at hck)
  · obtain ⟨rfl, hn⟩ := hck
    rw [hn] at kk
    exact lv_iand hx hb hd kk
  · cases hck
noncomputable def zo_ior : zNop := fun _ _ _ _ _ k l st h => match st with
  | .int y :: .int x :: st => zn (k + 1) l (.int (x ||| y) :: st) h
  | _ => none
noncomputable def zk_ior : zCk := fun _ _ _ _ pc ins len _ nx k => match ins with
  | .ior => decide (len = 1) && decide (nx (k + 1) = pc + 1)
  | _ => false
theorem zs_ior : z_Sn zo_ior zk_ior := by
  intro p l e R s m args below meth c Z D tc adK adV sb sx M nx ad0 n0 C S d Q a b ci k ins len pl hF hK hA hR hd hck lo st h k' lo' st' h' x y hop kc ks hW
  unfold zo_ior at hop
  split at hop
  case h_2 => cases hop
  next vy vx st2 =>
  obtain ⟨rfl, rfl, rfl, rfl, rfl, rfl⟩ := zn_inj hop
  obtain ⟨hx, hb, hml, hr, hown, hts, -⟩ := hF
  intro ad H locs ls cells slots q1 q2 q3 q4 q5 q6 q7 q8 q9
  have kk := hW ad H locs ls cells slots q1 q2 q3 q4 q5 q6 (z_okC (z_okV_int _ _) (z_okT (z_okT q7))) q8 q9
  unfold zk_ior at hck
  split at hck
  all_goals (try simp only [Bool.and_eq_true, decide_eq_true_eq] at hck)
  · obtain ⟨rfl, hn⟩ := hck
    rw [hn] at kk
    exact lv_ior hx hb hd kk
  · cases hck
noncomputable def zo_ixor : zNop := fun _ _ _ _ _ k l st h => match st with
  | .int y :: .int x :: st => zn (k + 1) l (.int (x ^^^ y) :: st) h
  | _ => none
noncomputable def zk_ixor : zCk := fun _ _ _ _ pc ins len _ nx k => match ins with
  | .ixor => decide (len = 1) && decide (nx (k + 1) = pc + 1)
  | _ => false
theorem zs_ixor : z_Sn zo_ixor zk_ixor := by
  intro p l e R s m args below meth c Z D tc adK adV sb sx M nx ad0 n0 C S d Q a b ci k ins len pl hF hK hA hR hd hck lo st h k' lo' st' h' x y hop kc ks hW
  unfold zo_ixor at hop
  split at hop
  case h_2 => cases hop
  next vy vx st2 =>
  obtain ⟨rfl, rfl, rfl, rfl, rfl, rfl⟩ := zn_inj hop
  obtain ⟨hx, hb, hml, hr, hown, hts, -⟩ := hF
  intro ad H locs ls cells slots q1 q2 q3 q4 q5 q6 q7 q8 q9
  have kk := hW ad H locs ls cells slots q1 q2 q3 q4 q5 q6 (z_okC (z_okV_int _ _) (z_okT (z_okT q7))) q8 q9
  unfold zk_ixor at hck
  split at hck
  all_goals (try simp only [Bool.and_eq_true, decide_eq_true_eq] at hck)
  · obtain ⟨rfl, hn⟩ := hck
    rw [hn] at kk
    exact lv_ixor hx hb hd kk
  · cases hck
noncomputable def zo_ladd : zNop := fun _ _ _ _ _ k l st h => match st with
  | .long y :: .long x :: st => zn (k + 1) l (.long (x + y) :: st) h
  | _ => none
noncomputable def zk_ladd : zCk := fun _ _ _ _ pc ins len _ nx k => match ins with
  | .ladd => decide (len = 1) && decide (nx (k + 1) = pc + 1)
  | _ => false
theorem zs_ladd : z_Sn zo_ladd zk_ladd := by
  intro p l e R s m args below meth c Z D tc adK adV sb sx M nx ad0 n0 C S d Q a b ci k ins len pl hF hK hA hR hd hck lo st h k' lo' st' h' x y hop kc ks hW
  unfold zo_ladd at hop
  split at hop
  case h_2 => cases hop
  next vy vx st2 =>
  obtain ⟨rfl, rfl, rfl, rfl, rfl, rfl⟩ := zn_inj hop
  obtain ⟨hx, hb, hml, hr, hown, hts, -⟩ := hF
  intro ad H locs ls cells slots q1 q2 q3 q4 q5 q6 q7 q8 q9
  have kk := hW ad H locs ls cells slots q1 q2 q3 q4 q5 q6 (z_okC (z_okV_long _ _) (z_okT (z_okT q7))) q8 q9
  unfold zk_ladd at hck
  split at hck
  all_goals (try simp only [Bool.and_eq_true, decide_eq_true_eq] at hck)
  · obtain ⟨rfl, hn⟩ := hck
    rw [hn] at kk
    exact lv_ladd hx hb hd kk
  · cases hck
noncomputable def zo_lmul : zNop := fun _ _ _ _ _ k l st h => match st with
  | .long y :: .long x :: st => zn (k + 1) l (.long (x * y) :: st) h
  | _ => none
noncomputable def zk_lmul : zCk := fun _ _ _ _ pc ins len _ nx k => match ins with
  | .lmul => decide (len = 1) && decide (nx (k + 1) = pc + 1)
  | _ => false
theorem zs_lmul : z_Sn zo_lmul zk_lmul := by
  intro p l e R s m args below meth c Z D tc adK adV sb sx M nx ad0 n0 C S d Q a b ci k ins len pl hF hK hA hR hd hck lo st h k' lo' st' h' x y hop kc ks hW
  unfold zo_lmul at hop
  split at hop
  case h_2 => cases hop
  next vy vx st2 =>
  obtain ⟨rfl, rfl, rfl, rfl, rfl, rfl⟩ := zn_inj hop
  obtain ⟨hx, hb, hml, hr, hown, hts, -⟩ := hF
  intro ad H locs ls cells slots q1 q2 q3 q4 q5 q6 q7 q8 q9
  have kk := hW ad H locs ls cells slots q1 q2 q3 q4 q5 q6 (z_okC (z_okV_long _ _) (z_okT (z_okT q7))) q8 q9
  unfold zk_lmul at hck
  split at hck
  all_goals (try simp only [Bool.and_eq_true, decide_eq_true_eq] at hck)
  · obtain ⟨rfl, hn⟩ := hck
    rw [hn] at kk
    exact lv_lmul hx hb hd kk
  · cases hck
noncomputable def zo_ldiv : zNop := fun _ _ _ _ _ k l st h => match st with
  | .long y :: .long x :: st => if y = 0 then none else zn (k + 1) l (.long (x / y) :: st) h
  | _ => none
noncomputable def zk_ldiv : zCk := fun _ _ _ _ pc ins len _ nx k => match ins with
  | .ldiv => decide (len = 1) && decide (nx (k + 1) = pc + 1)
  | _ => false
theorem zs_ldiv : z_Sn zo_ldiv zk_ldiv := by
  intro p l e R s m args below meth c Z D tc adK adV sb sx M nx ad0 n0 C S d Q a b ci k ins len pl hF hK hA hR hd hck lo st h k' lo' st' h' x y hop kc ks hW
  unfold zo_ldiv at hop
  split at hop
  case h_2 => cases hop
  next vy vx st2 =>
  by_cases hne : vy = 0
  · rw [if_pos hne] at hop; cases hop
  rw [if_neg hne] at hop
  obtain ⟨rfl, rfl, rfl, rfl, rfl, rfl⟩ := zn_inj hop
  obtain ⟨hx, hb, hml, hr, hown, hts, -⟩ := hF
  intro ad H locs ls cells slots q1 q2 q3 q4 q5 q6 q7 q8 q9
  have kk := hW ad H locs ls cells slots q1 q2 q3 q4 q5 q6 (z_okC (z_okV_long _ _) (z_okT (z_okT q7))) q8 q9
  unfold zk_ldiv at hck
  split at hck
  all_goals (try simp only [Bool.and_eq_true, decide_eq_true_eq] at hck)
  · obtain ⟨rfl, hn⟩ := hck
    rw [hn] at kk
    exact lv_ldiv hx hb hd hne kk
  · cases hck
noncomputable def zo_lcmp : zNop := fun _ _ _ _ _ k l st h => match st with
  | .long y :: .long x :: st => zn (k + 1) l (.int (lg_cmp x y) :: st) h
  | _ => none
noncomputable def zk_lcmp : zCk := fun _ _ _ _ pc ins len _ nx k => match ins with
  | .lcmp => decide (len = 1) && decide (nx (k + 1) = pc + 1)
  | _ => false
theorem zs_lcmp : z_Sn zo_lcmp zk_lcmp := by
  intro p l e R s m args below meth c Z D tc adK adV sb sx M nx ad0 n0 C S d Q a b ci k ins len pl hF hK hA hR hd hck lo st h k' lo' st' h' x y hop kc ks hW
  unfold zo_lcmp at hop
  split at hop
  case h_2 => cases hop
  next vy vx st2 =>
  obtain ⟨rfl, rfl, rfl, rfl, rfl, rfl⟩ := zn_inj hop
  obtain ⟨hx, hb, hml, hr, hown, hts, -⟩ := hF
  intro ad H locs ls cells slots q1 q2 q3 q4 q5 q6 q7 q8 q9
  have kk := hW ad H locs ls cells slots q1 q2 q3 q4 q5 q6 (z_okC (z_okV_int _ _) (z_okT (z_okT q7))) q8 q9
  unfold zk_lcmp at hck
  split at hck
  all_goals (try simp only [Bool.and_eq_true, decide_eq_true_eq] at hck)
  · obtain ⟨rfl, hn⟩ := hck
    rw [hn] at kk
    exact W.lcmp hx hb hd kk
  · cases hck
noncomputable def zo_i2l : zNop := fun _ _ _ _ _ k l st h => match st with
  | .int x :: st => zn (k + 1) l (.long (x.toInt64) :: st) h
  | _ => none
noncomputable def zk_i2l : zCk := fun _ _ _ _ pc ins len _ nx k => match ins with
  | .i2l => decide (len = 1) && decide (nx (k + 1) = pc + 1)
  | _ => false
theorem zs_i2l : z_Sn zo_i2l zk_i2l := by
  intro p l e R s m args below meth c Z D tc adK adV sb sx M nx ad0 n0 C S d Q a b ci k ins len pl hF hK hA hR hd hck lo st h k' lo' st' h' x y hop kc ks hW
  unfold zo_i2l at hop
  split at hop
  case h_2 => cases hop
  next vx st2 =>
  obtain ⟨rfl, rfl, rfl, rfl, rfl, rfl⟩ := zn_inj hop
  obtain ⟨hx, hb, hml, hr, hown, hts, -⟩ := hF
  intro ad H locs ls cells slots q1 q2 q3 q4 q5 q6 q7 q8 q9
  have kk := hW ad H locs ls cells slots q1 q2 q3 q4 q5 q6 (z_okC (z_okV_long _ _) (z_okT q7)) q8 q9
  unfold zk_i2l at hck
  split at hck
  all_goals (try simp only [Bool.and_eq_true, decide_eq_true_eq] at hck)
  · obtain ⟨rfl, hn⟩ := hck
    rw [hn] at kk
    exact lv_i2l hx hb hd rfl kk
  · cases hck
noncomputable def zo_l2i : zNop := fun _ _ _ _ _ k l st h => match st with
  | .long x :: st => zn (k + 1) l (.int (x.toInt32) :: st) h
  | _ => none
noncomputable def zk_l2i : zCk := fun _ _ _ _ pc ins len _ nx k => match ins with
  | .l2i => decide (len = 1) && decide (nx (k + 1) = pc + 1)
  | _ => false
theorem zs_l2i : z_Sn zo_l2i zk_l2i := by
  intro p l e R s m args below meth c Z D tc adK adV sb sx M nx ad0 n0 C S d Q a b ci k ins len pl hF hK hA hR hd hck lo st h k' lo' st' h' x y hop kc ks hW
  unfold zo_l2i at hop
  split at hop
  case h_2 => cases hop
  next vx st2 =>
  obtain ⟨rfl, rfl, rfl, rfl, rfl, rfl⟩ := zn_inj hop
  obtain ⟨hx, hb, hml, hr, hown, hts, -⟩ := hF
  intro ad H locs ls cells slots q1 q2 q3 q4 q5 q6 q7 q8 q9
  have kk := hW ad H locs ls cells slots q1 q2 q3 q4 q5 q6 (z_okC (z_okV_int _ _) (z_okT q7)) q8 q9
  unfold zk_l2i at hck
  split at hck
  all_goals (try simp only [Bool.and_eq_true, decide_eq_true_eq] at hck)
  · obtain ⟨rfl, hn⟩ := hck
    rw [hn] at kk
    exact lv_l2i hx hb hd rfl kk
  · cases hck
noncomputable def zo_i2b : zNop := fun _ _ _ _ _ k l st h => match st with
  | .int x :: st => zn (k + 1) l (.int (x.toInt8.toInt32) :: st) h
  | _ => none
noncomputable def zk_i2b : zCk := fun _ _ _ _ pc ins len _ nx k => match ins with
  | .i2b => decide (len = 1) && decide (nx (k + 1) = pc + 1)
  | _ => false
theorem zs_i2b : z_Sn zo_i2b zk_i2b := by
  intro p l e R s m args below meth c Z D tc adK adV sb sx M nx ad0 n0 C S d Q a b ci k ins len pl hF hK hA hR hd hck lo st h k' lo' st' h' x y hop kc ks hW
  unfold zo_i2b at hop
  split at hop
  case h_2 => cases hop
  next vx st2 =>
  obtain ⟨rfl, rfl, rfl, rfl, rfl, rfl⟩ := zn_inj hop
  obtain ⟨hx, hb, hml, hr, hown, hts, -⟩ := hF
  intro ad H locs ls cells slots q1 q2 q3 q4 q5 q6 q7 q8 q9
  have kk := hW ad H locs ls cells slots q1 q2 q3 q4 q5 q6 (z_okC (z_okV_int _ _) (z_okT q7)) q8 q9
  unfold zk_i2b at hck
  split at hck
  all_goals (try simp only [Bool.and_eq_true, decide_eq_true_eq] at hck)
  · obtain ⟨rfl, hn⟩ := hck
    rw [hn] at kk
    exact lv_i2b hx hb hd rfl kk
  · cases hck
noncomputable def zo_lconst : zNop := fun _ _ _ _ c k l st h => zn (k + 1) l (.long (Int64.ofInt c) :: st) h
noncomputable def zk_lconst : zCk := fun M _ _ c pc ins len pl nx k => match ins with
  | .lconst n => decide (Int64.ofNat (n : Nat) = Int64.ofInt c) && decide (len = 1) && decide (nx (k + 1) = pc + 1)
  | .ldc2_w i => z_w (.constantLong M.1 i (Int64.ofInt c)) (pl.getD 0 0) && decide (len = 3) && decide (nx (k + 1) = pc + 3)
  | _ => false
theorem zs_lconst : z_Sn zo_lconst zk_lconst := by
  intro p l e R s m args below meth c Z D tc adK adV sb sx M nx ad0 n0 C S d Q a b ci k ins len pl hF hK hA hR hd hck lo st h k' lo' st' h' x y hop kc ks hW
  obtain ⟨rfl, rfl, rfl, rfl, rfl, rfl⟩ := zn_inj hop
  obtain ⟨hx, hb, hml, hr, hown, hts, -⟩ := hF
  intro ad H locs ls cells slots q1 q2 q3 q4 q5 q6 q7 q8 q9
  have kk := hW ad H locs ls cells slots q1 q2 q3 q4 q5 q6 (z_okC (z_okV_long _ _) q7) q8 q9
  unfold zk_lconst at hck
  split at hck
  all_goals (try simp only [Bool.and_eq_true, decide_eq_true_eq] at hck)
  · obtain ⟨⟨h1, rfl⟩, hn⟩ := hck
    rw [hn] at kk
    exact lv_lconst hx hb hd h1 kk
  · obtain ⟨⟨h1, rfl⟩, hn⟩ := hck
    rw [hn] at kk
    exact lv_ldc2 hx hb hown (hts _ (z_w_in h1)) hd kk
  · cases hck
noncomputable def zo_dup : zNop := fun _ _ _ _ _ k l st h => match st with
  | v :: st => if v.category = 1 then zn (k + 1) l (v :: v :: st) h else none
  | _ => none
noncomputable def zk_dup : zCk := fun _ _ _ _ pc ins len _ nx k => match ins with
  | .dup => decide (len = 1) && decide (nx (k + 1) = pc + 1)
  | _ => false
theorem zs_dup : z_Sn zo_dup zk_dup := by
  intro p l e R s m args below meth c Z D tc adK adV sb sx M nx ad0 n0 C S d Q a b ci k ins len pl hF hK hA hR hd hck lo st h k' lo' st' h' x y hop kc ks hW
  unfold zo_dup at hop
  split at hop
  case h_2 => cases hop
  next v st2 =>
  by_cases hc : v.category = 1
  case neg => rw [if_neg hc] at hop; cases hop
  rw [if_pos hc] at hop
  obtain ⟨rfl, rfl, rfl, rfl, rfl, rfl⟩ := zn_inj hop
  obtain ⟨hx, hb, hml, hr, hown, hts, -⟩ := hF
  intro ad H locs ls cells slots q1 q2 q3 q4 q5 q6 q7 q8 q9
  have kk := hW ad H locs ls cells slots q1 q2 q3 q4 q5 q6 (z_okC (z_ok1 q7) q7) q8 q9
  unfold zk_dup at hck
  split at hck
  all_goals (try simp only [Bool.and_eq_true, decide_eq_true_eq] at hck)
  · obtain ⟨rfl, hn⟩ := hck
    rw [hn] at kk
    exact lv_dup hx hb hd (by rw [z_tr_cat]; exact hc) kk
  · cases hck
noncomputable def zo_dup2 : zNop := fun _ _ _ _ _ k l st h => match st with
  | v :: w :: st => if v.category = 1 ∧ w.category = 1 then zn (k + 1) l (v :: w :: v :: w :: st) h else none
  | _ => none
noncomputable def zk_dup2 : zCk := fun _ _ _ _ pc ins len _ nx k => match ins with
  | .dup2 => decide (len = 1) && decide (nx (k + 1) = pc + 1)
  | _ => false
theorem zs_dup2 : z_Sn zo_dup2 zk_dup2 := by
  intro p l e R s m args below meth c Z D tc adK adV sb sx M nx ad0 n0 C S d Q a b ci k ins len pl hF hK hA hR hd hck lo st h k' lo' st' h' x y hop kc ks hW
  unfold zo_dup2 at hop
  split at hop
  case h_2 => cases hop
  next v w st2 =>
  by_cases hc : v.category = 1 ∧ w.category = 1
  case neg => rw [if_neg hc] at hop; cases hop
  rw [if_pos hc] at hop
  obtain ⟨rfl, rfl, rfl, rfl, rfl, rfl⟩ := zn_inj hop
  obtain ⟨hx, hb, hml, hr, hown, hts, -⟩ := hF
  intro ad H locs ls cells slots q1 q2 q3 q4 q5 q6 q7 q8 q9
  have kk := hW ad H locs ls cells slots q1 q2 q3 q4 q5 q6 (z_okC (z_ok1 q7) (z_okC (z_ok1 (z_okT q7)) q7)) q8 q9
  unfold zk_dup2 at hck
  split at hck
  all_goals (try simp only [Bool.and_eq_true, decide_eq_true_eq] at hck)
  · obtain ⟨rfl, hn⟩ := hck
    rw [hn] at kk
    exact lv_dup2_11 hx hb hd (by rw [z_tr_cat]; exact hc.1) (by rw [z_tr_cat]; exact hc.2) kk
  · cases hck
noncomputable def zo_pop : zNop := fun _ _ _ _ _ k l st h => match st with
  | v :: st => if v.category = 1 then zn (k + 1) l st h else none
  | _ => none
noncomputable def zk_pop : zCk := fun _ _ _ _ pc ins len _ nx k => match ins with
  | .pop => decide (len = 1) && decide (nx (k + 1) = pc + 1)
  | _ => false
theorem zs_pop : z_Sn zo_pop zk_pop := by
  intro p l e R s m args below meth c Z D tc adK adV sb sx M nx ad0 n0 C S d Q a b ci k ins len pl hF hK hA hR hd hck lo st h k' lo' st' h' x y hop kc ks hW
  unfold zo_pop at hop
  split at hop
  case h_2 => cases hop
  next v st2 =>
  by_cases hc : v.category = 1
  case neg => rw [if_neg hc] at hop; cases hop
  rw [if_pos hc] at hop
  obtain ⟨rfl, rfl, rfl, rfl, rfl, rfl⟩ := zn_inj hop
  obtain ⟨hx, hb, hml, hr, hown, hts, -⟩ := hF
  intro ad H locs ls cells slots q1 q2 q3 q4 q5 q6 q7 q8 q9
  have kk := hW ad H locs ls cells slots q1 q2 q3 q4 q5 q6 (z_okT q7) q8 q9
  unfold zk_pop at hck
  split at hck
  all_goals (try simp only [Bool.and_eq_true, decide_eq_true_eq] at hck)
  · obtain ⟨rfl, hn⟩ := hck
    rw [hn] at kk
    exact lv_pop hx hb hd (by rw [z_tr_cat]; exact hc) kk
  · cases hck
noncomputable def zo_null : zNop := fun _ _ _ _ _ k l st h => zn (k + 1) l (.null :: st) h
noncomputable def zk_null : zCk := fun _ _ _ _ pc ins len _ nx k => match ins with
  | .aconst_null => decide (len = 1) && decide (nx (k + 1) = pc + 1)
  | _ => false
theorem zs_null : z_Sn zo_null zk_null := by
  intro p l e R s m args below meth c Z D tc adK adV sb sx M nx ad0 n0 C S d Q a b ci k ins len pl hF hK hA hR hd hck lo st h k' lo' st' h' x y hop kc ks hW
  obtain ⟨rfl, rfl, rfl, rfl, rfl, rfl⟩ := zn_inj hop
  obtain ⟨hx, hb, hml, hr, hown, hts, -⟩ := hF
  intro ad H locs ls cells slots q1 q2 q3 q4 q5 q6 q7 q8 q9
  have kk := hW ad H locs ls cells slots q1 q2 q3 q4 q5 q6 (z_okC (z_okV_null _) q7) q8 q9
  unfold zk_null at hck
  split at hck
  all_goals (try simp only [Bool.and_eq_true, decide_eq_true_eq] at hck)
  · obtain ⟨rfl, hn⟩ := hck
    rw [hn] at kk
    exact lv_null hx hb hd kk
  · cases hck
noncomputable def zo_goto : zNop := fun _ _ a _ _ _ l st h => zn a l st h
noncomputable def zk_goto : zCk := fun _ a _ _ pc ins len _ nx _ => match ins with
  | .goto off => decide ((pc : Int) + off = (nx a : Int)) && decide (len = 3)
  | _ => false
theorem zs_goto : z_Sn zo_goto zk_goto := by
  intro p l e R s m args below meth c Z D tc adK adV sb sx M nx ad0 n0 C S d Q a b ci k ins len pl hF hK hA hR hd hck lo st h k' lo' st' h' x y hop kc ks hW
  obtain ⟨rfl, rfl, rfl, rfl, rfl, rfl⟩ := zn_inj hop
  obtain ⟨hx, hb, hml, hr, hown, hts, -⟩ := hF
  intro ad H locs ls cells slots q1 q2 q3 q4 q5 q6 q7 q8 q9
  have kk := hW ad H locs ls cells slots q1 q2 q3 q4 q5 q6 q7 q8 q9
  unfold zk_goto at hck
  split at hck
  all_goals (try simp only [Bool.and_eq_true, decide_eq_true_eq] at hck)
  · obtain ⟨h1, rfl⟩ := hck
    exact lv_goto hx hb hd h1 kk
  · cases hck
/-- which way a comparison goes: 0 eq, 1 ne, 2 lt, 3 ge, 4 gt, 5 le -/
noncomputable def z_cmp (b : Nat) (x y : Int32) : Bool := match b with
  | 0 => decide (x = y)
  | 1 => !decide (x = y)
  | 2 => decide (x < y)
  | 3 => !decide (x < y)
  | 4 => decide (y < x)
  | _ => !decide (y < x)
noncomputable def zo_if : zNop := fun _ _ a b _ k l st h => match st with
  | .int x :: st => zn (if z_cmp b x 0 then a else k + 1) l st h
  | _ => none
noncomputable def zo_icmp : zNop := fun _ _ a b _ k l st h => match st with
  | .int y :: .int x :: st => zn (if z_cmp b x y then a else k + 1) l st h
  | _ => none
noncomputable def zk_if : zCk := fun _ a b _ pc ins len _ nx k => match ins with
  | .ifCond .eq off => decide (b = 0) && decide ((pc : Int) + off = (nx a : Int)) && decide (len = 3) && decide (nx (k + 1) = pc + 3)
  | .ifCond .ne off => decide (b = 1) && decide ((pc : Int) + off = (nx a : Int)) && decide (len = 3) && decide (nx (k + 1) = pc + 3)
  | .ifCond .lt off => decide (b = 2) && decide ((pc : Int) + off = (nx a : Int)) && decide (len = 3) && decide (nx (k + 1) = pc + 3)
  | .ifCond .ge off => decide (b = 3) && decide ((pc : Int) + off = (nx a : Int)) && decide (len = 3) && decide (nx (k + 1) = pc + 3)
  | .ifCond .gt off => decide (b = 4) && decide ((pc : Int) + off = (nx a : Int)) && decide (len = 3) && decide (nx (k + 1) = pc + 3)
  | .ifCond .le off => decide (b = 5) && decide ((pc : Int) + off = (nx a : Int)) && decide (len = 3) && decide (nx (k + 1) = pc + 3)
  | _ => false
noncomputable def zk_icmp : zCk := fun _ a b _ pc ins len _ nx k => match ins with
  | .if_icmp .eq off => decide (b = 0) && decide ((pc : Int) + off = (nx a : Int)) && decide (len = 3) && decide (nx (k + 1) = pc + 3)
  | .if_icmp .ne off => decide (b = 1) && decide ((pc : Int) + off = (nx a : Int)) && decide (len = 3) && decide (nx (k + 1) = pc + 3)
  | .if_icmp .lt off => decide (b = 2) && decide ((pc : Int) + off = (nx a : Int)) && decide (len = 3) && decide (nx (k + 1) = pc + 3)
  | .if_icmp .ge off => decide (b = 3) && decide ((pc : Int) + off = (nx a : Int)) && decide (len = 3) && decide (nx (k + 1) = pc + 3)
  | .if_icmp .gt off => decide (b = 4) && decide ((pc : Int) + off = (nx a : Int)) && decide (len = 3) && decide (nx (k + 1) = pc + 3)
  | .if_icmp .le off => decide (b = 5) && decide ((pc : Int) + off = (nx a : Int)) && decide (len = 3) && decide (nx (k + 1) = pc + 3)
  | _ => false
theorem zs_if : z_Sn zo_if zk_if := by
  intro p l e R s m args below meth c Z D tc adK adV sb sx M nx ad0 n0 C S d Q a b ci k ins len pl hF hK hA hR hd hck lo st h k' lo' st' h' x y hop kc ks hW
  unfold zo_if at hop
  split at hop
  case h_2 => cases hop
  next vx st2 =>
  obtain ⟨rfl, rfl, rfl, rfl, rfl, rfl⟩ := zn_inj hop
  obtain ⟨hx, hb, hml, hr, hown, hts, -⟩ := hF
  intro ad H locs ls cells slots q1 q2 q3 q4 q5 q6 q7 q8 q9
  have kk := hW ad H locs ls cells slots q1 q2 q3 q4 q5 q6 (z_okT q7) q8 q9
  unfold zk_if at hck
  split at hck
  all_goals (try simp only [Bool.and_eq_true, decide_eq_true_eq] at hck)
  · obtain ⟨⟨⟨rfl, h1⟩, rfl⟩, hn⟩ := hck
    refine lv_if_eq hx hb hd h1 (fun q => ?_) (fun q => ?_)
    · rw [if_pos (by first | (simp [z_cmp]; done) | (simp [z_cmp, q]; done) | (simpa [z_cmp] using q))] at kk; exact kk
    · rw [if_neg (by first | (simp [z_cmp, q]; done) | (simpa [z_cmp] using q)), hn] at kk; exact kk
  · obtain ⟨⟨⟨rfl, h1⟩, rfl⟩, hn⟩ := hck
    refine lv_if_ne hx hb hd h1 (fun q => ?_) (fun q => ?_)
    · rw [if_pos (by first | (simp [z_cmp]; done) | (simp [z_cmp, q]; done) | (simpa [z_cmp] using q))] at kk; exact kk
    · rw [if_neg (by first | (simp [z_cmp, q]; done) | (simpa [z_cmp] using q)), hn] at kk; exact kk
  · obtain ⟨⟨⟨rfl, h1⟩, rfl⟩, hn⟩ := hck
    refine lv_if_lt hx hb hd h1 (fun q => ?_) (fun q => ?_)
    · rw [if_pos (by first | (simp [z_cmp]; done) | (simp [z_cmp, q]; done) | (simpa [z_cmp] using q))] at kk; exact kk
    · rw [if_neg (by first | (simp [z_cmp, q]; done) | (simpa [z_cmp] using q)), hn] at kk; exact kk
  · obtain ⟨⟨⟨rfl, h1⟩, rfl⟩, hn⟩ := hck
    refine lv_if_ge hx hb hd h1 (fun q => ?_) (fun q => ?_)
    · rw [if_pos (by first | (simp [z_cmp]; done) | (simp [z_cmp, q]; done) | (simpa [z_cmp] using q))] at kk; exact kk
    · rw [if_neg (by first | (simp [z_cmp, q]; done) | (simpa [z_cmp] using q)), hn] at kk; exact kk
  · obtain ⟨⟨⟨rfl, h1⟩, rfl⟩, hn⟩ := hck
    refine lv_if_gt hx hb hd h1 (fun q => ?_) (fun q => ?_)
    · rw [if_pos (by first | (simp [z_cmp]; done) | (simp [z_cmp, q]; done) | (simpa [z_cmp] using q))] at kk; exact kk
    · rw [if_neg (by first | (simp [z_cmp, q]; done) | (simpa [z_cmp] using q)), hn] at kk; exact kk
  · obtain ⟨⟨⟨rfl, h1⟩, rfl⟩, hn⟩ := hck
    refine lv_if_le hx hb hd h1 (fun q => ?_) (fun q => ?_)
    · rw [if_pos (by first | (simp [z_cmp]; done) | (simp [z_cmp, q]; done) | (simpa [z_cmp] using q))] at kk; exact kk
    · rw [if_neg (by first | (simp [z_cmp, q]; done) | (simpa [z_cmp] using q)), hn] at kk; exact kk
  · cases hck
theorem zs_icmp : z_Sn zo_icmp zk_icmp := by
  intro p l e R s m args below meth c Z D tc adK adV sb sx M nx ad0 n0 C S d Q a b ci k ins len pl hF hK hA hR hd hck lo st h k' lo' st' h' x y hop kc ks hW
  unfold zo_icmp at hop
  split at hop
  case h_2 => cases hop
  next vy vx st2 =>
  obtain ⟨rfl, rfl, rfl, rfl, rfl, rfl⟩ := zn_inj hop
  obtain ⟨hx, hb, hml, hr, hown, hts, -⟩ := hF
  intro ad H locs ls cells slots q1 q2 q3 q4 q5 q6 q7 q8 q9
  have kk := hW ad H locs ls cells slots q1 q2 q3 q4 q5 q6 (z_okT (z_okT q7)) q8 q9
  unfold zk_icmp at hck
  split at hck
  all_goals (try simp only [Bool.and_eq_true, decide_eq_true_eq] at hck)
  · obtain ⟨⟨⟨rfl, h1⟩, rfl⟩, hn⟩ := hck
    refine lv_icmp_eq hx hb hd h1 (fun q => ?_) (fun q => ?_)
    · rw [if_pos (by first | (simp [z_cmp]; done) | (simp [z_cmp, q]; done) | (simpa [z_cmp] using q))] at kk; exact kk
    · rw [if_neg (by first | (simp [z_cmp, q]; done) | (simpa [z_cmp] using q)), hn] at kk; exact kk
  · obtain ⟨⟨⟨rfl, h1⟩, rfl⟩, hn⟩ := hck
    refine lv_icmp_ne hx hb hd h1 (fun q => ?_) (fun q => ?_)
    · rw [if_pos (by first | (simp [z_cmp]; done) | (simp [z_cmp, q]; done) | (simpa [z_cmp] using q))] at kk; exact kk
    · rw [if_neg (by first | (simp [z_cmp, q]; done) | (simpa [z_cmp] using q)), hn] at kk; exact kk
  · obtain ⟨⟨⟨rfl, h1⟩, rfl⟩, hn⟩ := hck
    refine lv_icmp_lt hx hb hd h1 (fun q => ?_) (fun q => ?_)
    · rw [if_pos (by first | (simp [z_cmp]; done) | (simp [z_cmp, q]; done) | (simpa [z_cmp] using q))] at kk; exact kk
    · rw [if_neg (by first | (simp [z_cmp, q]; done) | (simpa [z_cmp] using q)), hn] at kk; exact kk
  · obtain ⟨⟨⟨rfl, h1⟩, rfl⟩, hn⟩ := hck
    refine lv_icmp_ge hx hb hd h1 (fun q => ?_) (fun q => ?_)
    · rw [if_pos (by first | (simp [z_cmp]; done) | (simp [z_cmp, q]; done) | (simpa [z_cmp] using q))] at kk; exact kk
    · rw [if_neg (by first | (simp [z_cmp, q]; done) | (simpa [z_cmp] using q)), hn] at kk; exact kk
  · obtain ⟨⟨⟨rfl, h1⟩, rfl⟩, hn⟩ := hck
    refine lv_icmp_gt hx hb hd h1 (fun q => ?_) (fun q => ?_)
    · rw [if_pos (by first | (simp [z_cmp]; done) | (simp [z_cmp, q]; done) | (simpa [z_cmp] using q))] at kk; exact kk
    · rw [if_neg (by first | (simp [z_cmp, q]; done) | (simpa [z_cmp] using q)), hn] at kk; exact kk
  · obtain ⟨⟨⟨rfl, h1⟩, rfl⟩, hn⟩ := hck
    refine lv_icmp_le hx hb hd h1 (fun q => ?_) (fun q => ?_)
    · rw [if_pos (by first | (simp [z_cmp]; done) | (simp [z_cmp, q]; done) | (simpa [z_cmp] using q))] at kk; exact kk
    · rw [if_neg (by first | (simp [z_cmp, q]; done) | (simpa [z_cmp] using q)), hn] at kk; exact kk
  · cases hck
noncomputable def zo_ifnn : zNop := fun _ _ a _ _ k l st h => match st with
  | .ref _ :: st => zn a l st h
  | .null :: st => zn (k + 1) l st h
  | _ => none
noncomputable def zk_ifnn : zCk := fun _ a _ _ pc ins len _ nx k => match ins with
  | .ifnonnull off => decide ((pc : Int) + off = (nx a : Int)) && decide (len = 3) && decide (nx (k + 1) = pc + 3)
  | _ => false
theorem zs_ifnn : z_Sn zo_ifnn zk_ifnn := by
  intro p l e R s m args below meth c Z D tc adK adV sb sx M nx ad0 n0 C S d Q a b ci k ins len pl hF hK hA hR hd hck lo st h k' lo' st' h' x y hop kc ks hW
  unfold zk_ifnn at hck
  split at hck
  case h_2 => cases hck
  next off =>
  simp only [Bool.and_eq_true, decide_eq_true_eq] at hck
  obtain ⟨⟨h1, rfl⟩, hn⟩ := hck
  unfold zo_ifnn at hop
  split at hop
  · obtain ⟨rfl, rfl, rfl, rfl, rfl, rfl⟩ := zn_inj hop
    obtain ⟨hx, hb, hml, hr, hown, hts, -⟩ := hF
    intro ad H locs ls cells slots q1 q2 q3 q4 q5 q6 q7 q8 q9
    exact lv_ifnonnull hx hb hd h1 (hW ad H locs ls cells slots q1 q2 q3 q4 q5 q6 (z_okT q7) q8 q9)
  · obtain ⟨rfl, rfl, rfl, rfl, rfl, rfl⟩ := zn_inj hop
    obtain ⟨hx, hb, hml, hr, hown, hts, -⟩ := hF
    intro ad H locs ls cells slots q1 q2 q3 q4 q5 q6 q7 q8 q9
    have kk := hW ad H locs ls cells slots q1 q2 q3 q4 q5 q6 (z_okT q7) q8 q9
    rw [hn] at kk
    exact lv_ifnonnullN hx hb hd kk
  · cases hop
/-! switches -/
noncomputable def z_swt (t : Int × List Nat × Nat) (x : Int32) : Nat := if x.toInt < t.1 then t.2.2 else (t.2.1[(x.toInt - t.1).toNat]?).getD t.2.2
noncomputable def zo_tsw : zNop := fun _ _ a _ _ _ l st h => match st with
  | .int x :: st => match z_sw[a]? with
    | some t => zn (z_swt t x) l st h
    | none => none
  | _ => none
noncomputable def zk_tsw : zCk := fun _ a _ _ pc ins _ _ nx _ => match ins with
  | .tableswitch dflt lo hi offs => match z_sw[a]? with
    | some t => decide (t.1 = lo) && decide ((pc : Int) + dflt = (nx t.2.2 : Int)) && decide (hi - lo + 1 = (t.2.1.length : Int)) && decide (offs.toList.map (fun o => (pc : Int) + o) = t.2.1.map (fun n => (nx n : Int)))
    | none => false
  | _ => false
theorem zs_tsw : z_Sn zo_tsw zk_tsw := by
  intro p l e R s m args below meth c Z D tc adK adV sb sx M nx ad0 n0 C S d Q a b ci k ins len pl hF hK hA hR hd hck lo st h k' lo' st' h' x y hop kc ks hW
  unfold zo_tsw at hop
  split at hop
  case h_2 => cases hop
  next vx st2 =>
  split at hop
  case h_2 => cases hop
  next t ht =>
  obtain ⟨rfl, rfl, rfl, rfl, rfl, rfl⟩ := zn_inj hop
  obtain ⟨hx, hb, hml, hr, hown, hts, -⟩ := hF
  intro ad H locs ls cells slots q1 q2 q3 q4 q5 q6 q7 q8 q9
  have kk := hW ad H locs ls cells slots q1 q2 q3 q4 q5 q6 (z_okT q7) q8 q9
  unfold zk_tsw at hck
  split at hck
  case h_2 => cases hck
  next dflt lo hi offs =>
  rw [ht] at hck
  simp only [Bool.and_eq_true, decide_eq_true_eq] at hck
  obtain ⟨⟨⟨h1, h2⟩, h3⟩, h4⟩ := hck
  have hlen : offs.toList.length = t.2.1.length := by have := congrArg List.length h4; simpa using this
  by_cases c1 : vx.toInt < lo
  · unfold z_swt at kk
    rw [h1, if_pos c1] at kk
    exact lv_tableOut hx hb hd (Or.inl c1) h2 kk
  · by_cases c2 : hi < vx.toInt
    · unfold z_swt at kk
      rw [h1, if_neg c1, List.getElem?_eq_none (by omega), Option.getD_none] at kk
      exact lv_tableOut hx hb hd (Or.inr c2) h2 kk
    · have hlt : (vx.toInt - lo).toNat < t.2.1.length := by omega
      have hlt2 : (vx.toInt - lo).toNat < offs.toList.length := by omega
      unfold z_swt at kk
      rw [h1, if_neg c1, List.getElem?_eq_getElem hlt, Option.getD_some] at kk
      have e1 : (offs.toList.map (fun o => ((nx k : Nat) : Int) + o))[(vx.toInt - lo).toNat]? = (t.2.1.map (fun n => (nx n : Int)))[(vx.toInt - lo).toNat]? := by rw [h4]
      rw [List.getElem?_map, List.getElem?_map, List.getElem?_eq_getElem hlt, List.getElem?_eq_getElem hlt2] at e1
      refine lv_tableIn hx hb hd c1 c2 (off := offs.toList[(vx.toInt - lo).toNat]) ?_ (by simpa using e1) kk
      rw [← Array.getElem?_toList, List.getElem?_eq_getElem hlt2]
end
