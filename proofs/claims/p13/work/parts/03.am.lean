/-! THE ABSTRACT MACHINE: cells by their numbers, values as the machine's, references as numbers of cells (below zB), of texts (zB + k), the script (zS) -/
abbrev zE : Type := (Nat × vp_A) ⊕ (Nat × List Value)
abbrev zH : Type := List zE
abbrev zL : Type := List (Nat × Value)
abbrev zI : Type := Nat × Nat × Nat × Int
abbrev zO : Type := Option Value ⊕ Nat
abbrev zX : Type := Nat × (Nat → Int32)
abbrev zN : Type := Nat × zL × List Value × zH × Nat × Nat
abbrev zR : Type := zN ⊕ ((zO × Nat × Nat) ⊕ (Nat × List Value × List Value))
abbrev zOp : Type := zX → Nat → Nat → Nat → Int → Nat → zL → List Value → zH → Option zR
noncomputable def zB : Nat := 1048576
noncomputable def zS : Nat := 2097152
noncomputable def z_tr (ad : Nat → Nat) (v : Value) : Value := match v with
  | .ref i => .ref (ad i)
  | v => v
noncomputable def z_trA (ad : Nat → Nat) (a : vp_A) : vp_A := match a with
  | (n, .inr (.inr (.inr (.inr f)))) => (n, .inr (.inr (.inr (.inr (fun j => (f j).map ad)))))
  | a => a
noncomputable def z_trE (ad : Nat → Nat) (tc : Nat → ClassId) (e : zE) : va_E := match e with
  | .inl (t, a) => .inl (tc t, z_trA ad a)
  | .inr (c, fs) => .inr (c, fs.map (z_tr ad))
noncomputable def z_ws (ad : Nat → Nat) (tc : Nat → ClassId) (h : zH) : va_W := h.mapIdx (fun i e => (ad i, z_trE ad tc e))
noncomputable def z_okV (n : Nat) (v : Value) : Prop := ∀ i, v = .ref i → i < n ∨ zB ≤ i
noncomputable def z_okE (n : Nat) (e : zE) : Prop := match e with
  | .inl (_, (_, .inr (.inr (.inr (.inr f))))) => ∀ j i, f j = some i → i < n
  | .inl _ => True
  | .inr (_, fs) => ∀ v ∈ fs, z_okV n v
/-- the abstract heap h, its cells at ad, is what the machine's heap H holds at and above Z -/
noncomputable def z_R (Z : Nat) (D : va_G) (tc : Nat → ClassId) (ad : Nat → Nat) (h : zH) (H : Heap) : Prop :=
  va_P D vwCl (z_ws ad tc h) H ∧ va_D (fun q => Z ≤ q) (z_ws ad tc h) ∧ (∀ e ∈ h, z_okE h.length e) ∧ h.length ≤ zB
noncomputable def z_up (ad : Nat → Nat) (n q : Nat) : Nat → Nat := fun i => if i = n then q else ad i
noncomputable def z_ag (n : Nat) (ad ad' : Nat → Nat) : Prop := ∀ i, (i < n ∨ zB ≤ i) → ad' i = ad i
theorem z_ag.rf {n : Nat} {ad : Nat → Nat} : z_ag n ad ad := fun _ _ => rfl
theorem z_ag.trans {n m : Nat} {a b c : Nat → Nat} (h1 : z_ag n a b) (h2 : z_ag m b c) (hn : n ≤ m) : z_ag n a c := fun i hi => by
  rw [h2 i (by omega), h1 i hi]
theorem z_up.ag {ad : Nat → Nat} {n q : Nat} (hn : n < zB) : z_ag n ad (z_up ad n q) := fun i hi => by
  unfold z_up
  rw [if_neg (by omega)]
theorem z_tr_int (ad : Nat → Nat) (x : Int32) : z_tr ad (.int x) = .int x := rfl
theorem z_tr_long (ad : Nat → Nat) (x : Int64) : z_tr ad (.long x) = .long x := rfl
theorem z_tr_ref (ad : Nat → Nat) (i : Nat) : z_tr ad (.ref i) = .ref (ad i) := rfl
theorem z_tr_null (ad : Nat → Nat) : z_tr ad .null = .null := rfl
theorem z_tr_cat (ad : Nat → Nat) (v : Value) : (z_tr ad v).category = v.category := by
  cases v <;> rfl
theorem z_tr_ag {n : Nat} {ad ad' : Nat → Nat} (h : z_ag n ad ad') {v : Value} (hv : z_okV n v) : z_tr ad' v = z_tr ad v := by
  cases v with
  | ref i => rw [z_tr_ref, z_tr_ref, h i (hv i rfl)]
  | _ => rfl
theorem z_okV.mono {n m : Nat} {v : Value} (h : z_okV n v) (hnm : n ≤ m) : z_okV m v := fun i hi => (h i hi).imp (fun q => Nat.lt_of_lt_of_le q hnm) id
theorem z_okV_int (n : Nat) (x : Int32) : z_okV n (.int x) := fun i h => by cases h
theorem z_okV_long (n : Nat) (x : Int64) : z_okV n (.long x) := fun i h => by cases h
theorem z_okV_null (n : Nat) : z_okV n .null := fun i h => by cases h
theorem z_okE.mono {n m : Nat} {e : zE} (h : z_okE n e) (hnm : n ≤ m) : z_okE m e := by
  obtain ⟨t, a, f | f | f | f | f⟩ | ⟨c, fs⟩ := e
  · trivial
  · trivial
  · trivial
  · trivial
  · exact fun j i hj => Nat.lt_of_lt_of_le (h j i hj) hnm
  · exact fun v hv => (h v hv).mono hnm
theorem z_trE_ag {n : Nat} {ad ad' : Nat → Nat} {tc : Nat → ClassId} (h : z_ag n ad ad') {e : zE} (he : z_okE n e) : z_trE ad' tc e = z_trE ad tc e := by
  obtain ⟨t, a, f | f | f | f | f⟩ | ⟨c, fs⟩ := e
  · rfl
  · rfl
  · rfl
  · rfl
  · show Sum.inl _ = Sum.inl _
    simp only [z_trA]
    refine congrArg Sum.inl (congrArg (Prod.mk _) (congrArg (Prod.mk _) (congrArg Sum.inr (congrArg Sum.inr (congrArg Sum.inr (congrArg Sum.inr (funext fun j => ?_)))))))
    cases hf : f j with
    | none => rfl
    | some i => simp only [Option.map_some]; rw [h i (Or.inl (he j i hf))]
  · show Sum.inr (c, _) = Sum.inr (c, _)
    rw [List.map_congr_left fun v hv => z_tr_ag h (he v hv)]
theorem z_ws_len (ad : Nat → Nat) (tc : Nat → ClassId) (h : zH) : (z_ws ad tc h).length = h.length := by simp [z_ws]
theorem z_ws_get {ad : Nat → Nat} {tc : Nat → ClassId} {h : zH} {i : Nat} {e : zE} (he : h[i]? = some e) : (z_ws ad tc h)[i]? = some (ad i, z_trE ad tc e) := by
  simp [z_ws, he]
theorem z_ws_set {ad : Nat → Nat} {tc : Nat → ClassId} {h : zH} {i : Nat} {e : zE} : (z_ws ad tc h).set i (ad i, z_trE ad tc e) = z_ws ad tc (h.set i e) := by
  apply List.ext_getElem?
  intro k
  by_cases hk : k = i
  · subst hk
    by_cases hl : k < h.length
    · rw [List.getElem?_set_self (by rw [z_ws_len]; exact hl), z_ws_get (e := e) (by rw [List.getElem?_set_self hl])]
    · have h1 : ((z_ws ad tc h).set k (ad k, z_trE ad tc e)).length ≤ k := by rw [List.length_set, z_ws_len]; omega
      have h2 : (z_ws ad tc (h.set k e)).length ≤ k := by rw [z_ws_len, List.length_set]; omega
      rw [List.getElem?_eq_none h1, List.getElem?_eq_none h2]
  · rw [List.getElem?_set_ne (fun q => hk q.symm)]
    simp [z_ws, List.getElem?_set_ne (fun q => hk q.symm)]
theorem z_ws_push {ad : Nat → Nat} {tc : Nat → ClassId} {h : zH} {q : Nat} {e : zE} (hok : ∀ e ∈ h, z_okE h.length e) (hn : h.length < zB) (hx : ∀ a b : Nat → Nat, z_trE a tc e = z_trE b tc e) : z_ws ad tc h ++ [(q, z_trE ad tc e)] = z_ws (z_up ad h.length q) tc (h ++ [e]) := by
  apply List.ext_getElem?
  intro k
  rcases Nat.lt_trichotomy k h.length with hl | hl | hl
  · rw [List.getElem?_append_left (by rw [z_ws_len]; exact hl)]
    have he : h[k]? = some h[k] := List.getElem?_eq_getElem hl
    rw [z_ws_get he, z_ws_get (e := h[k]) (by rw [List.getElem?_append_left hl]; exact he), z_trE_ag (z_up.ag hn) (hok _ (List.getElem_mem hl)), z_up.ag hn k (Or.inl hl)]
  · subst hl
    rw [List.getElem?_append_right (by rw [z_ws_len]; exact Nat.le_refl _), z_ws_len, Nat.sub_self, z_ws_get (e := e) (by simp)]
    simp only [List.getElem?_cons_zero, z_up, if_true]
    rw [hx ad]
  · have h1 : (z_ws ad tc h ++ [(q, z_trE ad tc e)]).length ≤ k := by rw [List.length_append, z_ws_len, List.length_singleton]; omega
    have h2 : (z_ws (z_up ad h.length q) tc (h ++ [e])).length ≤ k := by rw [z_ws_len, List.length_append, List.length_singleton]; omega
    rw [List.getElem?_eq_none h1, List.getElem?_eq_none h2]
theorem z_R.set {Z : Nat} {D : va_G} {tc : Nat → ClassId} {ad : Nat → Nat} {h : zH} {H H1 : Heap} {i : Nat} {e : zE} (hR : z_R Z D tc ad h H) (hP : va_P D vwCl ((z_ws ad tc h).set i (ad i, z_trE ad tc e)) H1) (hD : va_D (fun q => Z ≤ q) ((z_ws ad tc h).set i (ad i, z_trE ad tc e))) (he : z_okE h.length e) : z_R Z D tc ad (h.set i e) H1 := by
  rw [z_ws_set] at hP hD
  refine ⟨hP, hD, fun x hx => ?_, by rw [List.length_set]; exact hR.2.2.2⟩
  rw [List.length_set]
  rcases List.mem_or_eq_of_mem_set hx with q | q
  · exact hR.2.2.1 x q
  · rw [q]; exact he
theorem z_R.push {Z : Nat} {D : va_G} {tc : Nat → ClassId} {ad : Nat → Nat} {h : zH} {H H1 : Heap} {q : Nat} {e : zE} (hR : z_R Z D tc ad h H) (hn : h.length < zB) (hx : ∀ a b : Nat → Nat, z_trE a tc e = z_trE b tc e) (he : z_okE h.length e) (hP : va_P D vwCl (z_ws ad tc h ++ [(q, z_trE ad tc e)]) H1) (hD : va_D (fun q => Z ≤ q) (z_ws ad tc h ++ [(q, z_trE ad tc e)])) : z_R Z D tc (z_up ad h.length q) (h ++ [e]) H1 := by
  rw [z_ws_push hR.2.2.1 hn hx] at hP hD
  refine ⟨hP, hD, fun x hx => ?_, by rw [List.length_append, List.length_singleton]; omega⟩
  rw [List.length_append, List.length_singleton]
  rcases List.mem_append.mp hx with q | q
  · exact (hR.2.2.1 x q).mono (Nat.le_succ _)
  · rw [List.mem_singleton.mp q]; exact he.mono (Nat.le_succ _)
/-! locals -/
noncomputable def z_get (l : zL) (i : Nat) : Option Value := (l.find? (fun q => q.1 == i)).map (fun q => q.2)
noncomputable def z_set1 (l : zL) (i : Nat) (v : Value) : zL := (i, v) :: l.filter (fun q => !(q.1 == i) && !(q.1 + 1 == i && q.2.category == 2))
noncomputable def z_set2 (l : zL) (i : Nat) (v : Value) : zL := (i, v) :: l.filter (fun q => !(q.1 == i) && (!(q.1 == i + 1) && !(q.1 + 1 == i && q.2.category == 2)))
noncomputable def z_tl (ad : Nat → Nat) (l : zL) : zL := l.map (fun q => (q.1, z_tr ad q.2))
theorem z_get_mem {l : zL} {i : Nat} {v : Value} (h : z_get l i = some v) : (i, v) ∈ l := by
  unfold z_get at h
  cases hf : l.find? (fun q => q.1 == i) with
  | none => rw [hf] at h; cases h
  | some q =>
    rw [hf] at h
    have h1 := List.find?_some hf
    have h2 := List.mem_of_find?_eq_some hf
    simp only [Option.map_some, Option.some.injEq] at h
    have h3 : q.1 = i := by simpa using h1
    rw [← h, ← h3]
    exact h2
theorem z_tl_at {ad : Nat → Nat} {ls : Array Slot} {nL : Nat} {l : zL} {i : Nat} {v : Value} (h : lv_has ls nL (z_tl ad l)) (hg : z_get l i = some v) : ls[i]? = some (.val (z_tr ad v)) :=
  h.2.2 (i, z_tr ad v) (List.mem_map.mpr ⟨(i, v), z_get_mem hg, rfl⟩)
theorem z_tl_set1 (ad : Nat → Nat) (l : zL) (i : Nat) (v : Value) : (i, z_tr ad v) :: (z_tl ad l).filter (fun q => !(q.1 == i) && !(q.1 + 1 == i && q.2.category == 2)) = z_tl ad (z_set1 l i v) := by
  simp only [z_tl, z_set1, List.map_cons, List.filter_map]
  congr 2
  apply List.filter_congr
  intro q _
  simp only [Function.comp, z_tr_cat]
theorem z_tl_set2 (ad : Nat → Nat) (l : zL) (i : Nat) (v : Value) : (i, z_tr ad v) :: (z_tl ad l).filter (fun q => !(q.1 == i) && (!(q.1 == i + 1) && !(q.1 + 1 == i && q.2.category == 2))) = z_tl ad (z_set2 l i v) := by
  simp only [z_tl, z_set2, List.map_cons, List.filter_map]
  congr 2
  apply List.filter_congr
  intro q _
  simp only [Function.comp, z_tr_cat]
theorem z_set1_ok {n : Nat} {l : zL} {i : Nat} {v : Value} (h : ∀ q ∈ l, z_okV n q.2) (hv : z_okV n v) : ∀ q ∈ z_set1 l i v, z_okV n q.2 := by
  intro q hq
  rcases List.mem_cons.mp hq with e | e
  · rw [e]; exact hv
  · exact h q ((List.mem_filter.mp e).1)
theorem z_set2_ok {n : Nat} {l : zL} {i : Nat} {v : Value} (h : ∀ q ∈ l, z_okV n q.2) (hv : z_okV n v) : ∀ q ∈ z_set2 l i v, z_okV n q.2 := by
  intro q hq
  rcases List.mem_cons.mp hq with e | e
  · rw [e]; exact hv
  · exact h q ((List.mem_filter.mp e).1)
theorem z_tl_ag {n : Nat} {ad ad' : Nat → Nat} (h : z_ag n ad ad') {l : zL} (hl : ∀ q ∈ l, z_okV n q.2) : z_tl ad' l = z_tl ad l :=
  List.map_congr_left fun q hq => by rw [z_tr_ag h (hl q hq)]
theorem z_st_ag {n : Nat} {ad ad' : Nat → Nat} (h : z_ag n ad ad') {st : List Value} (hl : ∀ v ∈ st, z_okV n v) : st.map (z_tr ad') = st.map (z_tr ad) :=
  List.map_congr_left fun v hv => z_tr_ag h (hl v hv)
theorem z_args_tr (ad : Nat → Nat) : ∀ (i : Nat) (vs : List Value), lv_args i (vs.map (z_tr ad)) = z_tl ad (lv_args i vs)
  | _, [] => rfl
  | i, v :: vs => by
    show (i, z_tr ad v) :: lv_args _ (vs.map (z_tr ad)) = (i, z_tr ad v) :: z_tl ad (lv_args _ vs)
    rw [z_args_tr, z_tr_cat]
theorem z_args_ok {n : Nat} : ∀ (i : Nat) (vs : List Value), (∀ v ∈ vs, z_okV n v) → ∀ q ∈ lv_args i vs, z_okV n q.2
  | _, [], _, q, hq => by cases hq
  | i, v :: vs, h, q, hq => by
    rcases List.mem_cons.mp hq with e | e
    · rw [e]; exact h v List.mem_cons_self
    · exact z_args_ok _ vs (fun w hw => h w (List.mem_cons_of_mem _ hw)) q e
