section
/-! PARTIAL CORRECTNESS: whatever a run ends with. The state as functions of places (za), each step a transformer of what is owed (qts), cut points with what holds there (zfl); nothing of safety is asked: that a run ends is proved elsewhere. Printed with wip/gen/gen_fl.py -/
abbrev zLf : Type := Nat → Value
abbrev zSg : Type := (Nat → Nat → Value) × (Nat → Nat) × Nat
abbrev zKo : Type := Nat → zLf → List Value → zSg → Prop
abbrev zTr : Type := zX → Nat → Nat → Int → Nat → zLf → List Value → zSg → zKo → Prop
abbrev zPp : Type := List Value → zSg → zO → zSg → Prop
noncomputable def q_i (v : Value) : Int32 := match v with
  | .int x => x
  | _ => 0
noncomputable def q_l (v : Value) : Int64 := match v with
  | .long x => x
  | _ => 0
noncomputable def q_r (v : Value) : Nat := match v with
  | .ref i => i
  | _ => 0
noncomputable def q_st (lo : zLf) (a : Nat) (v : Value) : zLf := fun i => bif Nat.beq i a then v else lo i
noncomputable def q_up (s : Nat → Nat → Value) (c k : Nat) (v : Value) : Nat → Nat → Value := fun c' k' => if c' = c ∧ k' = k then v else s c' k'
noncomputable def q_w (σ : zSg) (c k : Nat) (v : Value) : zSg := (q_up σ.1 c k v, σ.2)
noncomputable def q_nw (σ : zSg) (f : Nat → Value) (n : Nat) : zSg := (fun c k => if c = σ.2.2 then f k else σ.1 c k, fun c => if c = σ.2.2 then n else σ.2.1 c, σ.2.2 + 1)
noncomputable def q_cp (σ : zSg) (i0 i1 sp dp n : Nat) : zSg := (fun c k => if c = i1 ∧ dp ≤ k ∧ k < dp + n then σ.1 i0 (sp + (k - dp)) else σ.1 c k, σ.2)
noncomputable def q_so (o : Option (String × Nat × String × List Int32)) : List Int32 := match o with
  | some q => q.2.2.2
  | none => []
noncomputable def q_s (i : Nat) : List Int32 := q_so z_strs[i - zB]?
/-- what a place of an object holds: 0 an int, 1 a cell, 2 a cell or nothing -/
noncomputable def q_kd (c b : Nat) : Nat := match (z_df.getD c []).getD b .null with
  | .int _ => 0
  | _ => bif Nat.beq c 2 || (Nat.beq c 1 && Nat.beq b 5) then 2 else 1
noncomputable def q_ld (k : Nat) (v : Value) : Value := match k with
  | 0 => .int (q_i v)
  | 1 => .ref (q_r v)
  | _ => v
noncomputable def q_pk (c : Int) (k : Nat) : Bool := (Nat.beq k 0 && (decide (c = 0) || decide (c = 1))) || (Nat.beq k 2 && decide (c = 2))
/-- a heap as functions -/
noncomputable def zv (h : zH) (c k : Nat) : Value := match h[c]? with
  | some e => (z_rd e k).getD .null
  | none => .null
noncomputable def zvl (h : zH) (c : Nat) : Nat := match h[c]? with
  | some (.inl (_, (n, _))) => n
  | _ => 0
noncomputable def q_n (e : zE) : Nat := match e with
  | .inl (_, (n, _)) => n
  | _ => 0
noncomputable def za (h : zH) : zSg := (zv h, zvl h, h.length)
noncomputable def zKh (h : zH) : Prop := (∀ (i c : Nat) (fs : List Value) (b : Nat) (v : Value), h[i]? = some (.inr (c, fs)) → fs[b]? = some v → q_ld (q_kd c b) v = v) ∧ ∀ (i n : Nat) (f : Nat → Option Nat), h[i]? = some (.inl (3, (n, .inr (.inr (.inr (.inr f)))))) → ∀ j, j < n → ∃ r, f j = some r
noncomputable def zLr (l : zL) (lo : zLf) : Prop := ∀ q ∈ l, lo q.1 = q.2
theorem zLr.get {l : zL} {lo : zLf} {i : Nat} {v : Value} (H : zLr l lo) (h : z_get l i = some v) : lo i = v := H _ (z_get_mem h)
theorem q_st_eq (lo : zLf) (a : Nat) (v : Value) : q_st lo a v a = v := by
  unfold q_st
  rw [Nat.beq_refl]
  rfl
theorem q_st_ne {lo : zLf} {a i : Nat} {v : Value} (h : i ≠ a) : q_st lo a v i = lo i := by
  unfold q_st
  have : Nat.beq i a = false := by
    cases hb : Nat.beq i a with
    | false => rfl
    | true => exact absurd (Nat.eq_of_beq_eq_true hb) h
  rw [this]
  rfl
theorem zLr.set1 {l : zL} {lo : zLf} {a : Nat} {v : Value} (H : zLr l lo) : zLr (z_set1 l a v) (q_st lo a v) := by
  intro q hq
  rcases List.mem_cons.mp hq with e | e
  · rw [e]; exact q_st_eq lo a v
  · obtain ⟨h1, h2⟩ := List.mem_filter.mp e
    rw [Bool.and_eq_true] at h2
    have : q.1 ≠ a := by simpa using h2.1
    rw [q_st_ne this]
    exact H q h1
theorem zLr.set2 {l : zL} {lo : zLf} {a : Nat} {v : Value} (H : zLr l lo) : zLr (z_set2 l a v) (q_st lo a v) := by
  intro q hq
  rcases List.mem_cons.mp hq with e | e
  · rw [e]; exact q_st_eq lo a v
  · obtain ⟨h1, h2⟩ := List.mem_filter.mp e
    rw [Bool.and_eq_true] at h2
    have : q.1 ≠ a := by simpa using h2.1
    rw [q_st_ne this]
    exact H q h1
theorem zLr.drop {l : zL} {lo : zLf} {x : Nat} (H : zLr l lo) : zLr (z_drop l x) lo := fun q hq => H q (List.mem_filter.mp hq).1
theorem zLr.args : ∀ (as : List Value) (n : Nat) (lo : zLf), (∀ v ∈ as, v.category = 1) → (∀ i, lo (n + i) = as.getD i .null) → zLr (lv_args n as) lo
  | [], n, lo, hc, hl => fun q hq => by cases hq
  | v :: vs, n, lo, hc, hl => by
    intro q hq
    have hv : ¬ v.category = 2 := by rw [hc v List.mem_cons_self]; decide
    unfold lv_args at hq
    rw [if_neg hv] at hq
    rcases List.mem_cons.mp hq with e | e
    · rw [e]
      exact hl 0
    · exact zLr.args vs (n + 1) lo (fun w hw => hc w (List.mem_cons_of_mem _ hw)) (fun i => by
        have := hl (i + 1)
        rw [show n + 1 + i = n + (i + 1) by omega, this]
        rfl) q e
/-! what a place holds behind a write -/
theorem zv_at {h : zH} {c k : Nat} {e : zE} (he : h[c]? = some e) : zv h c k = (z_rd e k).getD .null := by
  unfold zv
  rw [he]
theorem zv_set {h : zH} {c : Nat} {e e' : zE} {b : Nat} {v : Value} (he : h[c]? = some e) (hr : ∀ j, z_rd e' j = if j = b then some v else z_rd e j) : zv (h.set c e') = q_up (zv h) c b v := by
  have hl := (List.getElem?_eq_some_iff.mp he).1
  funext c' k'
  unfold q_up
  by_cases hc : c' = c
  · subst hc
    rw [zv_at (List.getElem?_set_self hl), hr k']
    by_cases hk : k' = b
    · rw [if_pos hk, if_pos ⟨rfl, hk⟩]
      rfl
    · rw [if_neg hk, if_neg (fun q => hk q.2), zv_at he]
  · rw [if_neg (fun q => hc q.1)]
    unfold zv
    rw [List.getElem?_set_ne (fun q => hc q.symm)]
theorem zvl_set {h : zH} {c : Nat} {e e' : zE} (he : h[c]? = some e) (hn : q_n e' = q_n e) : zvl (h.set c e') = zvl h := by
  have hl := (List.getElem?_eq_some_iff.mp he).1
  funext c'
  unfold zvl
  by_cases hc : c' = c
  · subst hc
    rw [List.getElem?_set_self hl, he]
    obtain ⟨t, n, x⟩ | ⟨c, fs⟩ := e <;> obtain ⟨t', n', x'⟩ | ⟨c', fs'⟩ := e' <;> exact hn
  · rw [List.getElem?_set_ne (fun q => hc q.symm)]
theorem za_set {h : zH} {c : Nat} {e e' : zE} {b : Nat} {v : Value} (he : h[c]? = some e) (hr : ∀ j, z_rd e' j = if j = b then some v else z_rd e j) (hn : q_n e' = q_n e) : za (h.set c e') = q_w (za h) c b v := by
  unfold za q_w
  rw [zv_set he hr, zvl_set he hn, List.length_set]
theorem za_push {h : zH} {e : zE} {f : Nat → Value} {n : Nat} (hf : ∀ k, (z_rd e k).getD .null = f k) (hn : q_n e = n) : za (h ++ [e]) = q_nw (za h) f n := by
  unfold za q_nw
  refine Prod.ext ?_ (Prod.ext ?_ ?_)
  · funext c k
    show zv (h ++ [e]) c k = if c = h.length then f k else zv h c k
    by_cases hc : c = h.length
    · subst hc
      rw [if_pos rfl, zv_at (e := e) (by simp), hf]
    · rw [if_neg hc]
      unfold zv
      by_cases hl : c < h.length
      · rw [List.getElem?_append_left hl]
      · rw [List.getElem?_eq_none (by rw [List.length_append, List.length_singleton]; omega), List.getElem?_eq_none (by omega)]
  · funext c
    show zvl (h ++ [e]) c = if c = h.length then n else zvl h c
    by_cases hc : c = h.length
    · subst hc
      rw [if_pos rfl]
      unfold zvl
      rw [show (h ++ [e])[h.length]? = some e by simp]
      obtain ⟨t, m, x⟩ | ⟨c, fs⟩ := e <;> exact hn
    · rw [if_neg hc]
      unfold zvl
      by_cases hl : c < h.length
      · rw [List.getElem?_append_left hl]
      · rw [List.getElem?_eq_none (by rw [List.length_append, List.length_singleton]; omega), List.getElem?_eq_none (by omega)]
  · show (h ++ [e]).length = h.length + 1
    rw [List.length_append, List.length_singleton]
theorem zKh.arr {h : zH} {c t n : Nat} {x y : (Nat → Int32) ⊕ (Nat → Int64) ⊕ (Nat → UInt32) ⊕ (Nat → UInt64) ⊕ (Nat → Option Nat)} (H : zKh h) (ht : t ≠ 3) : zKh (h.set c (.inl (t, (n, y)))) := by
  refine ⟨fun i c' fs b v he hv => ?_, fun i m f he j hj => ?_⟩
  · by_cases hi : i = c
    · subst hi
      by_cases hl : i < h.length
      · rw [List.getElem?_set_self hl] at he; cases he
      · rw [List.getElem?_eq_none (by rw [List.length_set]; omega)] at he; cases he
    · rw [List.getElem?_set_ne (fun q => hi q.symm)] at he
      exact H.1 i c' fs b v he hv
  · by_cases hi : i = c
    · subst hi
      by_cases hl : i < h.length
      · rw [List.getElem?_set_self hl] at he
        simp only [Option.some.injEq, Sum.inl.injEq, Prod.mk.injEq] at he
        exact absurd he.1 ht
      · rw [List.getElem?_eq_none (by rw [List.length_set]; omega)] at he; cases he
    · rw [List.getElem?_set_ne (fun q => hi q.symm)] at he
      exact H.2 i m f he j hj
theorem zKh.obj {h : zH} {a c b : Nat} {fs : List Value} {v : Value} (H : zKh h) (he : h[a]? = some (.inr (c, fs))) (hv : q_ld (q_kd c b) v = v) : zKh (h.set a (.inr (c, fs.set b v))) := by
  have hl := (List.getElem?_eq_some_iff.mp he).1
  refine ⟨fun i c' fs' b' w hi hw => ?_, fun i m f hi j hj => ?_⟩
  · by_cases hia : i = a
    · subst hia
      rw [List.getElem?_set_self hl] at hi
      cases hi
      by_cases hb : b' = b
      · subst hb
        by_cases hbl : b' < fs.length
        · rw [List.getElem?_set_self hbl] at hw
          cases hw
          exact hv
        · rw [List.getElem?_eq_none (by rw [List.length_set]; omega)] at hw; cases hw
      · rw [List.getElem?_set_ne (fun q => hb q.symm)] at hw
        exact H.1 i c fs b' w he hw
    · rw [List.getElem?_set_ne (fun q => hia q.symm)] at hi
      exact H.1 i c' fs' b' w hi hw
  · by_cases hia : i = a
    · subst hia
      rw [List.getElem?_set_self hl] at hi; cases hi
    · rw [List.getElem?_set_ne (fun q => hia q.symm)] at hi
      exact H.2 i m f hi j hj
theorem zKh.push {h : zH} {e : zE} (H : zKh h) (h1 : ∀ (c : Nat) (fs : List Value) (b : Nat) (v : Value), e = .inr (c, fs) → fs[b]? = some v → q_ld (q_kd c b) v = v) (h2 : ∀ (n : Nat) (f : Nat → Option Nat), e ≠ .inl (3, (n, .inr (.inr (.inr (.inr f)))))) : zKh (h ++ [e]) := by
  refine ⟨fun i c fs b v hi hv => ?_, fun i m f hi j hj => ?_⟩
  · by_cases hl : i < h.length
    · rw [List.getElem?_append_left hl] at hi
      exact H.1 i c fs b v hi hv
    · rw [List.getElem?_append_right (by omega)] at hi
      cases hd : i - h.length with
      | zero =>
        rw [hd] at hi
        simp only [List.getElem?_cons_zero, Option.some.injEq] at hi
        exact h1 c fs b v hi hv
      | succ n => rw [hd] at hi; simp at hi
  · by_cases hl : i < h.length
    · rw [List.getElem?_append_left hl] at hi
      exact H.2 i m f hi j hj
    · rw [List.getElem?_append_right (by omega)] at hi
      cases hd : i - h.length with
      | zero =>
        rw [hd] at hi
        simp only [List.getElem?_cons_zero, Option.some.injEq] at hi
        exact absurd hi (h2 m f)
      | succ n => rw [hd] at hi; simp at hi
/-! the steps -/
noncomputable def zSo (o : zNop) (t : zTr) : Prop := ∀ (sx : zX) (d a b : Nat) (c : Int) (k : Nat) (l : zL) (st : List Value) (h : zH) (k' : Nat) (l' : zL) (st' : List Value) (h' : zH) (x y : Nat) (lo : zLf) (K : zKo), zKh h → zLr l lo → o sx d a b c k l st h = some (k', l', st', h', x, y) → t sx a b c k lo st (za h) K → zKh h' ∧ ∃ lo', zLr l' lo' ∧ K k' lo' st' (za h')
noncomputable def qt_no : zTr := fun _ _ _ _ _ _ _ _ _ => False
theorem qs_no {o : zNop} : zSo o qt_no := fun _ _ _ _ _ _ _ _ _ _ _ _ _ _ _ _ _ _ _ _ h => h.elim
noncomputable def q_p1 (f : Value → Value) : zTr := fun _ _ _ _ k lo st σ K => match st with
  | v :: r => K (k + 1) lo (f v :: r) σ
  | _ => True
noncomputable def q_p2 (f : Value → Value → Value) : zTr := fun _ _ _ _ k lo st σ K => match st with
  | y :: x :: r => K (k + 1) lo (f x y :: r) σ
  | _ => True
noncomputable def qt_const : zTr := fun _ _ _ c k lo st σ K => K (k + 1) lo (.int (Int32.ofInt c) :: st) σ
noncomputable def qt_lconst : zTr := fun _ _ _ c k lo st σ K => K (k + 1) lo (.long (Int64.ofInt c) :: st) σ
noncomputable def qt_null : zTr := fun _ _ _ _ k lo st σ K => K (k + 1) lo (.null :: st) σ
noncomputable def qt_ldcs : zTr := fun _ a _ _ k lo st σ K => K (k + 1) lo (.ref (zB + a) :: st) σ
noncomputable def qt_goto : zTr := fun _ a _ _ _ lo st σ K => K a lo st σ
theorem qs_const : zSo zo_const qt_const := by
  intro sx d a b c k l st h k' l' st' h' x9 y9 lo K hK hL e H
  unfold zo_const at e
  obtain ⟨rfl, rfl, rfl, rfl, rfl, rfl⟩ := zn_inj e
  exact ⟨hK, lo, hL, H⟩
theorem qs_lconst : zSo zo_lconst qt_lconst := by
  intro sx d a b c k l st h k' l' st' h' x9 y9 lo K hK hL e H
  unfold zo_lconst at e
  obtain ⟨rfl, rfl, rfl, rfl, rfl, rfl⟩ := zn_inj e
  exact ⟨hK, lo, hL, H⟩
theorem qs_null : zSo zo_null qt_null := by
  intro sx d a b c k l st h k' l' st' h' x9 y9 lo K hK hL e H
  unfold zo_null at e
  obtain ⟨rfl, rfl, rfl, rfl, rfl, rfl⟩ := zn_inj e
  exact ⟨hK, lo, hL, H⟩
theorem qs_goto : zSo zo_goto qt_goto := by
  intro sx d a b c k l st h k' l' st' h' x9 y9 lo K hK hL e H
  unfold zo_goto at e
  obtain ⟨rfl, rfl, rfl, rfl, rfl, rfl⟩ := zn_inj e
  exact ⟨hK, lo, hL, H⟩
theorem qs_ldcs : zSo zo_ldcs qt_ldcs := by
  intro sx d a b c k l st h k' l' st' h' x9 y9 lo K hK hL e H
  unfold zo_ldcs at e
  repeat' split at e
  all_goals first
    | cases e; done
    | obtain ⟨rfl, rfl, rfl, rfl, rfl, rfl⟩ := zn_inj e
      exact ⟨hK, lo, hL, H⟩
noncomputable def qt_iload : zTr := fun _ a _ _ k lo st σ K => K (k + 1) lo (.int (q_i (lo a)) :: st) σ
theorem qs_iload : zSo zo_iload qt_iload := by
  intro sx d a b c k l st h k' l' st' h' x9 y9 lo K hK hL e H
  unfold zo_iload at e
  split at e
  case h_2 => cases e
  next x hx =>
  obtain ⟨rfl, rfl, rfl, rfl, rfl, rfl⟩ := zn_inj e
  refine ⟨hK, lo, hL, ?_⟩
  have H1 : K (k + 1) lo (.int (q_i (lo a)) :: st) (za h') := H
  rw [hL.get hx] at H1
  exact H1
noncomputable def qt_aload : zTr := fun _ a _ _ k lo st σ K => K (k + 1) lo (.ref (q_r (lo a)) :: st) σ
theorem qs_aload : zSo zo_aload qt_aload := by
  intro sx d a b c k l st h k' l' st' h' x9 y9 lo K hK hL e H
  unfold zo_aload at e
  split at e
  case h_2 => cases e
  next x hx =>
  obtain ⟨rfl, rfl, rfl, rfl, rfl, rfl⟩ := zn_inj e
  refine ⟨hK, lo, hL, ?_⟩
  have H1 : K (k + 1) lo (.ref (q_r (lo a)) :: st) (za h') := H
  rw [hL.get hx] at H1
  exact H1
noncomputable def qt_lload : zTr := fun _ a _ _ k lo st σ K => K (k + 1) lo (.long (q_l (lo a)) :: st) σ
theorem qs_lload : zSo zo_lload qt_lload := by
  intro sx d a b c k l st h k' l' st' h' x9 y9 lo K hK hL e H
  unfold zo_lload at e
  split at e
  case h_2 => cases e
  next x hx =>
  obtain ⟨rfl, rfl, rfl, rfl, rfl, rfl⟩ := zn_inj e
  refine ⟨hK, lo, hL, ?_⟩
  have H1 : K (k + 1) lo (.long (q_l (lo a)) :: st) (za h') := H
  rw [hL.get hx] at H1
  exact H1
noncomputable def qt_istore : zTr := fun _ a _ _ k lo st σ K => match st with
  | v :: r => K (k + 1) (q_st lo a (.int (q_i v))) r σ
  | _ => True
theorem qs_istore : zSo zo_istore qt_istore := by
  intro sx d a b c k l st h k' l' st' h' x9 y9 lo K hK hL e H
  unfold zo_istore at e
  repeat' split at e
  all_goals first
    | cases e; done
    | obtain ⟨rfl, rfl, rfl, rfl, rfl, rfl⟩ := zn_inj e
      exact ⟨hK, _, hL.set1, H⟩
noncomputable def qt_astore : zTr := fun _ a _ _ k lo st σ K => match st with
  | v :: r => K (k + 1) (q_st lo a (.ref (q_r v))) r σ
  | _ => True
theorem qs_astore : zSo zo_astore qt_astore := by
  intro sx d a b c k l st h k' l' st' h' x9 y9 lo K hK hL e H
  unfold zo_astore at e
  repeat' split at e
  all_goals first
    | cases e; done
    | obtain ⟨rfl, rfl, rfl, rfl, rfl, rfl⟩ := zn_inj e
      exact ⟨hK, _, hL.set1, H⟩
noncomputable def qt_lstore : zTr := fun _ a _ _ k lo st σ K => match st with
  | v :: r => K (k + 1) (q_st lo a (.long (q_l v))) r σ
  | _ => True
theorem qs_lstore : zSo zo_lstore qt_lstore := by
  intro sx d a b c k l st h k' l' st' h' x9 y9 lo K hK hL e H
  unfold zo_lstore at e
  repeat' split at e
  all_goals first
    | cases e; done
    | obtain ⟨rfl, rfl, rfl, rfl, rfl, rfl⟩ := zn_inj e
      exact ⟨hK, _, hL.set2, H⟩
noncomputable def qt_iinc : zTr := fun _ a _ c k lo st σ K => K (k + 1) (q_st lo a (.int (q_i (lo a) + Int32.ofInt c))) st σ
theorem qs_iinc : zSo zo_iinc qt_iinc := by
  intro sx d a b c k l st h k' l' st' h' x9 y9 lo K hK hL e H
  unfold zo_iinc at e
  split at e
  case h_2 => cases e
  next x hx =>
  obtain ⟨rfl, rfl, rfl, rfl, rfl, rfl⟩ := zn_inj e
  refine ⟨hK, _, hL.set1, ?_⟩
  have H1 : K (k + 1) (q_st lo a (.int (q_i (lo a) + Int32.ofInt c))) st' (za h') := H
  rw [hL.get hx] at H1
  exact H1
theorem qs_iadd : zSo zo_iadd (q_p2 (fun x y => .int ((fun x y : Int32 => x + y) (q_i x) (q_i y)))) := by
  intro sx d a b c k l st h k' l' st' h' x9 y9 lo K hK hL e H
  unfold zo_iadd at e
  repeat' split at e
  all_goals first
    | cases e; done
    | obtain ⟨rfl, rfl, rfl, rfl, rfl, rfl⟩ := zn_inj e
      exact ⟨hK, lo, hL, H⟩
theorem qs_isub : zSo zo_isub (q_p2 (fun x y => .int ((fun x y : Int32 => x - y) (q_i x) (q_i y)))) := by
  intro sx d a b c k l st h k' l' st' h' x9 y9 lo K hK hL e H
  unfold zo_isub at e
  repeat' split at e
  all_goals first
    | cases e; done
    | obtain ⟨rfl, rfl, rfl, rfl, rfl, rfl⟩ := zn_inj e
      exact ⟨hK, lo, hL, H⟩
theorem qs_imul : zSo zo_imul (q_p2 (fun x y => .int ((fun x y : Int32 => x * y) (q_i x) (q_i y)))) := by
  intro sx d a b c k l st h k' l' st' h' x9 y9 lo K hK hL e H
  unfold zo_imul at e
  repeat' split at e
  all_goals first
    | cases e; done
    | obtain ⟨rfl, rfl, rfl, rfl, rfl, rfl⟩ := zn_inj e
      exact ⟨hK, lo, hL, H⟩
theorem qs_idiv : zSo zo_idiv (q_p2 (fun x y => .int ((fun x y : Int32 => x / y) (q_i x) (q_i y)))) := by
  intro sx d a b c k l st h k' l' st' h' x9 y9 lo K hK hL e H
  unfold zo_idiv at e
  repeat' split at e
  all_goals first
    | cases e; done
    | obtain ⟨rfl, rfl, rfl, rfl, rfl, rfl⟩ := zn_inj e
      exact ⟨hK, lo, hL, H⟩
theorem qs_irem : zSo zo_irem (q_p2 (fun x y => .int ((fun x y : Int32 => x - x / y * y) (q_i x) (q_i y)))) := by
  intro sx d a b c k l st h k' l' st' h' x9 y9 lo K hK hL e H
  unfold zo_irem at e
  repeat' split at e
  all_goals first
    | cases e; done
    | obtain ⟨rfl, rfl, rfl, rfl, rfl, rfl⟩ := zn_inj e
      exact ⟨hK, lo, hL, H⟩
theorem qs_ishl : zSo zo_ishl (q_p2 (fun x y => .int ((fun x y : Int32 => x <<< (y &&& 31)) (q_i x) (q_i y)))) := by
  intro sx d a b c k l st h k' l' st' h' x9 y9 lo K hK hL e H
  unfold zo_ishl at e
  repeat' split at e
  all_goals first
    | cases e; done
    | obtain ⟨rfl, rfl, rfl, rfl, rfl, rfl⟩ := zn_inj e
      exact ⟨hK, lo, hL, H⟩
theorem qs_ishr : zSo zo_ishr (q_p2 (fun x y => .int ((fun x y : Int32 => x >>> (y &&& 31)) (q_i x) (q_i y)))) := by
  intro sx d a b c k l st h k' l' st' h' x9 y9 lo K hK hL e H
  unfold zo_ishr at e
  repeat' split at e
  all_goals first
    | cases e; done
    | obtain ⟨rfl, rfl, rfl, rfl, rfl, rfl⟩ := zn_inj e
      exact ⟨hK, lo, hL, H⟩
theorem qs_iushr : zSo zo_iushr (q_p2 (fun x y => .int ((fun x y : Int32 => (x.toUInt32 >>> (y.toUInt32 &&& Int32.toUInt32 31)).toInt32) (q_i x) (q_i y)))) := by
  intro sx d a b c k l st h k' l' st' h' x9 y9 lo K hK hL e H
  unfold zo_iushr at e
  repeat' split at e
  all_goals first
    | cases e; done
    | obtain ⟨rfl, rfl, rfl, rfl, rfl, rfl⟩ := zn_inj e
      exact ⟨hK, lo, hL, H⟩
theorem qs_iand : zSo zo_iand (q_p2 (fun x y => .int ((fun x y : Int32 => x &&& y) (q_i x) (q_i y)))) := by
  intro sx d a b c k l st h k' l' st' h' x9 y9 lo K hK hL e H
  unfold zo_iand at e
  repeat' split at e
  all_goals first
    | cases e; done
    | obtain ⟨rfl, rfl, rfl, rfl, rfl, rfl⟩ := zn_inj e
      exact ⟨hK, lo, hL, H⟩
theorem qs_ior : zSo zo_ior (q_p2 (fun x y => .int ((fun x y : Int32 => x ||| y) (q_i x) (q_i y)))) := by
  intro sx d a b c k l st h k' l' st' h' x9 y9 lo K hK hL e H
  unfold zo_ior at e
  repeat' split at e
  all_goals first
    | cases e; done
    | obtain ⟨rfl, rfl, rfl, rfl, rfl, rfl⟩ := zn_inj e
      exact ⟨hK, lo, hL, H⟩
theorem qs_ixor : zSo zo_ixor (q_p2 (fun x y => .int ((fun x y : Int32 => x ^^^ y) (q_i x) (q_i y)))) := by
  intro sx d a b c k l st h k' l' st' h' x9 y9 lo K hK hL e H
  unfold zo_ixor at e
  repeat' split at e
  all_goals first
    | cases e; done
    | obtain ⟨rfl, rfl, rfl, rfl, rfl, rfl⟩ := zn_inj e
      exact ⟨hK, lo, hL, H⟩
theorem qs_ladd : zSo zo_ladd (q_p2 (fun x y => .long ((fun x y : Int64 => x + y) (q_l x) (q_l y)))) := by
  intro sx d a b c k l st h k' l' st' h' x9 y9 lo K hK hL e H
  unfold zo_ladd at e
  repeat' split at e
  all_goals first
    | cases e; done
    | obtain ⟨rfl, rfl, rfl, rfl, rfl, rfl⟩ := zn_inj e
      exact ⟨hK, lo, hL, H⟩
theorem qs_lmul : zSo zo_lmul (q_p2 (fun x y => .long ((fun x y : Int64 => x * y) (q_l x) (q_l y)))) := by
  intro sx d a b c k l st h k' l' st' h' x9 y9 lo K hK hL e H
  unfold zo_lmul at e
  repeat' split at e
  all_goals first
    | cases e; done
    | obtain ⟨rfl, rfl, rfl, rfl, rfl, rfl⟩ := zn_inj e
      exact ⟨hK, lo, hL, H⟩
theorem qs_ldiv : zSo zo_ldiv (q_p2 (fun x y => .long ((fun x y : Int64 => x / y) (q_l x) (q_l y)))) := by
  intro sx d a b c k l st h k' l' st' h' x9 y9 lo K hK hL e H
  unfold zo_ldiv at e
  repeat' split at e
  all_goals first
    | cases e; done
    | obtain ⟨rfl, rfl, rfl, rfl, rfl, rfl⟩ := zn_inj e
      exact ⟨hK, lo, hL, H⟩
theorem qs_lcmp : zSo zo_lcmp (q_p2 (fun x y => .int (lg_cmp (q_l x) (q_l y)))) := by
  intro sx d a b c k l st h k' l' st' h' x9 y9 lo K hK hL e H
  unfold zo_lcmp at e
  repeat' split at e
  all_goals first
    | cases e; done
    | obtain ⟨rfl, rfl, rfl, rfl, rfl, rfl⟩ := zn_inj e
      exact ⟨hK, lo, hL, H⟩
theorem qs_i2l : zSo zo_i2l (q_p1 (fun x => .long (q_i x).toInt64)) := by
  intro sx d a b c k l st h k' l' st' h' x9 y9 lo K hK hL e H
  unfold zo_i2l at e
  repeat' split at e
  all_goals first
    | cases e; done
    | obtain ⟨rfl, rfl, rfl, rfl, rfl, rfl⟩ := zn_inj e
      exact ⟨hK, lo, hL, H⟩
theorem qs_l2i : zSo zo_l2i (q_p1 (fun x => .int (q_l x).toInt32)) := by
  intro sx d a b c k l st h k' l' st' h' x9 y9 lo K hK hL e H
  unfold zo_l2i at e
  repeat' split at e
  all_goals first
    | cases e; done
    | obtain ⟨rfl, rfl, rfl, rfl, rfl, rfl⟩ := zn_inj e
      exact ⟨hK, lo, hL, H⟩
theorem qs_i2b : zSo zo_i2b (q_p1 (fun x => .int (q_i x).toInt8.toInt32)) := by
  intro sx d a b c k l st h k' l' st' h' x9 y9 lo K hK hL e H
  unfold zo_i2b at e
  repeat' split at e
  all_goals first
    | cases e; done
    | obtain ⟨rfl, rfl, rfl, rfl, rfl, rfl⟩ := zn_inj e
      exact ⟨hK, lo, hL, H⟩
noncomputable def qt_dup : zTr := fun _ _ _ _ k lo st σ K => match st with
  | v :: r => K (k + 1) lo (v :: v :: r) σ
  | _ => True
noncomputable def qt_dup2 : zTr := fun _ _ _ _ k lo st σ K => match st with
  | v :: w :: r => K (k + 1) lo (v :: w :: v :: w :: r) σ
  | _ => True
noncomputable def qt_pop : zTr := fun _ _ _ _ k lo st σ K => match st with
  | _ :: r => K (k + 1) lo r σ
  | _ => True
theorem qs_dup : zSo zo_dup qt_dup := by
  intro sx d a b c k l st h k' l' st' h' x9 y9 lo K hK hL e H
  unfold zo_dup at e
  repeat' split at e
  all_goals first
    | cases e; done
    | obtain ⟨rfl, rfl, rfl, rfl, rfl, rfl⟩ := zn_inj e
      exact ⟨hK, lo, hL, H⟩
theorem qs_dup2 : zSo zo_dup2 qt_dup2 := by
  intro sx d a b c k l st h k' l' st' h' x9 y9 lo K hK hL e H
  unfold zo_dup2 at e
  repeat' split at e
  all_goals first
    | cases e; done
    | obtain ⟨rfl, rfl, rfl, rfl, rfl, rfl⟩ := zn_inj e
      exact ⟨hK, lo, hL, H⟩
theorem qs_pop : zSo zo_pop qt_pop := by
  intro sx d a b c k l st h k' l' st' h' x9 y9 lo K hK hL e H
  unfold zo_pop at e
  repeat' split at e
  all_goals first
    | cases e; done
    | obtain ⟨rfl, rfl, rfl, rfl, rfl, rfl⟩ := zn_inj e
      exact ⟨hK, lo, hL, H⟩
noncomputable def qt_if : zTr := fun _ a b _ k lo st σ K => match st with
  | v :: r => (z_cmp b (q_i v) 0 = true → K a lo r σ) ∧ (z_cmp b (q_i v) 0 = false → K (k + 1) lo r σ)
  | _ => True
noncomputable def qt_icmp : zTr := fun _ a b _ k lo st σ K => match st with
  | y :: x :: r => (z_cmp b (q_i x) (q_i y) = true → K a lo r σ) ∧ (z_cmp b (q_i x) (q_i y) = false → K (k + 1) lo r σ)
  | _ => True
noncomputable def qt_ifnn : zTr := fun _ a _ _ k lo st σ K => match st with
  | v :: r => (v ≠ .null → K a lo r σ) ∧ (v = .null → K (k + 1) lo r σ)
  | _ => True
theorem qs_if : zSo zo_if qt_if := by
  intro sx d a b c k l st h k' l' st' h' x9 y9 lo K hK hL e H
  unfold zo_if at e
  split at e
  case h_2 => cases e
  next x r =>
  obtain ⟨rfl, rfl, rfl, rfl, rfl, rfl⟩ := zn_inj e
  refine ⟨hK, lo, hL, ?_⟩
  have H1 : (z_cmp b x 0 = true → K a lo st' (za h')) ∧ (z_cmp b x 0 = false → K (k + 1) lo st' (za h')) := H
  cases hc : z_cmp b x 0 with
  | true => exact H1.1 hc
  | false => exact H1.2 hc
theorem qs_icmp : zSo zo_icmp qt_icmp := by
  intro sx d a b c k l st h k' l' st' h' x9 y9 lo K hK hL e H
  unfold zo_icmp at e
  split at e
  case h_2 => cases e
  next y x r =>
  obtain ⟨rfl, rfl, rfl, rfl, rfl, rfl⟩ := zn_inj e
  refine ⟨hK, lo, hL, ?_⟩
  have H1 : (z_cmp b x y = true → K a lo st' (za h')) ∧ (z_cmp b x y = false → K (k + 1) lo st' (za h')) := H
  cases hc : z_cmp b x y with
  | true => exact H1.1 hc
  | false => exact H1.2 hc
theorem qs_ifnn : zSo zo_ifnn qt_ifnn := by
  intro sx d a b c k l st h k' l' st' h' x9 y9 lo K hK hL e H
  unfold zo_ifnn at e
  split at e
  · obtain ⟨rfl, rfl, rfl, rfl, rfl, rfl⟩ := zn_inj e
    exact ⟨hK, lo, hL, H.1 (fun q => by cases q)⟩
  · obtain ⟨rfl, rfl, rfl, rfl, rfl, rfl⟩ := zn_inj e
    exact ⟨hK, lo, hL, H.2 rfl⟩
  · cases e
noncomputable def q_sw (K : Nat → Prop) (d : Nat) (x : Int) : List (Int × Nat) → Prop
  | [] => K d
  | (v, t) :: r => (x = v → K t) ∧ (x ≠ v → q_sw K d x r)
noncomputable def q_sw2 (K : Nat → Prop) (d : Nat) (x : Int) : Int → List Nat → Prop
  | _, [] => K d
  | v, t :: r => (x = v → K t) ∧ (x ≠ v → q_sw2 K d x (v + 1) r)
theorem q_sw_ok {K : Nat → Prop} {d : Nat} {x : Int} : ∀ l : List (Int × Nat), q_sw K d x l → K (z_lkr l d x)
  | [], H => H
  | (v, t) :: r, H => by
    unfold z_lkr
    by_cases hv : v = x
    · rw [if_pos hv]; exact H.1 hv.symm
    · rw [if_neg hv]; exact q_sw_ok r (H.2 (fun q => hv q.symm))
theorem q_sw2_ok {K : Nat → Prop} {d : Nat} {x : Int} : ∀ (l : List Nat) (v : Int), q_sw2 K d x v l → K (if x < v then d else (l[(x - v).toNat]?).getD d)
  | [], v, H => by
    have : (if x < v then d else (([] : List Nat)[(x - v).toNat]?).getD d) = d := by split <;> simp
    rw [this]
    exact H
  | t :: r, v, H => by
    by_cases hv : x = v
    · rw [if_neg (by omega), show (x - v).toNat = 0 by omega]
      exact H.1 hv
    · have h9 := q_sw2_ok r (v + 1) (H.2 hv)
      by_cases hx : x < v
      · rw [if_pos hx]
        rw [if_pos (by omega)] at h9
        exact h9
      · rw [if_neg hx, show (x - v).toNat = (x - (v + 1)).toNat + 1 by omega, List.getElem?_cons_succ]
        rw [if_neg (by omega)] at h9
        exact h9
noncomputable def qt_tsw : zTr := fun _ a _ _ _ lo st σ K => match st with
  | v :: r => (match z_sw[a]? with
    | some t => q_sw2 (fun k' => K k' lo r σ) t.2.2 (q_i v).toInt t.1 t.2.1
    | none => True)
  | _ => True
noncomputable def qt_lsw2 : zTr := fun _ a _ _ _ lo st σ K => match st with
  | v :: r => (match z_lk[a]? with
    | some t => q_sw (fun k' => K k' lo r σ) t.2 (q_i v).toInt t.1
    | none => True)
  | _ => True
theorem qs_tsw : zSo zo_tsw qt_tsw := by
  intro sx d a b c k l st h k' l' st' h' x9 y9 lo K hK hL e H
  unfold zo_tsw at e
  split at e
  case h_2 => cases e
  next x r =>
  unfold qt_tsw at H
  dsimp only at H
  cases ht : z_sw[a]? with
  | none => rw [ht] at e; cases e
  | some t =>
  rw [ht] at e H
  dsimp only at e H
  obtain ⟨rfl, rfl, rfl, rfl, rfl, rfl⟩ := zn_inj e
  exact ⟨hK, lo, hL, q_sw2_ok _ _ H⟩
theorem qs_lsw2 : zSo zo_lsw2 qt_lsw2 := by
  intro sx d a b c k l st h k' l' st' h' x9 y9 lo K hK hL e H
  unfold zo_lsw2 at e
  split at e
  case h_2 => cases e
  next x r =>
  unfold qt_lsw2 at H
  dsimp only at H
  cases ht : z_lk[a]? with
  | none => rw [ht] at e; cases e
  | some t =>
  rw [ht] at e H
  dsimp only at e H
  obtain ⟨rfl, rfl, rfl, rfl, rfl, rfl⟩ := zn_inj e
  exact ⟨hK, lo, hL, q_sw_ok _ H⟩
noncomputable def qt_get : zTr := fun _ a b _ k lo st σ K => match st with
  | v :: r => K (k + 1) lo (q_ld (q_kd a b) (σ.1 (q_r v) b) :: r) σ
  | _ => True
noncomputable def qt_put : zTr := fun _ a b c k lo st σ K => match st with
  | v :: w :: r => bif q_pk c (q_kd a b) then K (k + 1) lo r (q_w σ (q_r w) b v) else False
  | _ => True
theorem qs_get : zSo zo_get qt_get := by
  intro sx d a b c k l st h k' l' st' h' x9 y9 lo K hK hL e H
  unfold zo_get at e
  split at e
  case h_2 => cases e
  next i r =>
  split at e
  case h_2 => cases e
  next c' fs he =>
  by_cases hc : c' = a
  case neg => rw [if_neg hc] at e; cases e
  rw [if_pos hc] at e
  subst hc
  split at e
  case h_2 => cases e
  next v hv =>
  obtain ⟨rfl, rfl, rfl, rfl, rfl, rfl⟩ := zn_inj e
  refine ⟨hK, lo, hL, ?_⟩
  have H1 : K (k + 1) lo (q_ld (q_kd c' b) (zv h' i b) :: r) (za h') := H
  rw [zv_at he, show z_rd (.inr (c', fs)) b = fs[b]? from rfl, hv, Option.getD_some, hK.1 i c' fs b v he hv] at H1
  exact H1
theorem q_pk_ok {c : Int} {n : Nat} {v : Value} (h1 : q_pk c n = true) (h2 : z_fit c v = true) : q_ld n v = v := by
  unfold q_pk at h1
  rw [Bool.or_eq_true, Bool.and_eq_true, Bool.and_eq_true, Bool.or_eq_true, decide_eq_true_eq, decide_eq_true_eq, decide_eq_true_eq] at h1
  rcases h1 with ⟨h1, h3⟩ | ⟨h1, h3⟩
  · rw [Nat.eq_of_beq_eq_true h1]
    cases v with
    | int x => rfl
    | ref i => simp only [z_fit, decide_eq_true_eq] at h2; omega
    | null => simp only [z_fit, decide_eq_true_eq] at h2; omega
    | _ => simp [z_fit] at h2
  · rw [Nat.eq_of_beq_eq_true h1]
    rfl
theorem qs_put : zSo zo_put qt_put := by
  intro sx d a b c k l st h k' l' st' h' x9 y9 lo K hK hL e H
  unfold zo_put at e
  split at e
  case h_2 => cases e
  next v i r =>
  split at e
  case h_2 => cases e
  next c' fs he =>
  by_cases hc : c' = a ∧ b < fs.length ∧ z_fit c v = true
  case neg => rw [if_neg hc] at e; cases e
  rw [if_pos hc] at e
  obtain ⟨hc, hb, hf⟩ := hc
  subst hc
  obtain ⟨rfl, rfl, rfl, rfl, rfl, rfl⟩ := zn_inj e
  have H1 : bif q_pk c (q_kd c' b) then K (k + 1) lo st' (q_w (za h) i b v) else False := H
  cases hp : q_pk c (q_kd c' b) with
  | false => rw [hp] at H1; exact H1.elim
  | true =>
  rw [hp] at H1
  refine ⟨hK.obj he (q_pk_ok hp hf), lo, hL, ?_⟩
  rw [za_set he (z_rd_obj hb) rfl]
  exact H1
theorem z_inp {j : Int32} {n : Nat} (h : z_in j n = true) : j.toNatClampNeg < n := by
  unfold z_in at h
  rw [Bool.not_eq_true', Bool.or_eq_false_iff, decide_eq_false_iff_not, decide_eq_false_iff_not] at h
  omega
theorem zvl_at {h : zH} {c t n : Nat} {x : (Nat → Int32) ⊕ (Nat → Int64) ⊕ (Nat → UInt32) ⊕ (Nat → UInt64) ⊕ (Nat → Option Nat)} (he : h[c]? = some (.inl (t, (n, x)))) : zvl h c = n := by
  unfold zvl
  rw [he]
noncomputable def qt_iald : zTr := fun _ _ _ _ k lo st σ K => match st with
  | j :: w :: r => z_in (q_i j) (σ.2.1 (q_r w)) = true → K (k + 1) lo (.int (q_i (σ.1 (q_r w) (q_i j).toNatClampNeg)) :: r) σ
  | _ => True
noncomputable def qt_lald : zTr := fun _ _ _ _ k lo st σ K => match st with
  | j :: w :: r => z_in (q_i j) (σ.2.1 (q_r w)) = true → K (k + 1) lo (.long (q_l (σ.1 (q_r w) (q_i j).toNatClampNeg)) :: r) σ
  | _ => True
noncomputable def qt_aald : zTr := fun _ _ _ _ k lo st σ K => match st with
  | j :: w :: r => z_in (q_i j) (σ.2.1 (q_r w)) = true → K (k + 1) lo (.ref (q_r (σ.1 (q_r w) (q_i j).toNatClampNeg)) :: r) σ
  | _ => True
noncomputable def qt_iast : zTr := fun _ _ _ _ k lo st σ K => match st with
  | v :: j :: w :: r => z_in (q_i j) (σ.2.1 (q_r w)) = true → K (k + 1) lo r (q_w σ (q_r w) (q_i j).toNatClampNeg (.int (q_i v)))
  | _ => True
noncomputable def qt_bast : zTr := fun _ _ _ _ k lo st σ K => match st with
  | v :: j :: w :: r => z_in (q_i j) (σ.2.1 (q_r w)) = true → K (k + 1) lo r (q_w σ (q_r w) (q_i j).toNatClampNeg (.int (vp_nar .byte (q_i v))))
  | _ => True
noncomputable def qt_last : zTr := fun _ _ _ _ k lo st σ K => match st with
  | v :: j :: w :: r => z_in (q_i j) (σ.2.1 (q_r w)) = true → K (k + 1) lo r (q_w σ (q_r w) (q_i j).toNatClampNeg (.long (q_l v)))
  | _ => True
noncomputable def qt_alen : zTr := fun _ _ _ _ k lo st σ K => match st with
  | w :: r => K (k + 1) lo (.int (Int32.ofNat (σ.2.1 (q_r w))) :: r) σ
  | _ => True
theorem qs_iald : zSo zo_iald qt_iald := by
  intro sx d a b c k l st h k' l' st' h' x9 y9 lo K hK hL e H
  unfold zo_iald at e
  split at e
  case h_2 => cases e
  next j i r =>
  split at e
  case h_2 => cases e
  next n f he =>
  by_cases hz : z_in j n = true
  case neg => rw [if_neg hz] at e; cases e
  rw [if_pos hz] at e
  obtain ⟨rfl, rfl, rfl, rfl, rfl, rfl⟩ := zn_inj e
  refine ⟨hK, lo, hL, ?_⟩
  have H1 : z_in j (zvl h' i) = true → K (k + 1) lo (.int (q_i (zv h' i j.toNatClampNeg)) :: r) (za h') := H
  rw [zvl_at he, zv_at he, z_rd0, if_pos (z_inp hz)] at H1
  exact H1 hz
theorem qs_bald : zSo zo_bald qt_iald := by
  intro sx d a b c k l st h k' l' st' h' x9 y9 lo K hK hL e H
  unfold zo_bald at e
  split at e
  case h_2 => cases e
  next j i r =>
  split at e
  case h_2 => cases e
  next n f he =>
  by_cases hz : z_in j n = true
  case neg => rw [if_neg hz] at e; cases e
  rw [if_pos hz] at e
  obtain ⟨rfl, rfl, rfl, rfl, rfl, rfl⟩ := zn_inj e
  refine ⟨hK, lo, hL, ?_⟩
  have H1 : z_in j (zvl h' i) = true → K (k + 1) lo (.int (q_i (zv h' i j.toNatClampNeg)) :: r) (za h') := H
  rw [zvl_at he, zv_at he, z_rd1, if_pos (z_inp hz)] at H1
  exact H1 hz
theorem qs_lald : zSo zo_lald qt_lald := by
  intro sx d a b c k l st h k' l' st' h' x9 y9 lo K hK hL e H
  unfold zo_lald at e
  split at e
  case h_2 => cases e
  next j i r =>
  split at e
  case h_2 => cases e
  next n f he =>
  by_cases hz : z_in j n = true
  case neg => rw [if_neg hz] at e; cases e
  rw [if_pos hz] at e
  obtain ⟨rfl, rfl, rfl, rfl, rfl, rfl⟩ := zn_inj e
  refine ⟨hK, lo, hL, ?_⟩
  have H1 : z_in j (zvl h' i) = true → K (k + 1) lo (.long (q_l (zv h' i j.toNatClampNeg)) :: r) (za h') := H
  rw [zvl_at he, zv_at he, z_rd2, if_pos (z_inp hz)] at H1
  exact H1 hz
theorem qs_aald : zSo zo_aald qt_aald := by
  intro sx d a b c k l st h k' l' st' h' x9 y9 lo K hK hL e H
  unfold zo_aald at e
  split at e
  case h_2 => cases e
  next j i r =>
  split at e
  case h_2 => cases e
  next n f he =>
  by_cases hz : z_in j n = true
  case neg => rw [if_neg hz] at e; cases e
  rw [if_pos hz] at e
  obtain ⟨rfl, rfl, rfl, rfl, rfl, rfl⟩ := zn_inj e
  refine ⟨hK, lo, hL, ?_⟩
  have H1 : z_in j (zvl h' i) = true → K (k + 1) lo (.ref (q_r (zv h' i j.toNatClampNeg)) :: r) (za h') := H
  obtain ⟨r9, hr9⟩ := hK.2 i n f he _ (z_inp hz)
  rw [zvl_at he, zv_at he, z_rd3, if_pos (z_inp hz), hr9] at H1
  rw [hr9]
  exact H1 hz
theorem qs_iast : zSo zo_iast qt_iast := by
  intro sx d a b c k l st h k' l' st' h' x9 y9 lo K hK hL e H
  unfold zo_iast at e
  split at e
  case h_2 => cases e
  next v j i r =>
  split at e
  case h_2 => cases e
  next n f he =>
  by_cases hz : z_in j n = true
  case neg => rw [if_neg hz] at e; cases e
  rw [if_pos hz] at e
  obtain ⟨rfl, rfl, rfl, rfl, rfl, rfl⟩ := zn_inj e
  refine ⟨hK.arr (x := .inl f) (by decide), lo, hL, ?_⟩
  have H1 : z_in j (zvl h i) = true → K (k + 1) lo st' (q_w (za h) i j.toNatClampNeg (.int (v))) := H
  rw [zvl_at he] at H1
  rw [za_set he (z_rd_int (z_inp hz)) rfl]
  exact H1 hz
theorem qs_bast : zSo zo_bast qt_bast := by
  intro sx d a b c k l st h k' l' st' h' x9 y9 lo K hK hL e H
  unfold zo_bast at e
  split at e
  case h_2 => cases e
  next v j i r =>
  split at e
  case h_2 => cases e
  next n f he =>
  by_cases hz : z_in j n = true
  case neg => rw [if_neg hz] at e; cases e
  rw [if_pos hz] at e
  obtain ⟨rfl, rfl, rfl, rfl, rfl, rfl⟩ := zn_inj e
  refine ⟨hK.arr (x := .inl f) (by decide), lo, hL, ?_⟩
  have H1 : z_in j (zvl h i) = true → K (k + 1) lo st' (q_w (za h) i j.toNatClampNeg (.int (vp_nar .byte v))) := H
  rw [zvl_at he] at H1
  rw [za_set he (z_rd_byte (z_inp hz)) rfl]
  exact H1 hz
theorem qs_last : zSo zo_last qt_last := by
  intro sx d a b c k l st h k' l' st' h' x9 y9 lo K hK hL e H
  unfold zo_last at e
  split at e
  case h_2 => cases e
  next v j i r =>
  split at e
  case h_2 => cases e
  next n f he =>
  by_cases hz : z_in j n = true
  case neg => rw [if_neg hz] at e; cases e
  rw [if_pos hz] at e
  obtain ⟨rfl, rfl, rfl, rfl, rfl, rfl⟩ := zn_inj e
  refine ⟨hK.arr (x := .inr (.inl f)) (by decide), lo, hL, ?_⟩
  have H1 : z_in j (zvl h i) = true → K (k + 1) lo st' (q_w (za h) i j.toNatClampNeg (.long v)) := H
  rw [zvl_at he] at H1
  rw [za_set he (z_rd_long (z_inp hz)) rfl]
  exact H1 hz
theorem qs_alen : zSo zo_alen qt_alen := by
  intro sx d a b c k l st h k' l' st' h' x9 y9 lo K hK hL e H
  unfold zo_alen at e
  split at e
  case h_2 => cases e
  next i r =>
  split at e
  case h_2 => cases e
  next t n x he =>
  by_cases hz : t < 4
  case neg => rw [if_neg hz] at e; cases e
  rw [if_pos hz] at e
  obtain ⟨rfl, rfl, rfl, rfl, rfl, rfl⟩ := zn_inj e
  refine ⟨hK, lo, hL, ?_⟩
  have H1 : K (k + 1) lo (.int (Int32.ofNat (zvl h' i)) :: r) (za h') := H
  rw [zvl_at he] at H1
  exact H1
theorem q_s_at {i : Nat} {q : String × Nat × String × List Int32} (h : z_strs[i - zB]? = some q) : q_s i = q.2.2.2 := congrArg q_so h
noncomputable def qt_newa : zTr := fun _ a _ _ k lo st σ K => match st with
  | n :: r => ¬ q_i n < 0 → K (k + 1) lo (.ref σ.2.2 :: r) (q_nw σ (fun j => (z_rd (z_new a (q_i n).toNatClampNeg) j).getD .null) (q_i n).toNatClampNeg)
  | _ => True
noncomputable def qt_new : zTr := fun _ a _ _ k lo st σ K => bif Nat.beq a 2 then K (k + 1) lo (.ref σ.2.2 :: st) (q_nw σ (fun j => ((z_df.getD a [])[j]?).getD .null) 0) else False
noncomputable def qt_clone : zTr := fun _ _ _ _ k lo st σ K => match st with
  | w :: r => K (k + 1) lo (.ref σ.2.2 :: r) (q_nw σ (σ.1 (q_r w)) (σ.2.1 (q_r w)))
  | _ => True
noncomputable def qt_cast : zTr := fun _ _ _ _ k lo st σ K => match st with
  | w :: r => K (k + 1) lo (.ref (q_r w) :: r) σ
  | _ => True
noncomputable def qt_acopy : zTr := fun _ _ _ _ k lo st σ K => match st with
  | n :: dp :: w1 :: sp :: w0 :: r => K (k + 1) lo r (q_cp σ (q_r w0) (q_r w1) (q_i sp).toNatClampNeg (q_i dp).toNatClampNeg (q_i n).toNatClampNeg)
  | _ => True
noncomputable def qt_slength : zTr := fun _ _ _ _ k lo st σ K => match st with
  | w :: r => K (k + 1) lo (.int (Int32.ofNat (q_s (q_r w)).length) :: r) σ
  | _ => True
noncomputable def qt_scharAt : zTr := fun _ _ _ _ k lo st σ K => match st with
  | j :: w :: r => z_in (q_i j) (q_s (q_r w)).length = true → K (k + 1) lo (.int (((q_s (q_r w)).getD (q_i j).toNatClampNeg 0) &&& 255) :: r) σ
  | _ => True
noncomputable def qt_oinit : zTr := qt_pop
noncomputable def qt_min : zTr := q_p2 (fun x y => .int (if q_i y < q_i x then q_i y else q_i x))
noncomputable def qt_max : zTr := q_p2 (fun x y => .int (if q_i x < q_i y then q_i y else q_i x))
noncomputable def qt_sald : zTr := fun sx _ _ _ k lo st σ K => match st with
  | j :: _ :: r => z_in (q_i j) sx.1 = true → K (k + 1) lo (.int (sx.2 (q_i j).toNatClampNeg) :: r) σ
  | _ => True
noncomputable def qt_slen : zTr := fun sx _ _ _ k lo st σ K => match st with
  | _ :: r => K (k + 1) lo (.int (Int32.ofNat sx.1) :: r) σ
  | _ => True
theorem qs_oinit : zSo zo_oinit qt_oinit := by
  intro sx d a b c k l st h k' l' st' h' x9 y9 lo K hK hL e H
  unfold zo_oinit at e
  repeat' split at e
  all_goals first
    | cases e; done
    | obtain ⟨rfl, rfl, rfl, rfl, rfl, rfl⟩ := zn_inj e
      exact ⟨hK, lo, hL, H⟩
theorem qs_slen : zSo zo_slen qt_slen := by
  intro sx d a b c k l st h k' l' st' h' x9 y9 lo K hK hL e H
  unfold zo_slen at e
  repeat' split at e
  all_goals first
    | cases e; done
    | obtain ⟨rfl, rfl, rfl, rfl, rfl, rfl⟩ := zn_inj e
      exact ⟨hK, lo, hL, H⟩
theorem qs_min : zSo zo_min qt_min := by
  intro sx d a b c k l st h k' l' st' h' x9 y9 lo K hK hL e H
  unfold zo_min at e
  split at e
  case h_2 => cases e
  next y x r =>
  by_cases hz : 6 ≤ d ∧ z_cat r ≤ 8
  case neg => rw [if_neg hz] at e; cases e
  rw [if_pos hz] at e
  obtain ⟨rfl, rfl, rfl, rfl, rfl, rfl⟩ := zn_inj e
  exact ⟨hK, lo, hL, H⟩
theorem qs_max : zSo zo_max qt_max := by
  intro sx d a b c k l st h k' l' st' h' x9 y9 lo K hK hL e H
  unfold zo_max at e
  split at e
  case h_2 => cases e
  next y x r =>
  by_cases hz : 6 ≤ d ∧ z_cat r ≤ 8
  case neg => rw [if_neg hz] at e; cases e
  rw [if_pos hz] at e
  obtain ⟨rfl, rfl, rfl, rfl, rfl, rfl⟩ := zn_inj e
  exact ⟨hK, lo, hL, H⟩
theorem qs_sald : zSo zo_sald qt_sald := by
  intro sx d a b c k l st h k' l' st' h' x9 y9 lo K hK hL e H
  unfold zo_sald at e
  split at e
  case h_2 => cases e
  next j i r =>
  by_cases hz : i = zS ∧ z_in j sx.1 = true
  case neg => rw [if_neg hz] at e; cases e
  rw [if_pos hz] at e
  obtain ⟨rfl, rfl, rfl, rfl, rfl, rfl⟩ := zn_inj e
  exact ⟨hK, lo, hL, H hz.2⟩
theorem qs_cast : zSo zo_cast qt_cast := by
  intro sx d a b c k l st h k' l' st' h' x9 y9 lo K hK hL e H
  unfold zo_cast at e
  repeat' split at e
  all_goals first
    | cases e; done
    | obtain ⟨rfl, rfl, rfl, rfl, rfl, rfl⟩ := zn_inj e
      exact ⟨hK, lo, hL, H⟩
theorem qs_newa : zSo zo_newa qt_newa := by
  intro sx d a b c k l st h k' l' st' h' x9 y9 lo K hK hL e H
  unfold zo_newa at e
  split at e
  case h_2 => cases e
  next n r =>
  by_cases hz : ¬ n < 0 ∧ n.toNatClampNeg ≤ 65536 ∧ h.length < zB ∧ a < 3
  case neg => rw [if_neg hz] at e; cases e
  rw [if_pos hz] at e
  simp only [Option.some.injEq, Prod.mk.injEq] at e
  obtain ⟨rfl, rfl, rfl, rfl, -, -⟩ := e
  have hne : ∀ (m : Nat) (f : Nat → Option Nat), z_new a n.toNatClampNeg ≠ .inl (3, (m, .inr (.inr (.inr (.inr f))))) := by
    intro m f q
    unfold z_new at q
    split at q <;> simp at q
  have hno : ∀ (c : Nat) (fs : List Value) (b : Nat) (v : Value), z_new a n.toNatClampNeg = .inr (c, fs) → fs[b]? = some v → q_ld (q_kd c b) v = v := by
    intro c fs b v q
    unfold z_new at q
    split at q <;> simp at q
  refine ⟨hK.push hno hne, lo, hL, ?_⟩
  rw [za_push (f := fun j => (z_rd (z_new a n.toNatClampNeg) j).getD .null) (n := n.toNatClampNeg) (fun j => rfl) (by unfold z_new; split <;> rfl)]
  exact H hz.1
theorem qs_new : zSo zo_new qt_new := by
  intro sx d a b c k l st h k' l' st' h' x9 y9 lo K hK hL e H
  unfold zo_new at e
  by_cases hz : h.length < zB
  case neg => rw [if_neg hz] at e; cases e
  rw [if_pos hz] at e
  split at e
  case h_2 => cases e
  next q hq =>
  simp only [Option.some.injEq, Prod.mk.injEq] at e
  obtain ⟨rfl, rfl, rfl, rfl, -, -⟩ := e
  unfold qt_new at H
  cases ha : Nat.beq a 2 with
  | false => rw [ha] at H; exact H.elim
  | true =>
  rw [ha] at H
  have ha2 := Nat.eq_of_beq_eq_true ha
  subst ha2
  refine ⟨hK.push (fun c fs b v q hv => ?_) (fun m f q => by cases q), lo, hL, ?_⟩
  · cases q
    match b, hv with
    | 0, hv => cases hv; rfl
    | 1, hv => cases hv; rfl
    | 2, hv => cases hv; rfl
    | 3, hv => cases hv; rfl
    | 4, hv => cases hv; rfl
    | 5, hv => cases hv; rfl
    | b + 6, hv => simp [z_df] at hv
  · rw [za_push (f := fun j => ((z_df.getD 2 [])[j]?).getD .null) (n := 0) (fun j => rfl) rfl]
    exact H
theorem qs_clone : zSo zo_clone qt_clone := by
  intro sx d a b c k l st h k' l' st' h' x9 y9 lo K hK hL e H
  unfold zo_clone at e
  split at e
  case h_2 => cases e
  next i r =>
  split at e
  case h_2 => cases e
  next n f he =>
  by_cases hz : 6 ≤ d ∧ z_cat r ≤ 8 ∧ h.length < zB
  case neg => rw [if_neg hz] at e; cases e
  rw [if_pos hz] at e
  simp only [Option.some.injEq, Prod.mk.injEq] at e
  obtain ⟨rfl, rfl, rfl, rfl, -, -⟩ := e
  refine ⟨hK.push (fun c fs b v q => by cases q) (fun m f q => by cases q), lo, hL, ?_⟩
  rw [za_push (f := zv h i) (n := zvl h i) (fun j => (zv_at he).symm) (zvl_at he).symm]
  exact H
theorem qs_acopy : zSo zo_acopy qt_acopy := by
  intro sx d a b c k l st h k' l' st' h' x9 y9 lo K hK hL e H
  unfold zo_acopy at e
  split at e
  case h_2 => cases e
  next n dp i1 sp i0 r =>
  split at e
  case h_2 => cases e
  next n0 f n1 g h0 h1 =>
  by_cases hz : 6 ≤ d ∧ z_cat r ≤ 8 ∧ ¬ sp < 0 ∧ ¬ dp < 0 ∧ ¬ n < 0 ∧ sp.toNatClampNeg + n.toNatClampNeg ≤ n0 ∧ dp.toNatClampNeg + n.toNatClampNeg ≤ n1
  case neg => rw [if_neg hz] at e; cases e
  rw [if_pos hz] at e
  obtain ⟨rfl, rfl, rfl, rfl, rfl, rfl⟩ := zn_inj e
  refine ⟨hK.arr (x := .inl f) (by decide), lo, hL, ?_⟩
  have hl := (List.getElem?_eq_some_iff.mp h1).1
  have e1 : za (h.set i1 (.inl (0, (n1, .inl (va_cpy f g sp.toNatClampNeg dp.toNatClampNeg n.toNatClampNeg))))) = q_cp (za h) i0 i1 sp.toNatClampNeg dp.toNatClampNeg n.toNatClampNeg := by
    refine Prod.ext ?_ (Prod.ext ?_ ?_)
    · funext c k'
      show zv (h.set i1 _) c k' = if c = i1 ∧ dp.toNatClampNeg ≤ k' ∧ k' < dp.toNatClampNeg + n.toNatClampNeg then zv h i0 (sp.toNatClampNeg + (k' - dp.toNatClampNeg)) else zv h c k'
      by_cases hc : c = i1
      · subst hc
        rw [zv_at (List.getElem?_set_self hl), z_rd0]
        unfold va_cpy
        by_cases hk : dp.toNatClampNeg ≤ k' ∧ k' < dp.toNatClampNeg + n.toNatClampNeg
        · rw [if_pos (by omega), if_pos hk, if_pos ⟨rfl, hk⟩, zv_at h0, z_rd0, if_pos (by omega)]
        · have hk2 : ¬ (c = c ∧ dp.toNatClampNeg ≤ k' ∧ k' < dp.toNatClampNeg + n.toNatClampNeg) := fun q => hk q.2
          rw [if_neg hk, if_neg hk2, zv_at h1, z_rd0]
      · rw [if_neg (fun q => hc q.1)]
        unfold zv
        rw [List.getElem?_set_ne (fun q => hc q.symm)]
    · exact zvl_set h1 rfl
    · exact List.length_set
  rw [e1]
  exact H
theorem qs_slength : zSo zo_slength qt_slength := by
  intro sx d a b c k l st h k' l' st' h' x9 y9 lo K hK hL e H
  unfold zo_slength at e
  split at e
  case h_2 => cases e
  next i r =>
  split at e
  case isFalse => cases e
  split at e
  case h_2 => cases e
  next q hq =>
  obtain ⟨rfl, rfl, rfl, rfl, rfl, rfl⟩ := zn_inj e
  refine ⟨hK, lo, hL, ?_⟩
  unfold qt_slength at H
  dsimp only at H
  rw [show q_r (.ref i) = i from rfl, q_s_at hq] at H
  exact H
theorem qs_scharAt : zSo zo_scharAt qt_scharAt := by
  intro sx d a b c k l st h k' l' st' h' x9 y9 lo K hK hL e H
  unfold zo_scharAt at e
  split at e
  case h_2 => cases e
  next j i r =>
  split at e
  case isFalse => cases e
  split at e
  case h_2 => cases e
  next q hq =>
  by_cases hz : z_in j q.2.2.2.length = true
  case neg => rw [if_neg hz] at e; cases e
  rw [if_pos hz] at e
  obtain ⟨rfl, rfl, rfl, rfl, rfl, rfl⟩ := zn_inj e
  refine ⟨hK, lo, hL, ?_⟩
  unfold qt_scharAt at H
  dsimp only at H
  rw [show q_r (.ref i) = i from rfl, show q_i (.int j) = j from rfl, q_s_at hq] at H
  exact H hz
noncomputable def qts : List zTr := [qt_const, qt_iload, qt_aload, qt_lload, qt_istore, qt_astore, qt_lstore, qt_iinc, q_p2 (fun x y => .int ((fun x y : Int32 => x + y) (q_i x) (q_i y))), q_p2 (fun x y => .int ((fun x y : Int32 => x - y) (q_i x) (q_i y))), q_p2 (fun x y => .int ((fun x y : Int32 => x * y) (q_i x) (q_i y))), q_p2 (fun x y => .int ((fun x y : Int32 => x / y) (q_i x) (q_i y))), q_p2 (fun x y => .int ((fun x y : Int32 => x - x / y * y) (q_i x) (q_i y))), q_p2 (fun x y => .int ((fun x y : Int32 => x <<< (y &&& 31)) (q_i x) (q_i y))), q_p2 (fun x y => .int ((fun x y : Int32 => x >>> (y &&& 31)) (q_i x) (q_i y))), q_p2 (fun x y => .int ((fun x y : Int32 => (x.toUInt32 >>> (y.toUInt32 &&& Int32.toUInt32 31)).toInt32) (q_i x) (q_i y))), q_p2 (fun x y => .int ((fun x y : Int32 => x &&& y) (q_i x) (q_i y))), q_p2 (fun x y => .int ((fun x y : Int32 => x ||| y) (q_i x) (q_i y))), q_p2 (fun x y => .int ((fun x y : Int32 => x ^^^ y) (q_i x) (q_i y))), q_p1 (fun x => .long (q_i x).toInt64), q_p1 (fun x => .int (q_l x).toInt32), q_p1 (fun x => .int (q_i x).toInt8.toInt32), q_p2 (fun x y => .long ((fun x y : Int64 => x + y) (q_l x) (q_l y))), q_p2 (fun x y => .long ((fun x y : Int64 => x * y) (q_l x) (q_l y))), q_p2 (fun x y => .long ((fun x y : Int64 => x / y) (q_l x) (q_l y))), qt_lconst, q_p2 (fun x y => .int (lg_cmp (q_l x) (q_l y))), qt_dup, qt_dup2, qt_pop, qt_goto, qt_if, qt_icmp, qt_ifnn, qt_lald, qt_tsw, qt_lsw2, qt_get, qt_put, qt_iald, qt_iast, qt_iald, qt_bast, qt_last, qt_aald, qt_no, qt_alen, qt_newa, qt_no, qt_new, qt_no, qt_no, qt_no, qt_no, qt_no, qt_no, qt_no, qt_oinit, qt_ldcs, qt_slength, qt_scharAt, qt_acopy, qt_no, qt_null, qt_no, qt_sald, qt_slen, qt_min, qt_max, qt_no, qt_clone, qt_cast]
theorem qs_all : ∀ o, zSo (z_ops.getD o z_no) (qts.getD o qt_no)
  | 0 => qs_const
  | 1 => qs_iload
  | 2 => qs_aload
  | 3 => qs_lload
  | 4 => qs_istore
  | 5 => qs_astore
  | 6 => qs_lstore
  | 7 => qs_iinc
  | 8 => qs_iadd
  | 9 => qs_isub
  | 10 => qs_imul
  | 11 => qs_idiv
  | 12 => qs_irem
  | 13 => qs_ishl
  | 14 => qs_ishr
  | 15 => qs_iushr
  | 16 => qs_iand
  | 17 => qs_ior
  | 18 => qs_ixor
  | 19 => qs_i2l
  | 20 => qs_l2i
  | 21 => qs_i2b
  | 22 => qs_ladd
  | 23 => qs_lmul
  | 24 => qs_ldiv
  | 25 => qs_lconst
  | 26 => qs_lcmp
  | 27 => qs_dup
  | 28 => qs_dup2
  | 29 => qs_pop
  | 30 => qs_goto
  | 31 => qs_if
  | 32 => qs_icmp
  | 33 => qs_ifnn
  | 34 => qs_lald
  | 35 => qs_tsw
  | 36 => qs_lsw2
  | 37 => qs_get
  | 38 => qs_put
  | 39 => qs_iald
  | 40 => qs_iast
  | 41 => qs_bald
  | 42 => qs_bast
  | 43 => qs_last
  | 44 => qs_aald
  | 45 => qs_no
  | 46 => qs_alen
  | 47 => qs_newa
  | 48 => qs_no
  | 49 => qs_new
  | 50 => qs_no
  | 51 => qs_no
  | 52 => qs_no
  | 53 => qs_no
  | 54 => qs_no
  | 55 => qs_no
  | 56 => qs_no
  | 57 => qs_oinit
  | 58 => qs_ldcs
  | 59 => qs_slength
  | 60 => qs_scharAt
  | 61 => qs_acopy
  | 62 => qs_no
  | 63 => qs_null
  | 64 => qs_no
  | 65 => qs_sald
  | 66 => qs_slen
  | 67 => qs_min
  | 68 => qs_max
  | 69 => qs_no
  | 70 => qs_clone
  | 71 => qs_cast
  | n + 72 => qs_no
/-! a run's end, calls, and the step as a whole -/
noncomputable def q_fs : List (Nat × Nat × zPp) → Nat → Option (Nat × zPp)
  | [], _ => none
  | q :: r, j => bif Nat.beq q.1 j then some q.2 else q_fs r j
noncomputable def q_c1 : List Value → Bool
  | [] => true
  | v :: r => Nat.beq v.category 1 && q_c1 r
noncomputable def q_hd (st : List Value) : Value := match st with
  | v :: _ => v
  | [] => .null
noncomputable def q_cl (sps : List (Nat × Nat × zPp)) (hs : List zHd) (Ψ : zO → zSg → Prop) (go : zKo) (j k : Nat) (lo : zLf) (as rest : List Value) (σ : zSg) (ca : Bool) : Prop := match q_fs sps j with
  | none => False
  | some p => bif Nat.beq as.length p.1 && q_c1 as then (∀ o σ', p.2 as σ o σ' → (match o with
    | .inl v => go (k + 1) lo (v.toList ++ rest) σ'
    | .inr E => bif ca then (match hs.find? (fun q => q.2.2.2.2.1 == E) with
      | some q => go q.2.2.2.2.2.1 lo [] σ'
      | none => Ψ (.inr E) σ') else True)) else False
noncomputable def q_sp (o : Nat) : Nat := match o with
  | 50 => 1 | 51 => 2 | 52 => 3 | 53 => 4 | 62 => 5 | 54 => 6 | 55 => 7 | 72 => 7 | 56 => 8 | 73 => 8
  | _ => 0
noncomputable def zstp (sx : zX) (sps : List (Nat × Nat × zPp)) (hs : List zHd) (cs : List zI) (Ψ : zO → zSg → Prop) (go : zKo) (k : Nat) (lo : zLf) (st : List Value) (σ : zSg) : Prop := match cs[k]? with
  | none => True
  | some (o, a, b, c) => (match q_sp o with
    | 0 => (qts.getD o qt_no) sx a b c k lo st σ go
    | 1 => Ψ (.inl (some (.int (q_i (q_hd st))))) σ
    | 2 => Ψ (.inl (some (.long (q_l (q_hd st))))) σ
    | 3 => Ψ (.inl (some (.ref (q_r (q_hd st))))) σ
    | 4 => Ψ (.inl none) σ
    | 5 => Ψ (.inr a) σ
    | 6 => (match st.drop b with
      | w :: rest => q_cl sps hs Ψ go a k lo (.ref (q_r w) :: (st.take b).reverse) rest σ true
      | [] => True)
    | 7 => q_cl sps hs Ψ go a k lo (st.take b).reverse (st.drop b) σ false
    | _ => (match st.drop b with
      | w :: rest => q_cl sps hs Ψ go a k lo (.ref (q_r w) :: (st.take b).reverse) rest σ false
      | [] => True))
/-- every run of at most that much fuel from here ends with Ψ -/
noncomputable def zRu (sx : zX) (m0 j k : Nat) (lo : zLf) (st : List Value) (σ : zSg) (Ψ : zO → zSg → Prop) : Prop := ∀ m, m ≤ m0 → ∀ (d : Nat) (l : zL) (h : zH) (r : zRes), zKh h → zLr l lo → za h = σ → z_run sx m d j k l st h = some r → zKh r.2.1 ∧ Ψ r.1 (za r.2.1)
noncomputable def zMt (sx : zX) (m0 j n : Nat) (P : zPp) : Prop := ∀ m, m ≤ m0 → ∀ (d : Nat) (h : zH) (as : List Value) (r : zRes), zKh h → as.length = n → q_c1 as = true → z_run sx m d j 0 (lv_args 0 as) [] h = some r → zKh r.2.1 ∧ P as (za h) r.1 (za r.2.1)
theorem q_c1_ok : ∀ {as : List Value}, q_c1 as = true → ∀ v ∈ as, v.category = 1
  | v :: vs, h, w, hw => by
    unfold q_c1 at h
    rw [Bool.and_eq_true] at h
    rcases List.mem_cons.mp hw with e | e
    · rw [e]; exact Nat.eq_of_beq_eq_true h.1
    · exact q_c1_ok h.2 w e
theorem q_fs_ok {j : Nat} {p : Nat × zPp} : ∀ {sps : List (Nat × Nat × zPp)}, q_fs sps j = some p → (j, p) ∈ sps
  | q :: r, h => by
    unfold q_fs at h
    cases hb : Nat.beq q.1 j with
    | true =>
      rw [hb] at h
      have h1 : q.2 = p := by simpa using h
      have h2 := Nat.eq_of_beq_eq_true hb
      rw [← h1, ← h2]
      exact List.mem_cons_self
    | false =>
      rw [hb] at h
      exact List.mem_cons_of_mem _ (q_fs_ok h)
section ZFL
variable {sx : zX} {sps : List (Nat × Nat × zPp)} {hs : List zHd} {cs : List zI} {M : zMi} {Ψ : zO → zSg → Prop} {go : zKo} {m0 j k : Nat} {lo : zLf} {st : List Value} {σ : zSg}
theorem q_sp_no {o : Nat} (h : q_sp o ≠ 0) : z_ops.getD o z_no = z_no := by
  unfold q_sp at h
  split at h
  all_goals first
    | rfl
    | exact absurd rfl h
/-- a call, by what its method ends with -/
theorem q_cl_ok {m d a : Nat} {b : Bool} {as rest : List Value} {h : zH} {l : zL} {r : zRes} {i : zI} (hm : m ≤ m0) (hsp : ∀ q ∈ sps, zMt sx m0 q.1 q.2.1 q.2.2) (hgo : ∀ k' lo' st' σ', go k' lo' st' σ' → zRu sx m0 j k' lo' st' σ' Ψ) (hK : zKh h) (hL : zLr l lo) (hb : i.1 = 54 → b = true) (H : q_cl sps hs Ψ go a k lo as rest (za h) b)
    (hr : (match z_run sx m (d - 1) a 0 (lv_args 0 as) [] h with
            | some (.inl v, h', x, y) => (z_run sx m d j (k + 1) l (v.toList ++ rest) h').map (z_add x y)
            | some (.inr E, h', x, y) => if i.1 = 54 then (match hs.find? (fun q => q.2.2.2.2.1 == E) with
                | some q => (z_run sx m d j q.2.2.2.2.2.1 (z_drop l q.2.2.2.2.2.2) [] h').map (z_add x y)
                | none => if hs = [] then some (.inr E, h', x, y) else none) else none
            | none => none) = some r) : zKh r.2.1 ∧ Ψ r.1 (za r.2.1) := by
  unfold q_cl at H
  cases hp : q_fs sps a with
  | none => rw [hp] at H; exact H.elim
  | some p =>
  rw [hp] at H
  dsimp only at H
  cases hc : (Nat.beq as.length p.1 && q_c1 as) with
  | false => rw [hc] at H; exact H.elim
  | true =>
  rw [hc] at H
  rw [Bool.and_eq_true] at hc
  have H : ∀ o σ', p.2 as (za h) o σ' → _ := H
  have hS := hsp _ (q_fs_ok hp)
  cases hin : z_run sx m (d - 1) a 0 (lv_args 0 as) [] h with
  | none => rw [hin] at hr; cases hr
  | some w =>
  obtain ⟨oi, h1, x1, y1⟩ := w
  rw [hin] at hr
  obtain ⟨K1, P1⟩ := hS m hm (d - 1) h as _ hK (Nat.eq_of_beq_eq_true hc.1) hc.2 hin
  dsimp only at K1 P1
  have H2 := H oi (za h1) P1
  cases oi with
  | inl v =>
    dsimp only at hr H2
    obtain ⟨r1, r2, r3, r4⟩ := r
    obtain ⟨a9, b9, e1, e2, e3⟩ := z_mapadd hr
    exact hgo _ _ _ _ H2 m hm d l h1 (r1, r2, a9, b9) K1 hL rfl e1
  | inr E =>
    dsimp only at hr H2
    by_cases hi : i.1 = 54
    case neg => rw [if_neg hi] at hr; cases hr
    rw [if_pos hi] at hr
    rw [hb hi] at H2
    cases hfd : hs.find? (fun q => q.2.2.2.2.1 == E) with
    | some q =>
      rw [hfd] at hr H2
      dsimp only at hr H2
      obtain ⟨r1, r2, r3, r4⟩ := r
      obtain ⟨a9, b9, e1, e2, e3⟩ := z_mapadd hr
      exact hgo _ _ _ _ H2 m hm d _ h1 (r1, r2, a9, b9) K1 hL.drop rfl e1
    | none =>
      rw [hfd] at hr H2
      dsimp only at hr H2
      by_cases he : hs = []
      case neg => rw [if_neg he] at hr; cases hr
      rw [if_pos he] at hr
      cases hr
      exact ⟨K1, H2⟩
theorem zstp_ok (J : zJ3 j M cs hs) (hsp : ∀ q ∈ sps, zMt sx m0 q.1 q.2.1 q.2.2) (H : zstp sx sps hs cs Ψ go k lo st σ) (hgo : ∀ k' lo' st' σ', go k' lo' st' σ' → zRu sx m0 j k' lo' st' σ' Ψ) : zRu sx (m0 + 1) j k lo st σ Ψ := by
  intro m hm d l h r hK hL hA hr
  subst hA
  match m with
  | 0 => rw [z_run] at hr; cases hr
  | m + 1 =>
  have hm : m ≤ m0 := by omega
  rw [z_run, J.1, J.2.1, J.2.2] at hr
  dsimp only at hr
  unfold zstp at H
  cases hk : cs[k]? with
  | none => rw [hk] at hr; cases hr
  | some i =>
  rw [hk] at hr H
  obtain ⟨o, a, b, c⟩ := i
  dsimp only at hr H
  cases hf : z_fin M (o, a, b, c) d st with
  | some w =>
    obtain ⟨o', x, y⟩ := w
    rw [hf] at hr
    dsimp only at hr
    cases hr
    refine ⟨hK, ?_⟩
    dsimp only
    unfold z_fin at hf
    dsimp only at hf
    split at hf
    · split at hf
      · split at hf
        · cases hf; exact H
        · cases hf
      · cases hf
    · cases hf; exact H
    · cases hf; exact H
    · cases hf; exact H
    · split at hf
      · cases hf; exact H
      · cases hf
    · cases hf
  | none =>
  rw [hf] at hr
  dsimp only at hr
  cases hc : z_cal (o, a, b, c) d st h with
  | some w =>
    obtain ⟨j', as, rest⟩ := w
    rw [hc] at hr
    dsimp only at hr
    obtain ⟨h0, -⟩ := z_cal_in hc
    unfold z_cal0 at h0
    by_cases hd : d = 0 ∨ st.length < b
    · rw [if_pos hd] at h0; cases h0
    rw [if_neg hd] at h0
    dsimp only at h0
    split at h0
    · split at h0
      · next r9 rest9 hdr =>
        have H : (match st.drop b with | w :: rest => q_cl sps hs Ψ go a k lo (.ref (q_r w) :: (st.take b).reverse) rest (za h) true | [] => True) := H
        rw [hdr] at H
        dsimp only at H
        split at h0
        · split at h0
          · cases h0
            exact q_cl_ok (i := (54, a, b, c)) hm hsp hgo hK hL (fun _ => rfl) H hr
          · cases h0
        · cases h0
      · cases h0
    · split at h0
      · cases h0
        exact q_cl_ok (i := (55, a, b, c)) hm hsp hgo hK hL (fun q => absurd q (by decide : (55 : Nat) ≠ 54)) H hr
      · cases h0
    · split at h0
      · cases h0
        exact q_cl_ok (i := (72, a, b, c)) hm hsp hgo hK hL (fun q => absurd q (by decide : (72 : Nat) ≠ 54)) H hr
      · cases h0
    · split at h0
      · next r9 rest9 hdr =>
        have H : (match st.drop b with | w :: rest => q_cl sps hs Ψ go a k lo (.ref (q_r w) :: (st.take b).reverse) rest (za h) false | [] => True) := H
        rw [hdr] at H
        dsimp only at H
        split at h0
        · cases h0
          exact q_cl_ok (i := (56, a, b, c)) hm hsp hgo hK hL (fun q => absurd q (by decide : (56 : Nat) ≠ 54)) H hr
        · cases h0
      · cases h0
    · split at h0
      · next r9 rest9 hdr =>
        have H : (match st.drop b with | w :: rest => q_cl sps hs Ψ go a k lo (.ref (q_r w) :: (st.take b).reverse) rest (za h) false | [] => True) := H
        rw [hdr] at H
        dsimp only at H
        split at h0
        · cases h0
          exact q_cl_ok (i := (73, a, b, c)) hm hsp hgo hK hL (fun q => absurd q (by decide : (73 : Nat) ≠ 54)) H hr
        · cases h0
      · cases h0
    · cases h0
  | none =>
  rw [hc] at hr
  dsimp only at hr
  cases ho : (z_ops.getD o z_no) sx d a b c k l st h with
  | none => rw [ho] at hr; cases hr
  | some w =>
  obtain ⟨k', l', st', h', x, y⟩ := w
  rw [ho] at hr
  dsimp only at hr
  obtain ⟨r1, r2, r3, r4⟩ := r
  obtain ⟨a9, b9, e1, e2, e3⟩ := z_mapadd hr
  cases hs0 : q_sp o with
  | succ n =>
    rw [q_sp_no (by rw [hs0]; exact Nat.succ_ne_zero n)] at ho
    cases ho
  | zero =>
  rw [hs0] at H
  obtain ⟨K1, lo', hL', H'⟩ := qs_all o sx d a b c k l st h k' l' st' h' x y lo go hK hL ho H
  exact hgo _ _ _ _ H' m hm d l' h' (r1, r2, a9, b9) K1 hL' rfl e1
end ZFL
/-! CUT POINTS -/
abbrev zCp : Type := List (Nat × (zLf → List Value → zSg → Prop))
noncomputable def q_ct : zCp → Nat → Option (zLf → List Value → zSg → Prop)
  | [], _ => none
  | q :: r, k => bif Nat.beq q.1 k then some q.2 else q_ct r k
noncomputable def zwp (sx : zX) (sps : List (Nat × Nat × zPp)) (hs : List zHd) (cs : List zI) (Ψ : zO → zSg → Prop) (ct : zCp) : Nat → zKo
  | 0 => fun _ _ _ _ => False
  | n + 1 => zstp sx sps hs cs Ψ (fun k lo st σ => match q_ct ct k with
    | some I => I lo st σ
    | none => zwp sx sps hs cs Ψ ct n k lo st σ)
theorem q_ct_ok {k : Nat} {I : zLf → List Value → zSg → Prop} : ∀ {ct : zCp}, q_ct ct k = some I → (k, I) ∈ ct
  | q :: r, h => by
    unfold q_ct at h
    cases hb : Nat.beq q.1 k with
    | true =>
      rw [hb] at h
      have h1 : q.2 = I := by simpa using h
      have h2 := Nat.eq_of_beq_eq_true hb
      rw [← h1, ← h2]
      exact List.mem_cons_self
    | false =>
      rw [hb] at h
      exact List.mem_cons_of_mem _ (q_ct_ok h)
theorem zMt.mono {sx : zX} {m m' j n : Nat} {P : zPp} (H : zMt sx m j n P) (h : m' ≤ m) : zMt sx m' j n P := fun m1 h1 => H m1 (Nat.le_trans h1 h)
theorem zwp_ok {sx : zX} {sps : List (Nat × Nat × zPp)} {hs : List zHd} {cs : List zI} {M : zMi} {Ψ : zO → zSg → Prop} {ct : zCp} {m0 j : Nat} (J : zJ3 j M cs hs) (hsp : ∀ q ∈ sps, zMt sx m0 q.1 q.2.1 q.2.2) (hct : ∀ q ∈ ct, ∀ lo st σ, q.2 lo st σ → ∃ n, zwp sx sps hs cs Ψ ct n q.1 lo st σ) : ∀ m1, m1 ≤ m0 + 1 → ∀ (n k : Nat) (lo : zLf) (st : List Value) (σ : zSg), zwp sx sps hs cs Ψ ct n k lo st σ → zRu sx m1 j k lo st σ Ψ
  | 0, _, n, k, lo, st, σ, _ => by
    intro m hm d l h r hK hL hA hr
    rw [show m = 0 by omega, z_run] at hr
    cases hr
  | m1 + 1, h1, 0, k, lo, st, σ, H => False.elim H
  | m1 + 1, h1, n + 1, k, lo, st, σ, H => by
    refine zstp_ok J (fun q hq => (hsp q hq).mono (by omega)) H (fun k' lo' st' σ' h' => ?_)
    cases hc : q_ct ct k' with
    | some I =>
      rw [hc] at h'
      obtain ⟨n9, h9⟩ := hct _ (q_ct_ok hc) lo' st' σ' h'
      exact zwp_ok J hsp hct m1 (by omega) n9 k' lo' st' σ' h9
    | none =>
      rw [hc] at h'
      exact zwp_ok J hsp hct m1 (by omega) n k' lo' st' σ' h'
/-! the same run, quicker: what is left of the code is carried along, the transformers stand in a tree -/
noncomputable def qtF (o : Nat) : zTr := cond (Nat.ble o 71) (cond (Nat.ble o 35) (cond (Nat.ble o 17) (cond (Nat.ble o 8) (cond (Nat.ble o 3) (cond (Nat.ble o 1) (cond (Nat.ble o 0) (qt_const) (qt_iload)) (cond (Nat.ble o 2) (qt_aload) (qt_lload))) (cond (Nat.ble o 5) (cond (Nat.ble o 4) (qt_istore) (qt_astore)) (cond (Nat.ble o 6) (qt_lstore) (cond (Nat.ble o 7) (qt_iinc) ((q_p2 (fun x y => .int ((fun x y : Int32 => x + y) (q_i x) (q_i y))))))))) (cond (Nat.ble o 12) (cond (Nat.ble o 10) (cond (Nat.ble o 9) ((q_p2 (fun x y => .int ((fun x y : Int32 => x - y) (q_i x) (q_i y))))) ((q_p2 (fun x y => .int ((fun x y : Int32 => x * y) (q_i x) (q_i y)))))) (cond (Nat.ble o 11) ((q_p2 (fun x y => .int ((fun x y : Int32 => x / y) (q_i x) (q_i y))))) ((q_p2 (fun x y => .int ((fun x y : Int32 => x - x / y * y) (q_i x) (q_i y))))))) (cond (Nat.ble o 14) (cond (Nat.ble o 13) ((q_p2 (fun x y => .int ((fun x y : Int32 => x <<< (y &&& 31)) (q_i x) (q_i y))))) ((q_p2 (fun x y => .int ((fun x y : Int32 => x >>> (y &&& 31)) (q_i x) (q_i y)))))) (cond (Nat.ble o 15) ((q_p2 (fun x y => .int ((fun x y : Int32 => (x.toUInt32 >>> (y.toUInt32 &&& Int32.toUInt32 31)).toInt32) (q_i x) (q_i y))))) (cond (Nat.ble o 16) ((q_p2 (fun x y => .int ((fun x y : Int32 => x &&& y) (q_i x) (q_i y))))) ((q_p2 (fun x y => .int ((fun x y : Int32 => x ||| y) (q_i x) (q_i y)))))))))) (cond (Nat.ble o 26) (cond (Nat.ble o 21) (cond (Nat.ble o 19) (cond (Nat.ble o 18) ((q_p2 (fun x y => .int ((fun x y : Int32 => x ^^^ y) (q_i x) (q_i y))))) ((q_p1 (fun x => .long (q_i x).toInt64)))) (cond (Nat.ble o 20) ((q_p1 (fun x => .int (q_l x).toInt32))) ((q_p1 (fun x => .int (q_i x).toInt8.toInt32))))) (cond (Nat.ble o 23) (cond (Nat.ble o 22) ((q_p2 (fun x y => .long ((fun x y : Int64 => x + y) (q_l x) (q_l y))))) ((q_p2 (fun x y => .long ((fun x y : Int64 => x * y) (q_l x) (q_l y)))))) (cond (Nat.ble o 24) ((q_p2 (fun x y => .long ((fun x y : Int64 => x / y) (q_l x) (q_l y))))) (cond (Nat.ble o 25) (qt_lconst) ((q_p2 (fun x y => .int (lg_cmp (q_l x) (q_l y))))))))) (cond (Nat.ble o 30) (cond (Nat.ble o 28) (cond (Nat.ble o 27) (qt_dup) (qt_dup2)) (cond (Nat.ble o 29) (qt_pop) (qt_goto))) (cond (Nat.ble o 32) (cond (Nat.ble o 31) (qt_if) (qt_icmp)) (cond (Nat.ble o 33) (qt_ifnn) (cond (Nat.ble o 34) (qt_lald) (qt_tsw))))))) (cond (Nat.ble o 53) (cond (Nat.ble o 44) (cond (Nat.ble o 39) (cond (Nat.ble o 37) (cond (Nat.ble o 36) (qt_lsw2) (qt_get)) (cond (Nat.ble o 38) (qt_put) (qt_iald))) (cond (Nat.ble o 41) (cond (Nat.ble o 40) (qt_iast) (qt_iald)) (cond (Nat.ble o 42) (qt_bast) (cond (Nat.ble o 43) (qt_last) (qt_aald))))) (cond (Nat.ble o 48) (cond (Nat.ble o 46) (cond (Nat.ble o 45) (qt_no) (qt_alen)) (cond (Nat.ble o 47) (qt_newa) (qt_no))) (cond (Nat.ble o 50) (cond (Nat.ble o 49) (qt_new) (qt_no)) (cond (Nat.ble o 51) (qt_no) (cond (Nat.ble o 52) (qt_no) (qt_no)))))) (cond (Nat.ble o 62) (cond (Nat.ble o 57) (cond (Nat.ble o 55) (cond (Nat.ble o 54) (qt_no) (qt_no)) (cond (Nat.ble o 56) (qt_no) (qt_oinit))) (cond (Nat.ble o 59) (cond (Nat.ble o 58) (qt_ldcs) (qt_slength)) (cond (Nat.ble o 60) (qt_scharAt) (cond (Nat.ble o 61) (qt_acopy) (qt_no))))) (cond (Nat.ble o 66) (cond (Nat.ble o 64) (cond (Nat.ble o 63) (qt_null) (qt_no)) (cond (Nat.ble o 65) (qt_sald) (qt_slen))) (cond (Nat.ble o 68) (cond (Nat.ble o 67) (qt_min) (qt_max)) (cond (Nat.ble o 69) (qt_no) (cond (Nat.ble o 70) (qt_clone) (qt_cast)))))))) qt_no
theorem qtF_eq : ∀ o, qtF o = qts.getD o qt_no
  | 0 => rfl
  | 1 => rfl
  | 2 => rfl
  | 3 => rfl
  | 4 => rfl
  | 5 => rfl
  | 6 => rfl
  | 7 => rfl
  | 8 => rfl
  | 9 => rfl
  | 10 => rfl
  | 11 => rfl
  | 12 => rfl
  | 13 => rfl
  | 14 => rfl
  | 15 => rfl
  | 16 => rfl
  | 17 => rfl
  | 18 => rfl
  | 19 => rfl
  | 20 => rfl
  | 21 => rfl
  | 22 => rfl
  | 23 => rfl
  | 24 => rfl
  | 25 => rfl
  | 26 => rfl
  | 27 => rfl
  | 28 => rfl
  | 29 => rfl
  | 30 => rfl
  | 31 => rfl
  | 32 => rfl
  | 33 => rfl
  | 34 => rfl
  | 35 => rfl
  | 36 => rfl
  | 37 => rfl
  | 38 => rfl
  | 39 => rfl
  | 40 => rfl
  | 41 => rfl
  | 42 => rfl
  | 43 => rfl
  | 44 => rfl
  | 45 => rfl
  | 46 => rfl
  | 47 => rfl
  | 48 => rfl
  | 49 => rfl
  | 50 => rfl
  | 51 => rfl
  | 52 => rfl
  | 53 => rfl
  | 54 => rfl
  | 55 => rfl
  | 56 => rfl
  | 57 => rfl
  | 58 => rfl
  | 59 => rfl
  | 60 => rfl
  | 61 => rfl
  | 62 => rfl
  | 63 => rfl
  | 64 => rfl
  | 65 => rfl
  | 66 => rfl
  | 67 => rfl
  | 68 => rfl
  | 69 => rfl
  | 70 => rfl
  | 71 => rfl
  | _ + 72 => rfl
theorem q_sp_lo {o : Nat} (h : o ≤ 49) : q_sp o = 0 := by
  unfold q_sp
  split <;> first | rfl | omega
noncomputable def zsd (sx : zX) (sps : List (Nat × Nat × zPp)) (hs : List zHd) (Ψ : zO → zSg → Prop) (go : zKo) (o a b : Nat) (c : Int) (k : Nat) (lo : zLf) (st : List Value) (σ : zSg) : Prop := cond (Nat.ble o 49) (qtF o sx a b c k lo st σ go) (match q_sp o with
    | 0 => (qts.getD o qt_no) sx a b c k lo st σ go
    | 1 => Ψ (.inl (some (.int (q_i (q_hd st))))) σ
    | 2 => Ψ (.inl (some (.long (q_l (q_hd st))))) σ
    | 3 => Ψ (.inl (some (.ref (q_r (q_hd st))))) σ
    | 4 => Ψ (.inl none) σ
    | 5 => Ψ (.inr a) σ
    | 6 => (match st.drop b with
      | w :: rest => q_cl sps hs Ψ go a k lo (.ref (q_r w) :: (st.take b).reverse) rest σ true
      | [] => True)
    | 7 => q_cl sps hs Ψ go a k lo (st.take b).reverse (st.drop b) σ false
    | _ => (match st.drop b with
      | w :: rest => q_cl sps hs Ψ go a k lo (.ref (q_r w) :: (st.take b).reverse) rest σ false
      | [] => True))
theorem zsd_eq {sx : zX} {sps : List (Nat × Nat × zPp)} {hs : List zHd} {cs : List zI} {Ψ : zO → zSg → Prop} {go : zKo} {o a b : Nat} {c : Int} {k : Nat} {lo : zLf} {st : List Value} {σ : zSg} {t : List zI} (h : cs.drop k = (o, a, b, c) :: t) : zsd sx sps hs Ψ go o a b c k lo st σ = zstp sx sps hs cs Ψ go k lo st σ := by
  have e : cs[k]? = some (o, a, b, c) := by
    have e1 : (cs.drop k)[0]? = cs[k + 0]? := List.getElem?_drop
    rw [h, Nat.add_zero] at e1
    exact e1.symm
  unfold zsd zstp
  rw [e]
  dsimp only
  cases hb : Nat.ble o 49 with
  | false => rfl
  | true =>
    rw [qtF_eq, q_sp_lo (Nat.le_of_ble_eq_true hb)]
    rfl
noncomputable def zwS (sx : zX) (sps : List (Nat × Nat × zPp)) (hs : List zHd) (cs : List zI) (Ψ : zO → zSg → Prop) (ct : zCp) : Nat → List zI → zKo
  | 0 => fun _ _ _ _ _ => False
  | n + 1 => fun suf k lo st σ => match suf with
    | [] => True
    | (o, a, b, c) :: t => zsd sx sps hs Ψ (fun k' lo' st' σ' => match q_ct ct k' with
      | some I => I lo' st' σ'
      | none => zwS sx sps hs cs Ψ ct n (cond (Nat.beq k' (k + 1)) t (cs.drop k')) k' lo' st' σ') o a b c k lo st σ
theorem zwS_eq {sx : zX} {sps : List (Nat × Nat × zPp)} {hs : List zHd} {cs : List zI} {Ψ : zO → zSg → Prop} {ct : zCp} : ∀ (n k : Nat) (lo : zLf) (st : List Value) (σ : zSg), zwS sx sps hs cs Ψ ct n (cs.drop k) k lo st σ = zwp sx sps hs cs Ψ ct n k lo st σ
  | 0, _, _, _, _ => rfl
  | n + 1, k, lo, st, σ => by
    rw [zwS, zwp]
    cases hd : cs.drop k with
    | nil =>
      have e : cs[k]? = none := by
        have e1 : (cs.drop k)[0]? = cs[k + 0]? := List.getElem?_drop
        rw [hd, Nat.add_zero] at e1
        exact e1.symm
      show True = zstp sx sps hs cs Ψ _ k lo st σ
      unfold zstp
      rw [e]
    | cons i t =>
      obtain ⟨o, a, b, c⟩ := i
      have hg : (fun (k' : Nat) (lo' : zLf) (st' : List Value) (σ' : zSg) => (match q_ct ct k' with
        | some I => I lo' st' σ'
        | none => zwS sx sps hs cs Ψ ct n (cond (Nat.beq k' (k + 1)) t (cs.drop k')) k' lo' st' σ' : Prop)) = (fun (k' : Nat) (lo' : zLf) (st' : List Value) (σ' : zSg) => (match q_ct ct k' with
        | some I => I lo' st' σ'
        | none => zwp sx sps hs cs Ψ ct n k' lo' st' σ' : Prop)) := by
        funext k' lo' st' σ'
        cases hc : q_ct ct k' with
        | some I => rfl
        | none =>
          have e : cond (Nat.beq k' (k + 1)) t (cs.drop k') = cs.drop k' := by
            cases hb : Nat.beq k' (k + 1) with
            | false => rfl
            | true =>
              rw [Nat.eq_of_beq_eq_true hb]
              show t = cs.drop (k + 1)
              rw [← List.tail_drop, hd]
              rfl
          show zwS sx sps hs cs Ψ ct n (cond (Nat.beq k' (k + 1)) t (cs.drop k')) k' lo' st' σ' = zwp sx sps hs cs Ψ ct n k' lo' st' σ'
          rw [e]
          exact zwS_eq n k' lo' st' σ'
      exact (zsd_eq hd).trans (congrArg (fun g => zstp sx sps hs cs Ψ g k lo st σ) hg)
theorem zflo {sx : zX} {sps : List (Nat × Nat × zPp)} {hs : List zHd} {cs : List zI} {M : zMi} {m0 j n : Nat} {P : zPp} (J : zJ3 j M cs hs) (hsp : ∀ q ∈ sps, zMt sx m0 q.1 q.2.1 q.2.2) (H : ∀ (as : List Value) (σ : zSg), as.length = n → ∃ (ct : zCp) (N : Nat), (∀ q ∈ ct, ∀ lo st σ', q.2 lo st σ' → ∃ n, zwp sx sps hs cs (P as σ) ct n q.1 lo st σ') ∧ zwp sx sps hs cs (P as σ) ct N 0 (fun i => as.getD i .null) [] σ) : zMt sx (m0 + 1) j n P := by
  intro m hm d h as r hK hn hc hr
  obtain ⟨ct, N, h1, h2⟩ := H as (za h) hn
  exact zwp_ok J hsp h1 (m0 + 1) (Nat.le_refl _) N 0 _ [] (za h) h2 m hm d _ h r hK (zLr.args as 0 _ (q_c1_ok hc) (fun i => by rw [Nat.zero_add])) rfl hr
theorem zfl {sx : zX} {sps : List (Nat × Nat × zPp)} {hs : List zHd} {cs : List zI} {M : zMi} {m0 j n : Nat} {P : zPp} (J : zJ3 j M cs hs) (hsp : ∀ q ∈ sps, zMt sx m0 q.1 q.2.1 q.2.2) (H : ∀ (as : List Value) (σ : zSg), as.length = n → ∃ (ct : zCp) (N : Nat), (∀ q ∈ ct, ∀ lo st σ', q.2 lo st σ' → ∃ n, zwS sx sps hs cs (P as σ) ct n (cs.drop q.1) q.1 lo st σ') ∧ zwS sx sps hs cs (P as σ) ct N cs 0 (fun i => as.getD i .null) [] σ) : zMt sx (m0 + 1) j n P := by
  refine zflo J hsp (fun as σ hn => ?_)
  obtain ⟨ct, N, h1, h2⟩ := H as σ hn
  refine ⟨ct, N, fun q hq lo st σ' hh => ?_, ?_⟩
  · obtain ⟨n9, h9⟩ := h1 q hq lo st σ' hh
    exact ⟨n9, (zwS_eq n9 q.1 lo st σ') ▸ h9⟩
  · have e := zwS_eq (sx := sx) (sps := sps) (hs := hs) (cs := cs) (Ψ := P as σ) (ct := ct) N 0 (fun i => as.getD i .null) [] σ
    exact e ▸ h2
theorem zMt0 {sx : zX} {j n : Nat} {P : zPp} : zMt sx 0 j n P := by
  intro m hm d h as r hK hn hc hr
  rw [show m = 0 by omega, z_run] at hr
  cases hr
noncomputable def zEe (sx : zX) (j n : Nat) (P : zPp) : Prop := ∀ m, zMt sx m j n P
theorem zfle {sx : zX} {sps : List (Nat × Nat × zPp)} {hs : List zHd} {cs : List zI} {M : zMi} {j n : Nat} {P : zPp} (J : zJ3 j M cs hs) (hsp : ∀ q ∈ sps, zEe sx q.1 q.2.1 q.2.2) (H : ∀ (as : List Value) (σ : zSg), as.length = n → ∃ (ct : zCp) (N : Nat), (∀ q ∈ ct, ∀ lo st σ', q.2 lo st σ' → ∃ n, zwS sx sps hs cs (P as σ) ct n (cs.drop q.1) q.1 lo st σ') ∧ zwS sx sps hs cs (P as σ) ct N cs 0 (fun i => as.getD i .null) [] σ) : zEe sx j n P := fun m => (zfl J (fun q hq => hsp q hq m) H).mono (Nat.le_succ m)
/-- what is proved of every end holds of the end that is proved -/
theorem zEe.ok {sx : zX} {d j n : Nat} {as : List Value} {h : zH} {Φ : zO → zH → Nat → Nat → Prop} {P : zPp} (H : zEe sx j n P) (hK : zKh h) (hn : as.length = n) (hc : q_c1 as = true) (R : z_ok sx d j 0 (lv_args 0 as) [] h Φ) : z_ok sx d j 0 (lv_args 0 as) [] h (fun o h' x y => Φ o h' x y ∧ zKh h' ∧ P as (za h) o (za h')) := by
  obtain ⟨m, o, h', x, y, e, q⟩ := R
  obtain ⟨K1, P1⟩ := H m m (Nat.le_refl _) d h as _ hK hn hc e
  exact ⟨m, o, h', x, y, e, q, K1, P1⟩
end
section
/-! the reference's reader, exact; printed with wip/gen/gen_t1.py -/
theorem cm0t {x y : Int32} (h : z_cmp 0 x y = true) : x.toInt = y.toInt := zcmp_eq.mp h
theorem cm0f {x y : Int32} (h : z_cmp 0 x y = false) : x.toInt ≠ y.toInt := fun e => by rw [zcmp_eq.mpr e] at h; cases h
theorem cm1t {x y : Int32} (h : z_cmp 1 x y = true) : x.toInt ≠ y.toInt := zcmp_ne.mp h
theorem cm1f {x y : Int32} (h : z_cmp 1 x y = false) : x.toInt = y.toInt := Decidable.byContradiction fun e => by rw [zcmp_ne.mpr e] at h; cases h
theorem cm2t {x y : Int32} (h : z_cmp 2 x y = true) : x.toInt < y.toInt := zcmp_lt.mp h
theorem cm2f {x y : Int32} (h : z_cmp 2 x y = false) : x.toInt ≥ y.toInt := Int.not_lt.mp fun e => by rw [zcmp_lt.mpr e] at h; cases h
theorem cm3t {x y : Int32} (h : z_cmp 3 x y = true) : x.toInt ≥ y.toInt := zcmp_ge.mp h
theorem cm3f {x y : Int32} (h : z_cmp 3 x y = false) : x.toInt < y.toInt := Int.not_le.mp fun e => by rw [zcmp_ge.mpr e] at h; cases h
theorem cm4t {x y : Int32} (h : z_cmp 4 x y = true) : x.toInt > y.toInt := cm2t (x := y) (y := x) h
theorem cm4f {x y : Int32} (h : z_cmp 4 x y = false) : x.toInt ≤ y.toInt := cm2f (x := y) (y := x) h
theorem cm5t {x y : Int32} (h : z_cmp 5 x y = true) : x.toInt ≤ y.toInt := cm3t (x := y) (y := x) h
theorem cm5f {x y : Int32} (h : z_cmp 5 x y = false) : x.toInt > y.toInt := cm3f (x := y) (y := x) h
theorem q_inp {j : Int32} {n : Nat} (h : z_in j n = true) : 0 ≤ j.toInt ∧ j.toInt < (n : Int) := by
  have h1 := z_inp h
  unfold z_in at h
  rw [Bool.not_eq_true', Bool.or_eq_false_iff, decide_eq_false_iff_not, decide_eq_false_iff_not, Int32.lt_iff_toInt_lt] at h
  have e : j.toNatClampNeg = j.toInt.toNat := rfl
  have e0 : (0 : Int32).toInt = 0 := rfl
  omega
theorem q_ii (x : Int32) : q_i (.int x) = x := rfl
theorem q_w_at (σ : zSg) (c k : Nat) (v : Value) : (q_w σ c k v).1 c k = v := by
  show q_up σ.1 c k v c k = v
  unfold q_up
  rw [if_pos ⟨rfl, rfl⟩]
theorem q_w_ne {σ : zSg} {c k c' k' : Nat} {v : Value} (h : c' = c → k' = k → False) : (q_w σ c k v).1 c' k' = σ.1 c' k' := by
  show q_up σ.1 c k v c' k' = σ.1 c' k'
  unfold q_up
  rw [if_neg (fun q => h q.1 q.2)]
theorem q_w_2 (σ : zSg) (c k : Nat) (v : Value) : (q_w σ c k v).2 = σ.2 := rfl
theorem q_w_w {σ : zSg} {c k : Nat} {v w : Value} : q_w (q_w σ c k v) c k w = q_w σ c k w := by
  refine Prod.ext ?_ rfl
  funext c' k'
  show q_up (q_up σ.1 c k v) c k w c' k' = q_up σ.1 c k w c' k'
  unfold q_up
  by_cases h : c' = c ∧ k' = k
  · rw [if_pos h, if_pos h]
  · rw [if_neg h, if_neg h, if_neg h]
theorem q_w_cm {σ : zSg} {c k c' k' : Nat} {v w : Value} (h : c' = c → k' = k → False) : q_w (q_w σ c k v) c' k' w = q_w (q_w σ c' k' w) c k v := by
  refine Prod.ext ?_ rfl
  funext d e
  show q_up (q_up σ.1 c k v) c' k' w d e = q_up (q_up σ.1 c' k' w) c k v d e
  unfold q_up
  by_cases h1 : d = c' ∧ e = k'
  · rw [if_pos h1, if_neg (fun q => h (h1.1.symm.trans q.1) (h1.2.symm.trans q.2)), if_pos h1]
  · rw [if_neg h1, if_neg h1]
theorem q_w_id {σ : zSg} {c k : Nat} {v : Value} (h : σ.1 c k = v) : q_w σ c k v = σ := by
  refine Prod.ext ?_ rfl
  funext d e
  show q_up σ.1 c k v d e = σ.1 d e
  unfold q_up
  by_cases h1 : d = c ∧ e = k
  · rw [if_pos h1, h1.1, h1.2, h]
  · rw [if_neg h1]
/-- the reader of the reference: its point, begin -/
noncomputable def q_rs (σ : zSg) (a P Q : Nat) : zSg := q_w (q_w σ a 10 (.int (Int32.ofNat P))) a 12 (.int (Int32.ofNat Q))
noncomputable def rb (σ : zSg) (a k : Nat) : Int := (q_i (σ.1 (q_r (σ.1 a 8)) k)).toInt
noncomputable def rS (σ : zSg) (a P E : Nat) : Prop := q_r (σ.1 a 8) ≠ a ∧ σ.1 a 10 = .int (Int32.ofNat P) ∧ σ.1 a 11 = .int (Int32.ofNat E) ∧ P ≤ E ∧ E ≤ 400
theorem o32 {n : Nat} (h : n ≤ 1000) : (Int32.ofNat n).toInt = (n : Int) := zofNat h
theorem o32i {n : Nat} (h : n ≤ 900) : Int32.ofNat n + Int32.ofInt 1 = Int32.ofNat (n + 1) := by
  refine Int32.toInt_inj.mp ?_
  rw [zI_add (o32 (by omega)) (zI_c (by omega) (by omega)) (by omega) (by omega), o32 (by omega)]
  omega
theorem o32n {n : Nat} (h : n ≤ 1000) : (Int32.ofNat n).toNatClampNeg = n := znat (o32 h)
section RTK
variable {σ : zSg} {a P E Q : Nat} {v : Value}
theorem rb_w {k : Nat} (h : q_r (σ.1 a 8) ≠ a) (hk : k ≠ 8) : rb (q_w σ a k v) a = rb σ a := by
  funext i
  unfold rb
  rw [q_w_ne (c' := a) (k' := 8) (fun _ q => hk q.symm), q_w_ne (fun q _ => h q)]
theorem rS.pt (H : rS σ a P E) {K : Nat} (hK : K ≤ E) : rS (q_w σ a 10 (.int (Int32.ofNat K))) a K E := by
  obtain ⟨h1, h2, h3, h4, h5⟩ := H
  refine ⟨?_, q_w_at _ _ _ _, ?_, hK, h5⟩
  · rw [q_w_ne (fun _ q => by omega)]; exact h1
  · rw [q_w_ne (fun _ q => by omega)]; exact h3
theorem rS.bg (H : rS σ a P E) : rS (q_w σ a 12 v) a P E := by
  obtain ⟨h1, h2, h3, h4, h5⟩ := H
  refine ⟨?_, ?_, ?_, h4, h5⟩
  · rw [q_w_ne (fun _ q => by omega)]; exact h1
  · rw [q_w_ne (fun _ q => by omega)]; exact h2
  · rw [q_w_ne (fun _ q => by omega)]; exact h3
theorem rS.rs (H : rS σ a P E) {K Q : Nat} (hK : K ≤ E) : rS (q_rs σ a K Q) a K E := (H.pt hK).bg
theorem rb_rs {K : Nat} (H : rS σ a P E) : rb (q_rs σ a K Q) a = rb σ a := by
  unfold q_rs
  rw [rb_w (by rw [q_w_ne (fun _ q => by omega)]; exact H.1) (by omega), rb_w H.1 (by omega)]
theorem q_rs_pt {K L : Nat} : q_w (q_rs σ a K L) a 10 (.int (Int32.ofNat P)) = q_rs σ a P L := by
  unfold q_rs
  rw [q_w_cm (fun _ q => by omega), q_w_w]
theorem q_rs_12 {K : Nat} : (q_rs σ a K Q).1 a 12 = .int (Int32.ofNat Q) := q_w_at _ _ _ _
theorem q_rs_10 {K : Nat} : (q_rs σ a K Q).1 a 10 = .int (Int32.ofNat K) := by
  unfold q_rs
  rw [q_w_ne (fun _ q => by omega), q_w_at]
end RTK
/-! a tape as a text, and the grammar of a law's text as functions of places: b the byte at a place, E the text's length; a place stands behind blanks -/
noncomputable def zrn (b : Nat → Int) (E : Nat) (lo hi : Int) : Nat → Nat → Nat
  | 0, P => P
  | n + 1, P => if P < E ∧ lo ≤ b P ∧ b P ≤ hi then zrn b E lo hi n (P + 1) else P
/-- the first place from P on whose byte isn't between -/
noncomputable def zRn (b : Nat → Int) (E : Nat) (lo hi : Int) (P : Nat) : Nat := zrn b E lo hi (E - P) P
section ZPU
variable {b : Nat → Int} {E : Nat} {lo hi : Int} {P : Nat}
theorem zRn_t (h : P < E ∧ lo ≤ b P ∧ b P ≤ hi) : zRn b E lo hi P = zRn b E lo hi (P + 1) := by
  unfold zRn
  rw [show E - P = (E - (P + 1)) + 1 by omega, zrn, if_pos h]
theorem zRn_f (h : ¬ (P < E ∧ lo ≤ b P ∧ b P ≤ hi)) : zRn b E lo hi P = P := by
  unfold zRn
  cases hn : E - P with
  | zero => rfl
  | succ n => rw [zrn, if_neg h]
theorem zRn_all : ∀ (n P : Nat), E - P = n → P ≤ zRn b E lo hi P ∧ (∀ k, P ≤ k → k < zRn b E lo hi P → k < E ∧ lo ≤ b k ∧ b k ≤ hi) ∧ ¬ (zRn b E lo hi P < E ∧ lo ≤ b (zRn b E lo hi P) ∧ b (zRn b E lo hi P) ≤ hi)
  | n, P, hn => by
    by_cases h : P < E ∧ lo ≤ b P ∧ b P ≤ hi
    · rw [zRn_t h]
      match n, hn with
      | 0, hn => omega
      | n + 1, hn =>
      obtain ⟨i1, i2, i3⟩ := zRn_all n (P + 1) (by omega)
      refine ⟨by omega, fun k h1 h2 => ?_, i3⟩
      by_cases hk : k = P
      · rw [hk]; exact h
      · exact i2 k (by omega) h2
    · rw [zRn_f h]
      exact ⟨Nat.le_refl _, fun k h1 h2 => absurd h1 (by omega), h⟩
theorem zRn_ge : P ≤ zRn b E lo hi P := (zRn_all _ P rfl).1
theorem zRn_in {k : Nat} (h1 : P ≤ k) (h2 : k < zRn b E lo hi P) : k < E ∧ lo ≤ b k ∧ b k ≤ hi := (zRn_all _ P rfl).2.1 k h1 h2
theorem zRn_end : ¬ (zRn b E lo hi P < E ∧ lo ≤ b (zRn b E lo hi P) ∧ b (zRn b E lo hi P) ≤ hi) := (zRn_all _ P rfl).2.2
theorem zRn_le (h : P ≤ E) : zRn b E lo hi P ≤ E := by
  by_cases hq : zRn b E lo hi P ≤ E
  · exact hq
  · have := zRn_in (b := b) (E := E) (lo := lo) (hi := hi) (P := P) (k := E) h (by omega)
    omega
theorem zRn_uniq {K : Nat} (h1 : P ≤ K) (h2 : ∀ k, P ≤ k → k < K → k < E ∧ lo ≤ b k ∧ b k ≤ hi) (h3 : ¬ (K < E ∧ lo ≤ b K ∧ b K ≤ hi)) : zRn b E lo hi P = K := by
  have g1 := zRn_ge (b := b) (E := E) (lo := lo) (hi := hi) (P := P)
  by_cases q : zRn b E lo hi P = K
  · exact q
  · by_cases q2 : zRn b E lo hi P < K
    · exact absurd (h2 _ g1 q2) zRn_end
    · exact absurd (zRn_in (b := b) (E := E) (lo := lo) (hi := hi) h1 (by omega)) h3
end ZPU
noncomputable def zBl (b : Nat → Int) (E P : Nat) : Nat := zRn b E 32 32 P
noncomputable def zDv (b : Nat → Int) (A : Nat) : Nat → Int
  | 0 => 0
  | n + 1 => if n < 3 then 10 * zDv b A n + b (A + n) - 48 else zDv b A n
noncomputable def p_201 (a : Nat) (lo hi : Int32) (σ : zSg) (r : Int32) (σ' : zSg) : Prop := σ' = σ ∧ ∀ P E, rS σ a P E → r = if P < E ∧ lo.toInt ≤ rb σ a P ∧ rb σ a P ≤ hi.toInt then 1 else 0
theorem p_201.t {a : Nat} {lo hi r : Int32} {σ σ' : zSg} (H : p_201 a lo hi σ r σ') {P E : Nat} (S : rS σ a P E) (h : r.toInt ≠ 0) : P < E ∧ lo.toInt ≤ rb σ a P ∧ rb σ a P ≤ hi.toInt := by
  by_cases hc : P < E ∧ lo.toInt ≤ rb σ a P ∧ rb σ a P ≤ hi.toInt
  · exact hc
  · have := H.2 P E S
    rw [if_neg hc] at this
    rw [this] at h
    exact absurd rfl h
theorem p_201.f {a : Nat} {lo hi r : Int32} {σ σ' : zSg} (H : p_201 a lo hi σ r σ') {P E : Nat} (S : rS σ a P E) (h : r.toInt = 0) : ¬ (P < E ∧ lo.toInt ≤ rb σ a P ∧ rb σ a P ≤ hi.toInt) := by
  intro hc
  have := H.2 P E S
  rw [if_pos hc] at this
  rw [this] at h
  exact absurd h (by decide)
theorem sp_201_et (a0 : Nat) (a1 : Int32) (a2 : Int32) (σ : zSg) (h1 : (q_i (σ.1 a0 10)).toInt ≥ (q_i (σ.1 a0 11)).toInt) :
    p_201 (a0) (a1) (a2) σ (Int32.ofInt (0)) σ := by
  refine ⟨rfl, fun P E S => ?_⟩
  obtain ⟨s1, s2, s3, s4, s5⟩ := S
  have hb : rb σ a0 P = (q_i (σ.1 (q_r (σ.1 a0 8)) P)).toInt := rfl
  simp only [s2, s3, q_ii, o32n (show P ≤ 1000 by omega), o32 (show P ≤ 1000 by omega), o32 (show E ≤ 1000 by omega)] at *
  first
    | rw [if_pos (by omega)]; rfl
    | rw [if_neg (by omega)]; rfl
theorem sp_201_eft (a0 : Nat) (a1 : Int32) (a2 : Int32) (σ : zSg) (h1 : (q_i (σ.1 a0 10)).toInt < (q_i (σ.1 a0 11)).toInt) (h2 : 0 ≤ (q_i (σ.1 a0 10)).toInt ∧ (q_i (σ.1 a0 10)).toInt < (σ.2.1 (q_r (σ.1 a0 8)) : Int)) (h3 : (q_i (σ.1 (q_r (σ.1 a0 8)) (q_i (σ.1 a0 10)).toNatClampNeg)).toInt < a1.toInt) :
    p_201 (a0) (a1) (a2) σ (Int32.ofInt (0)) σ := by
  refine ⟨rfl, fun P E S => ?_⟩
  obtain ⟨s1, s2, s3, s4, s5⟩ := S
  have hb : rb σ a0 P = (q_i (σ.1 (q_r (σ.1 a0 8)) P)).toInt := rfl
  simp only [s2, s3, q_ii, o32n (show P ≤ 1000 by omega), o32 (show P ≤ 1000 by omega), o32 (show E ≤ 1000 by omega)] at *
  first
    | rw [if_pos (by omega)]; rfl
    | rw [if_neg (by omega)]; rfl
theorem sp_201_efft (a0 : Nat) (a1 : Int32) (a2 : Int32) (σ : zSg) (h1 : (q_i (σ.1 a0 10)).toInt < (q_i (σ.1 a0 11)).toInt) (h2 : 0 ≤ (q_i (σ.1 a0 10)).toInt ∧ (q_i (σ.1 a0 10)).toInt < (σ.2.1 (q_r (σ.1 a0 8)) : Int)) (h3 : (q_i (σ.1 (q_r (σ.1 a0 8)) (q_i (σ.1 a0 10)).toNatClampNeg)).toInt ≥ a1.toInt) (h4 : 0 ≤ (q_i (σ.1 a0 10)).toInt ∧ (q_i (σ.1 a0 10)).toInt < (σ.2.1 (q_r (σ.1 a0 8)) : Int)) (h5 : (q_i (σ.1 (q_r (σ.1 a0 8)) (q_i (σ.1 a0 10)).toNatClampNeg)).toInt > a2.toInt) :
    p_201 (a0) (a1) (a2) σ (Int32.ofInt (0)) σ := by
  refine ⟨rfl, fun P E S => ?_⟩
  obtain ⟨s1, s2, s3, s4, s5⟩ := S
  have hb : rb σ a0 P = (q_i (σ.1 (q_r (σ.1 a0 8)) P)).toInt := rfl
  simp only [s2, s3, q_ii, o32n (show P ≤ 1000 by omega), o32 (show P ≤ 1000 by omega), o32 (show E ≤ 1000 by omega)] at *
  first
    | rw [if_pos (by omega)]; rfl
    | rw [if_neg (by omega)]; rfl
theorem sp_201_efff (a0 : Nat) (a1 : Int32) (a2 : Int32) (σ : zSg) (h1 : (q_i (σ.1 a0 10)).toInt < (q_i (σ.1 a0 11)).toInt) (h2 : 0 ≤ (q_i (σ.1 a0 10)).toInt ∧ (q_i (σ.1 a0 10)).toInt < (σ.2.1 (q_r (σ.1 a0 8)) : Int)) (h3 : (q_i (σ.1 (q_r (σ.1 a0 8)) (q_i (σ.1 a0 10)).toNatClampNeg)).toInt ≥ a1.toInt) (h4 : 0 ≤ (q_i (σ.1 a0 10)).toInt ∧ (q_i (σ.1 a0 10)).toInt < (σ.2.1 (q_r (σ.1 a0 8)) : Int)) (h5 : (q_i (σ.1 (q_r (σ.1 a0 8)) (q_i (σ.1 a0 10)).toNatClampNeg)).toInt ≤ a2.toInt) :
    p_201 (a0) (a1) (a2) σ (Int32.ofInt (1)) σ := by
  refine ⟨rfl, fun P E S => ?_⟩
  obtain ⟨s1, s2, s3, s4, s5⟩ := S
  have hb : rb σ a0 P = (q_i (σ.1 (q_r (σ.1 a0 8)) P)).toInt := rfl
  simp only [s2, s3, q_ii, o32n (show P ≤ 1000 by omega), o32 (show P ≤ 1000 by omega), o32 (show E ≤ 1000 by omega)] at *
  first
    | rw [if_pos (by omega)]; rfl
    | rw [if_neg (by omega)]; rfl
noncomputable def qP_201 : zPp := fun as σ o σ' => match as with
  | [a0, a1, a2] => ∃ r, o = .inl (some (.int r)) ∧ p_201 (q_r a0) (q_i a1) (q_i a2) σ r σ'
  | _ => True
set_option maxRecDepth 100000 in
theorem sp_201 {sx : zX}  : zEe sx 201 3 qP_201 := by
  refine zfle zJ_201 (sps := []) (fun q hq => absurd hq List.not_mem_nil) (fun as σ hl => ?_)
  match as, hl with
  | [a0, a1, a2], _ =>
  refine ⟨[], 400, ?_, ?_⟩
  · exact fun q hq => absurd hq List.not_mem_nil
  · refine And.intro (fun h1 => ?_) (fun h1 => ?_)
    · exact ⟨_, rfl, sp_201_et (q_r a0) (q_i a1) (q_i a2) σ (cm3t h1)⟩
    · refine fun h2 => ?_
      refine And.intro (fun h3 => ?_) (fun h3 => ?_)
      · exact ⟨_, rfl, sp_201_eft (q_r a0) (q_i a1) (q_i a2) σ (cm3f h1) (q_inp h2) (cm2t h3)⟩
      · refine fun h4 => ?_
        refine And.intro (fun h5 => ?_) (fun h5 => ?_)
        · exact ⟨_, rfl, sp_201_efft (q_r a0) (q_i a1) (q_i a2) σ (cm3f h1) (q_inp h2) (cm2f h3) (q_inp h4) (cm4t h5)⟩
        · exact ⟨_, rfl, sp_201_efff (q_r a0) (q_i a1) (q_i a2) σ (cm3f h1) (q_inp h2) (cm2f h3) (q_inp h4) (cm4f h5)⟩
noncomputable def p_202 (a : Nat) (σ σ' : zSg) : Prop := ∀ P E, rS σ a P E → σ' = q_rs σ a (zBl (rb σ a) E P) (zBl (rb σ a) E P)
noncomputable def i_202 (a : Nat) (σ : zSg) (l : Nat) (τ : zSg) : Prop := l = a ∧ ∀ P E, rS σ a P E → ∃ K, K ≤ E ∧ zBl (rb σ a) E P = zBl (rb σ a) E K ∧ τ = q_w σ a 10 (.int (Int32.ofNat K))
theorem zBl_t {b : Nat → Int} {E P : Nat} (h : P < E ∧ 32 ≤ b P ∧ b P ≤ 32) : zBl b E P = zBl b E (P + 1) := zRn_t h
theorem zBl_f {b : Nat → Int} {E P : Nat} (h : ¬ (P < E ∧ 32 ≤ b P ∧ b P ≤ 32)) : zBl b E P = P := zRn_f h
theorem zBl_le {b : Nat → Int} {E P : Nat} (h : P ≤ E) : zBl b E P ≤ E := zRn_le h
theorem zBl_ge {b : Nat → Int} {E P : Nat} : P ≤ zBl b E P := zRn_ge
theorem zBl_bl {b : Nat → Int} {E P : Nat} : zBl b E (zBl b E P) = zBl b E P := zBl_f zRn_end
theorem sp_202_et (a0 : Nat) (σ : zSg) (τ1 : zSg) (r1 : Int32) (g1 : p_201 a0 (Int32.ofInt (32)) (Int32.ofInt (32)) σ r1 τ1) (h2 : r1.toInt = (0 : Int)) :
    p_202 (a0) σ (q_w τ1 a0 12 (.int (q_i (τ1.1 a0 10)))) := by
  intro P E S
  obtain rfl := g1.1.symm
  have hc := g1.f S h2
  rw [zBl_f hc]
  show q_w σ a0 12 (.int (q_i (σ.1 a0 10))) = _
  unfold q_rs
  rw [q_w_id S.2.1, S.2.1]
  rfl
theorem sp_202_ef (a0 : Nat) (σ : zSg) (τ1 : zSg) (r1 : Int32) (g1 : p_201 a0 (Int32.ofInt (32)) (Int32.ofInt (32)) σ r1 τ1) (h2 : r1.toInt ≠ (0 : Int)) :
    i_202 a0 σ a0 (q_w τ1 a0 10 (.int ((q_i (τ1.1 a0 10)) + (Int32.ofInt (1))))) := by
  refine ⟨rfl, fun P E S => ?_⟩
  obtain rfl := g1.1.symm
  have hc := g1.t S h2
  refine ⟨P + 1, by omega, zBl_t hc, ?_⟩
  have h9 : P ≤ 400 := by have := S.2.2.2; omega
  show q_w σ a0 10 (.int (q_i (σ.1 a0 10) + _)) = _
  rw [S.2.1, ← o32i (by omega)]
  rfl
theorem sp_202_c0_t (a0 : Nat) (σ : zSg) (l0 : Nat) (τ : zSg) (τ3 : zSg) (r3 : Int32) (hI : i_202 a0 σ l0 τ) (g3 : p_201 l0 (Int32.ofInt (32)) (Int32.ofInt (32)) τ r3 τ3) (h4 : r3.toInt = (0 : Int)) :
    p_202 (a0) σ (q_w τ3 l0 12 (.int (q_i (τ3.1 l0 10)))) := by
  obtain ⟨rfl, G⟩ := hI
  intro P E S
  obtain ⟨K, k1, k2, rfl⟩ := G P E S
  have S1 := S.pt k1
  have hb := rb_w (v := .int (Int32.ofNat K)) S.1 (show 10 ≠ 8 by omega)
  obtain rfl := g3.1.symm
  have hc := g3.f S1 h4
  rw [hb] at hc
  rw [k2, zBl_f hc]
  show q_w (q_w σ l0 10 (.int (Int32.ofNat K))) l0 12 (.int (q_i ((q_w σ l0 10 (.int (Int32.ofNat K))).1 l0 10))) = _
  rw [q_w_at]
  rfl
theorem sp_202_c0_f (a0 : Nat) (σ : zSg) (l0 : Nat) (τ : zSg) (τ3 : zSg) (r3 : Int32) (hI : i_202 a0 σ l0 τ) (g3 : p_201 l0 (Int32.ofInt (32)) (Int32.ofInt (32)) τ r3 τ3) (h4 : r3.toInt ≠ (0 : Int)) :
    i_202 a0 σ l0 (q_w τ3 l0 10 (.int ((q_i (τ3.1 l0 10)) + (Int32.ofInt (1))))) := by
  obtain ⟨rfl, G⟩ := hI
  refine ⟨rfl, fun P E S => ?_⟩
  obtain ⟨K, k1, k2, rfl⟩ := G P E S
  have S1 := S.pt k1
  have hb := rb_w (v := .int (Int32.ofNat K)) S.1 (show 10 ≠ 8 by omega)
  obtain rfl := g3.1.symm
  have hc := g3.t S1 h4
  rw [hb] at hc
  refine ⟨K + 1, by omega, k2.trans (zBl_t hc), ?_⟩
  have h9 : E ≤ 400 := by have := S.2.2.2; omega
  show q_w (q_w σ l0 10 (.int (Int32.ofNat K))) l0 10 (.int (q_i ((q_w σ l0 10 (.int (Int32.ofNat K))).1 l0 10) + _)) = _
  rw [q_w_at, q_w_w, ← o32i (by omega)]
  rfl
noncomputable def qP_202 : zPp := fun as σ o σ' => match as with
  | [a0] => o = .inl none ∧ p_202 (q_r a0) σ σ'
  | _ => True
set_option maxRecDepth 100000 in
theorem sp_202 {sx : zX} (S201 : zEe sx 201 3 qP_201) : zEe sx 202 1 qP_202 := by
  refine zfle zJ_202 (sps := [(201, 3, qP_201)]) (fun q hq => by
    simp only [List.mem_cons, List.not_mem_nil, or_false] at hq
    rcases hq with rfl
    · exact S201) (fun as σ hl => ?_)
  match as, hl with
  | [a0], _ =>
  refine ⟨[(0, fun lo st τ => st = [] ∧ i_202 (q_r a0) σ (q_r (lo 0)) τ)], 400, ?_, ?_⟩
  · intro q hq
    simp only [List.mem_cons, List.not_mem_nil, or_false] at hq
    rcases hq with rfl
    · rintro lo st τ ⟨rfl, hI⟩
      refine ⟨400, ?_⟩
      refine fun o3 τ3 g3 => ?_
      obtain ⟨r3, rfl, g3⟩ := g3
      refine And.intro (fun h4 => ?_) (fun h4 => ?_)
      · exact ⟨rfl, sp_202_c0_t (q_r a0) σ (q_r (lo 0)) τ τ3 r3 hI g3 (cm0t h4)⟩
      · exact ⟨rfl, sp_202_c0_f (q_r a0) σ (q_r (lo 0)) τ τ3 r3 hI g3 (cm0f h4)⟩
  · refine fun o1 τ1 g1 => ?_
    obtain ⟨r1, rfl, g1⟩ := g1
    refine And.intro (fun h2 => ?_) (fun h2 => ?_)
    · exact ⟨rfl, sp_202_et (q_r a0) σ τ1 r1 g1 (cm0t h2)⟩
    · exact ⟨rfl, sp_202_ef (q_r a0) σ τ1 r1 g1 (cm0f h2)⟩
noncomputable def p_203 (a : Nat) (σ σ' : zSg) : Prop := ∀ P E, rS σ a P E → σ' = q_rs σ a (zRn (rb σ a) E 97 122 (zBl (rb σ a) E P)) (zBl (rb σ a) E P)
noncomputable def i_203 (a : Nat) (σ : zSg) (l : Nat) (τ : zSg) : Prop := l = a ∧ ∀ P E, rS σ a P E → ∃ K, K ≤ E ∧ zRn (rb σ a) E 97 122 (zBl (rb σ a) E P) = zRn (rb σ a) E 97 122 K ∧ τ = q_rs σ a K (zBl (rb σ a) E P)
theorem sp_203_e (a0 : Nat) (σ : zSg) (τ1 : zSg) (g1 : p_202 a0 σ τ1) :
    i_203 a0 σ a0 τ1 := by
  refine ⟨rfl, fun P E S => ?_⟩
  exact ⟨zBl (rb σ a0) E P, zBl_le S.2.2.2.1, rfl, g1 P E S⟩
theorem sp_203_c2_t (a0 : Nat) (σ : zSg) (l0 : Nat) (τ : zSg) (τ2 : zSg) (r2 : Int32) (hI : i_203 a0 σ l0 τ) (g2 : p_201 l0 (Int32.ofInt (97)) (Int32.ofInt (122)) τ r2 τ2) (h3 : r2.toInt = (0 : Int)) :
    p_203 (a0) σ τ2 := by
  obtain ⟨rfl, G⟩ := hI
  intro P E S
  obtain ⟨K, k1, k2, rfl⟩ := G P E S
  have S1 := S.rs (Q := zBl (rb σ l0) E P) k1
  obtain rfl := g2.1.symm
  have hc := g2.f S1 h3
  rw [rb_rs S] at hc
  rw [k2, zRn_f (lo := 97) (hi := 122) hc]
theorem sp_203_c2_f (a0 : Nat) (σ : zSg) (l0 : Nat) (τ : zSg) (τ2 : zSg) (r2 : Int32) (hI : i_203 a0 σ l0 τ) (g2 : p_201 l0 (Int32.ofInt (97)) (Int32.ofInt (122)) τ r2 τ2) (h3 : r2.toInt ≠ (0 : Int)) :
    i_203 a0 σ l0 (q_w τ2 l0 10 (.int ((q_i (τ2.1 l0 10)) + (Int32.ofInt (1))))) := by
  obtain ⟨rfl, G⟩ := hI
  refine ⟨rfl, fun P E S => ?_⟩
  obtain ⟨K, k1, k2, rfl⟩ := G P E S
  have S1 := S.rs (Q := zBl (rb σ l0) E P) k1
  obtain rfl := g2.1.symm
  have hc := g2.t S1 h3
  rw [rb_rs S] at hc
  have h9 : E ≤ 400 := S.2.2.2.2
  refine ⟨K + 1, by omega, k2.trans (zRn_t (lo := 97) (hi := 122) hc), ?_⟩
  rw [q_rs_10]
  show q_w (q_rs σ l0 K _) l0 10 (.int (Int32.ofNat K + Int32.ofInt 1)) = _
  rw [o32i (by omega), q_rs_pt]
noncomputable def qP_203 : zPp := fun as σ o σ' => match as with
  | [a0] => o = .inl none ∧ p_203 (q_r a0) σ σ'
  | _ => True
set_option maxRecDepth 100000 in
theorem sp_203 {sx : zX} (S202 : zEe sx 202 1 qP_202) (S201 : zEe sx 201 3 qP_201) : zEe sx 203 1 qP_203 := by
  refine zfle zJ_203 (sps := [(202, 1, qP_202), (201, 3, qP_201)]) (fun q hq => by
    simp only [List.mem_cons, List.not_mem_nil, or_false] at hq
    rcases hq with rfl | rfl
    · exact S202
    · exact S201) (fun as σ hl => ?_)
  match as, hl with
  | [a0], _ =>
  refine ⟨[(2, fun lo st τ => st = [] ∧ i_203 (q_r a0) σ (q_r (lo 0)) τ)], 400, ?_, ?_⟩
  · intro q hq
    simp only [List.mem_cons, List.not_mem_nil, or_false] at hq
    rcases hq with rfl
    · rintro lo st τ ⟨rfl, hI⟩
      refine ⟨400, ?_⟩
      refine fun o2 τ2 g2 => ?_
      obtain ⟨r2, rfl, g2⟩ := g2
      refine And.intro (fun h3 => ?_) (fun h3 => ?_)
      · exact ⟨rfl, sp_203_c2_t (q_r a0) σ (q_r (lo 0)) τ τ2 r2 hI g2 (cm0t h3)⟩
      · exact ⟨rfl, sp_203_c2_f (q_r a0) σ (q_r (lo 0)) τ τ2 r2 hI g2 (cm0f h3)⟩
  · refine fun o1 τ1 g1 => ?_
    obtain ⟨rfl, g1⟩ := g1
    exact ⟨rfl, sp_203_e (q_r a0) σ τ1 g1⟩
/-- the word stands between begin and point -/
noncomputable def zWd (b : Nat → Int) (s : List Int) (P Q : Nat) : Prop := P = Q + s.length ∧ ∀ k, k < s.length → b (Q + k) = s.getD k 0
noncomputable def q_si (i : Nat) : List Int := (q_s i).map (fun c => (c &&& 255).toInt)
theorem q_si_len (i : Nat) : (q_si i).length = (q_s i).length := List.length_map ..
theorem map_getD (f : Int32 → Int) : ∀ (l : List Int32) (k : Nat), k < l.length → (l.map f).getD k 0 = f (l.getD k 0)
  | [], k, h => absurd h (Nat.not_lt_zero k)
  | x :: l, 0, h => rfl
  | x :: l, k + 1, h => map_getD f l k (Nat.lt_of_succ_lt_succ h)
theorem q_si_at {i k : Nat} (h : k < (q_s i).length) : (q_si i).getD k 0 = ((q_s i).getD k 0 &&& 255).toInt := map_getD (fun c => (c &&& 255).toInt) (q_s i) k h
noncomputable def p_204 (a w : Nat) (σ : zSg) (r : Int32) (σ' : zSg) : Prop := σ' = σ ∧ ∀ P Q E, rS σ a P E → σ.1 a 12 = .int (Int32.ofNat Q) → Q ≤ P → (q_s w).length ≤ 100 → (r.toInt ≠ 0 ↔ zWd (rb σ a) (q_si w) P Q)
noncomputable def i_204 (a w : Nat) (σ : zSg) (l0 l1 : Nat) (is k : Int32) (τ : zSg) : Prop := τ = σ ∧ l0 = a ∧ l1 = w ∧ ∀ P Q E, rS σ a P E → σ.1 a 12 = .int (Int32.ofNat Q) → Q ≤ P → (q_s w).length ≤ 100 → ∃ K : Nat, k = Int32.ofNat K ∧ K ≤ (q_s w).length ∧ (is.toInt = 0 → ¬ zWd (rb σ a) (q_si w) P Q) ∧ (is.toInt ≠ 0 → P = Q + (q_s w).length ∧ ∀ j, j < K → rb σ a (Q + j) = (q_si w).getD j 0)
theorem zWd.len {b : Nat → Int} {w P Q : Nat} (h : P ≠ Q + (q_s w).length) : ¬ zWd b (q_si w) P Q := fun q => h (by rw [← q_si_len]; exact q.1)
theorem sp_204_et (a0 : Nat) (a1 : Nat) (σ : zSg) (h1 : ((q_i (σ.1 a0 10)) - (q_i (σ.1 a0 12))).toInt ≠ (Int32.ofNat (q_s a1).length).toInt) :
    i_204 a0 a1 σ a0 a1 (Int32.ofInt (0)) (Int32.ofInt (0)) σ := by
  refine ⟨rfl, rfl, rfl, fun P Q E S hQ hq hw => ⟨0, rfl, Nat.zero_le _, fun h9 => ?_, fun h9 => ?_⟩⟩
  · have hP : P ≤ 400 := Nat.le_trans S.2.2.2.1 S.2.2.2.2
    rw [S.2.1, hQ] at h1
    have e1 : (Int32.ofNat P - Int32.ofNat Q).toInt = (P : Int) - Q := zI_sub (o32 (by omega)) (o32 (by omega)) (by omega) (by omega)
    have HH1 : (Int32.ofNat P - Int32.ofNat Q).toInt ≠ (Int32.ofNat (q_s a1).length).toInt := h1
    rw [e1, o32 (by omega)] at HH1
    exact zWd.len (by omega)
  · exact absurd rfl h9
theorem sp_204_ef (a0 : Nat) (a1 : Nat) (σ : zSg) (h1 : ((q_i (σ.1 a0 10)) - (q_i (σ.1 a0 12))).toInt = (Int32.ofNat (q_s a1).length).toInt) :
    i_204 a0 a1 σ a0 a1 (Int32.ofInt (1)) (Int32.ofInt (0)) σ := by
  refine ⟨rfl, rfl, rfl, fun P Q E S hQ hq hw => ⟨0, rfl, Nat.zero_le _, fun h9 => absurd h9 (by decide), fun _ => ?_⟩⟩
  have hP : P ≤ 400 := Nat.le_trans S.2.2.2.1 S.2.2.2.2
  rw [S.2.1, hQ] at h1
  have e1 : (Int32.ofNat P - Int32.ofNat Q).toInt = (P : Int) - Q := zI_sub (o32 (by omega)) (o32 (by omega)) (by omega) (by omega)
  have HH1 : (Int32.ofNat P - Int32.ofNat Q).toInt = (Int32.ofNat (q_s a1).length).toInt := h1
  rw [e1, o32 (by omega)] at HH1
  exact ⟨by omega, fun j hj => absurd hj (by omega)⟩
theorem sp_204_c14_t (a0 : Nat) (a1 : Nat) (σ : zSg) (l0 : Nat) (l1 : Nat) (l2 : Int32) (l3 : Int32) (τ : zSg) (hI : i_204 a0 a1 σ l0 l1 l2 l3 τ) (h2 : l2.toInt = (0 : Int)) :
    p_204 (a0) (a1) σ l2 τ := by
  obtain ⟨rfl, rfl, rfl, G⟩ := hI
  refine ⟨rfl, fun P Q E S hQ hq hw => ?_⟩
  obtain ⟨K, rfl, k1, k2, k3⟩ := G P Q E S hQ hq hw
  exact ⟨fun h => absurd h2 h, fun h => absurd h (k2 h2)⟩
theorem sp_204_c14_ft (a0 : Nat) (a1 : Nat) (σ : zSg) (l0 : Nat) (l1 : Nat) (l2 : Int32) (l3 : Int32) (τ : zSg) (hI : i_204 a0 a1 σ l0 l1 l2 l3 τ) (h2 : l2.toInt ≠ (0 : Int)) (h3 : l3.toInt ≥ (Int32.ofNat (q_s l1).length).toInt) :
    p_204 (a0) (a1) σ l2 τ := by
  obtain ⟨rfl, rfl, rfl, G⟩ := hI
  refine ⟨rfl, fun P Q E S hQ hq hw => ?_⟩
  obtain ⟨K, rfl, k1, k2, k3⟩ := G P Q E S hQ hq hw
  obtain ⟨e1, e2⟩ := k3 h2
  rw [o32 (by omega), o32 (by omega)] at h3
  exact ⟨fun _ => ⟨by rw [q_si_len]; exact e1, fun j hj => e2 j (by rw [q_si_len] at hj; omega)⟩, fun _ => h2⟩
theorem sp_204_c14_fft (a0 : Nat) (a1 : Nat) (σ : zSg) (l0 : Nat) (l1 : Nat) (l2 : Int32) (l3 : Int32) (τ : zSg) (hI : i_204 a0 a1 σ l0 l1 l2 l3 τ) (h2 : l2.toInt ≠ (0 : Int)) (h3 : l3.toInt < (Int32.ofNat (q_s l1).length).toInt) (h4 : 0 ≤ ((q_i (τ.1 l0 12)) + l3).toInt ∧ ((q_i (τ.1 l0 12)) + l3).toInt < (τ.2.1 (q_r (τ.1 l0 8)) : Int)) (h5 : 0 ≤ l3.toInt ∧ l3.toInt < ((q_s l1).length : Int)) (h6 : (q_i (τ.1 (q_r (τ.1 l0 8)) ((q_i (τ.1 l0 12)) + l3).toNatClampNeg)).toInt ≠ (((q_s l1).getD l3.toNatClampNeg 0) &&& 255).toInt) :
    i_204 a0 a1 σ l0 l1 (Int32.ofInt (0)) (l3 + Int32.ofInt (1)) τ := by
  obtain ⟨rfl, rfl, rfl, G⟩ := hI
  refine ⟨rfl, rfl, rfl, fun P Q E S hQ hq hw => ?_⟩
  obtain ⟨K, rfl, k1, k2, k3⟩ := G P Q E S hQ hq hw
  have hP : P ≤ 400 := Nat.le_trans S.2.2.2.1 S.2.2.2.2
  obtain ⟨e1, e2⟩ := k3 h2
  rw [o32 (by omega), o32 (by omega)] at h3
  have eb : (q_i (τ.1 (q_r (τ.1 l0 8)) ((Int32.ofNat Q + Int32.ofNat K).toNatClampNeg))).toInt ≠ ((q_s l1).getD (Int32.ofNat K).toNatClampNeg 0 &&& 255).toInt := by
    rw [hQ] at h6
    exact h6
  have ek : (Int32.ofNat Q + Int32.ofNat K).toNatClampNeg = Q + K := znat (by rw [zI_add (o32 (by omega)) (o32 (by omega)) (by omega) (by omega)]; omega)
  rw [ek, o32n (by omega), ← q_si_at (by omega)] at eb
  exact ⟨K + 1, by rw [← o32i (by omega)], by omega, fun _ q => eb (q.2 K (by rw [q_si_len]; omega)), fun h => absurd rfl h⟩
theorem sp_204_c14_fff (a0 : Nat) (a1 : Nat) (σ : zSg) (l0 : Nat) (l1 : Nat) (l2 : Int32) (l3 : Int32) (τ : zSg) (hI : i_204 a0 a1 σ l0 l1 l2 l3 τ) (h2 : l2.toInt ≠ (0 : Int)) (h3 : l3.toInt < (Int32.ofNat (q_s l1).length).toInt) (h4 : 0 ≤ ((q_i (τ.1 l0 12)) + l3).toInt ∧ ((q_i (τ.1 l0 12)) + l3).toInt < (τ.2.1 (q_r (τ.1 l0 8)) : Int)) (h5 : 0 ≤ l3.toInt ∧ l3.toInt < ((q_s l1).length : Int)) (h6 : (q_i (τ.1 (q_r (τ.1 l0 8)) ((q_i (τ.1 l0 12)) + l3).toNatClampNeg)).toInt = (((q_s l1).getD l3.toNatClampNeg 0) &&& 255).toInt) :
    i_204 a0 a1 σ l0 l1 (Int32.ofInt (1)) (l3 + Int32.ofInt (1)) τ := by
  obtain ⟨rfl, rfl, rfl, G⟩ := hI
  refine ⟨rfl, rfl, rfl, fun P Q E S hQ hq hw => ?_⟩
  obtain ⟨K, rfl, k1, k2, k3⟩ := G P Q E S hQ hq hw
  have hP : P ≤ 400 := Nat.le_trans S.2.2.2.1 S.2.2.2.2
  obtain ⟨e1, e2⟩ := k3 h2
  rw [o32 (by omega), o32 (by omega)] at h3
  have eb : (q_i (τ.1 (q_r (τ.1 l0 8)) ((Int32.ofNat Q + Int32.ofNat K).toNatClampNeg))).toInt = ((q_s l1).getD (Int32.ofNat K).toNatClampNeg 0 &&& 255).toInt := by
    rw [hQ] at h6
    exact h6
  have ek : (Int32.ofNat Q + Int32.ofNat K).toNatClampNeg = Q + K := znat (by rw [zI_add (o32 (by omega)) (o32 (by omega)) (by omega) (by omega)]; omega)
  rw [ek, o32n (by omega), ← q_si_at (by omega)] at eb
  refine ⟨K + 1, by rw [← o32i (by omega)], by omega, fun h => absurd h (by decide), fun _ => ⟨e1, fun j hj => ?_⟩⟩
  by_cases hj2 : j = K
  · rw [hj2]; exact eb
  · exact e2 j (by omega)
noncomputable def qP_204 : zPp := fun as σ o σ' => match as with
  | [a0, a1] => ∃ r, o = .inl (some (.int r)) ∧ p_204 (q_r a0) (q_r a1) σ r σ'
  | _ => True
set_option maxRecDepth 100000 in
theorem sp_204 {sx : zX}  : zEe sx 204 2 qP_204 := by
  refine zfle zJ_204 (sps := []) (fun q hq => absurd hq List.not_mem_nil) (fun as σ hl => ?_)
  match as, hl with
  | [a0, a1], _ =>
  refine ⟨[(14, fun lo st τ => st = [] ∧ i_204 (q_r a0) (q_r a1) σ (q_r (lo 0)) (q_r (lo 1)) (q_i (lo 2)) (q_i (lo 3)) τ)], 400, ?_, ?_⟩
  · intro q hq
    simp only [List.mem_cons, List.not_mem_nil, or_false] at hq
    rcases hq with rfl
    · rintro lo st τ ⟨rfl, hI⟩
      refine ⟨400, ?_⟩
      refine And.intro (fun h2 => ?_) (fun h2 => ?_)
      · exact ⟨_, rfl, sp_204_c14_t (q_r a0) (q_r a1) σ (q_r (lo 0)) (q_r (lo 1)) (q_i (lo 2)) (q_i (lo 3)) τ hI (cm0t h2)⟩
      · refine And.intro (fun h3 => ?_) (fun h3 => ?_)
        · exact ⟨_, rfl, sp_204_c14_ft (q_r a0) (q_r a1) σ (q_r (lo 0)) (q_r (lo 1)) (q_i (lo 2)) (q_i (lo 3)) τ hI (cm0f h2) (cm3t h3)⟩
        · refine fun h4 => ?_
          refine fun h5 => ?_
          refine And.intro (fun h6 => ?_) (fun h6 => ?_)
          · exact ⟨rfl, sp_204_c14_fft (q_r a0) (q_r a1) σ (q_r (lo 0)) (q_r (lo 1)) (q_i (lo 2)) (q_i (lo 3)) τ hI (cm0f h2) (cm3f h3) (q_inp h4) (q_inp h5) (cm1t h6)⟩
          · exact ⟨rfl, sp_204_c14_fff (q_r a0) (q_r a1) σ (q_r (lo 0)) (q_r (lo 1)) (q_i (lo 2)) (q_i (lo 3)) τ hI (cm0f h2) (cm3f h3) (q_inp h4) (q_inp h5) (cm1f h6)⟩
  · refine And.intro (fun h1 => ?_) (fun h1 => ?_)
    · exact ⟨rfl, sp_204_et (q_r a0) (q_r a1) σ (cm1t h1)⟩
    · exact ⟨rfl, sp_204_ef (q_r a0) (q_r a1) σ (cm1f h1)⟩
noncomputable def zLt (b : Nat → Int) (E P : Nat) : Nat := zRn b E 97 122 P
/-- the word stands at A -/
noncomputable def zWa (b : Nat → Int) (E : Nat) (s : List Int) (A : Nat) : Prop := zWd b s (zLt b E A) A
noncomputable def p_205 (a w : Nat) (σ : zSg) (r : Int32) (σ' : zSg) : Prop := ∀ P E, rS σ a P E → (q_s w).length ≤ 100 → (r.toInt ≠ 0 ∧ zWa (rb σ a) E (q_si w) (zBl (rb σ a) E P) ∧ σ' = q_rs σ a (zBl (rb σ a) E P + (q_s w).length) (zBl (rb σ a) E P)) ∨ (r.toInt = 0 ∧ ¬ zWa (rb σ a) E (q_si w) (zBl (rb σ a) E P) ∧ σ' = q_rs σ a (zBl (rb σ a) E P) (zBl (rb σ a) E P))
theorem p_204.u {a w P E : Nat} {r : Int32} {σ τ τ' : zSg} (S : rS σ a P E) (G1 : p_203 a σ τ) (G2 : p_204 a w τ r τ') (hw : (q_s w).length ≤ 100) : τ' = τ ∧ τ = q_rs σ a (zLt (rb σ a) E (zBl (rb σ a) E P)) (zBl (rb σ a) E P) ∧ (r.toInt ≠ 0 ↔ zWa (rb σ a) E (q_si w) (zBl (rb σ a) E P)) := by
  have e := G1 P E S
  have hB := zBl_le (b := rb σ a) S.2.2.2.1
  have S1 := S.rs (Q := zBl (rb σ a) E P) (zRn_le (b := rb σ a) (lo := 97) (hi := 122) hB)
  rw [← e] at S1
  have h9 := G2.2 _ (zBl (rb σ a) E P) E S1 (by rw [e]; exact q_rs_12) zRn_ge hw
  rw [show rb τ a = rb σ a by rw [e]; exact rb_rs S] at h9
  exact ⟨G2.1, e, h9⟩
theorem sp_205_et (a0 : Nat) (a1 : Nat) (σ : zSg) (τ1 : zSg) (τ2 : zSg) (r2 : Int32) (g1 : p_203 a0 σ τ1) (g2 : p_204 a0 a1 τ1 r2 τ2) (h3 : r2.toInt = (0 : Int)) :
    p_205 (a0) (a1) σ (Int32.ofInt (0)) (q_w τ2 a0 10 (.int (q_i (τ2.1 a0 12)))) := by
  intro P E S hw
  obtain ⟨rfl, e, h9⟩ := p_204.u S g1 g2 hw
  refine Or.inr ⟨rfl, fun q => (h9.mpr q) h3, ?_⟩
  rw [e, q_rs_12]
  exact q_rs_pt
theorem sp_205_ef (a0 : Nat) (a1 : Nat) (σ : zSg) (τ1 : zSg) (τ2 : zSg) (r2 : Int32) (g1 : p_203 a0 σ τ1) (g2 : p_204 a0 a1 τ1 r2 τ2) (h3 : r2.toInt ≠ (0 : Int)) :
    p_205 (a0) (a1) σ (Int32.ofInt (1)) τ2 := by
  intro P E S hw
  obtain ⟨rfl, e, h9⟩ := p_204.u S g1 g2 hw
  have hz := h9.mp h3
  refine Or.inl ⟨by decide, hz, ?_⟩
  rw [e, show zLt (rb σ a0) E (zBl (rb σ a0) E P) = zBl (rb σ a0) E P + (q_s a1).length by rw [← q_si_len]; exact hz.1]
noncomputable def qP_205 : zPp := fun as σ o σ' => match as with
  | [a0, a1] => ∃ r, o = .inl (some (.int r)) ∧ p_205 (q_r a0) (q_r a1) σ r σ'
  | _ => True
set_option maxRecDepth 100000 in
theorem sp_205 {sx : zX} (S203 : zEe sx 203 1 qP_203) (S204 : zEe sx 204 2 qP_204) : zEe sx 205 2 qP_205 := by
  refine zfle zJ_205 (sps := [(203, 1, qP_203), (204, 2, qP_204)]) (fun q hq => by
    simp only [List.mem_cons, List.not_mem_nil, or_false] at hq
    rcases hq with rfl | rfl
    · exact S203
    · exact S204) (fun as σ hl => ?_)
  match as, hl with
  | [a0, a1], _ =>
  refine ⟨[], 400, ?_, ?_⟩
  · exact fun q hq => absurd hq List.not_mem_nil
  · refine fun o1 τ1 g1 => ?_
    obtain ⟨rfl, g1⟩ := g1
    refine fun o2 τ2 g2 => ?_
    obtain ⟨r2, rfl, g2⟩ := g2
    refine And.intro (fun h3 => ?_) (fun h3 => ?_)
    · exact ⟨_, rfl, sp_205_et (q_r a0) (q_r a1) σ τ1 τ2 r2 g1 g2 (cm0t h3)⟩
    · exact ⟨_, rfl, sp_205_ef (q_r a0) (q_r a1) σ τ1 τ2 r2 g1 g2 (cm0f h3)⟩
noncomputable def p_206 (a : Nat) (c : Int32) (σ : zSg) (r : Int32) (σ' : zSg) : Prop := ∀ P E, rS σ a P E → (r.toInt ≠ 0 ∧ (zBl (rb σ a) E P < E ∧ rb σ a (zBl (rb σ a) E P) = c.toInt) ∧ σ' = q_rs σ a (zBl (rb σ a) E P + 1) (zBl (rb σ a) E P)) ∨ (r.toInt = 0 ∧ ¬ (zBl (rb σ a) E P < E ∧ rb σ a (zBl (rb σ a) E P) = c.toInt) ∧ σ' = q_rs σ a (zBl (rb σ a) E P) (zBl (rb σ a) E P))
theorem sp_206_et (a0 : Nat) (a1 : Int32) (σ : zSg) (τ1 : zSg) (τ2 : zSg) (r2 : Int32) (g1 : p_202 a0 σ τ1) (g2 : p_201 a0 a1 a1 τ1 r2 τ2) (h3 : r2.toInt ≠ (0 : Int)) :
    p_206 (a0) (a1) σ (Int32.ofInt (1)) (q_w τ2 a0 10 (.int ((q_i (τ2.1 a0 10)) + (Int32.ofInt (1))))) := by
  intro P E S
  have e := g1 P E S
  have hB := zBl_le (b := rb σ a0) S.2.2.2.1
  have S1 := S.rs (Q := zBl (rb σ a0) E P) hB
  rw [← e] at S1
  have hc := g2.t S1 h3
  rw [show rb τ1 a0 = rb σ a0 by rw [e]; exact rb_rs S] at hc
  have h9 : E ≤ 400 := S.2.2.2.2
  refine Or.inl ⟨by decide, ⟨hc.1, by omega⟩, ?_⟩
  rw [g2.1, e, q_rs_10]
  show q_w (q_rs σ a0 _ _) a0 10 (.int (Int32.ofNat _ + Int32.ofInt 1)) = _
  rw [o32i (by omega), q_rs_pt]
theorem sp_206_ef (a0 : Nat) (a1 : Int32) (σ : zSg) (τ1 : zSg) (τ2 : zSg) (r2 : Int32) (g1 : p_202 a0 σ τ1) (g2 : p_201 a0 a1 a1 τ1 r2 τ2) (h3 : r2.toInt = (0 : Int)) :
    p_206 (a0) (a1) σ (Int32.ofInt (0)) τ2 := by
  intro P E S
  have e := g1 P E S
  have hB := zBl_le (b := rb σ a0) S.2.2.2.1
  have S1 := S.rs (Q := zBl (rb σ a0) E P) hB
  rw [← e] at S1
  have hc := g2.f S1 h3
  rw [show rb τ1 a0 = rb σ a0 by rw [e]; exact rb_rs S] at hc
  exact Or.inr ⟨rfl, fun q => hc ⟨q.1, by omega, by omega⟩, by rw [g2.1, e]⟩
noncomputable def qP_206 : zPp := fun as σ o σ' => match as with
  | [a0, a1] => ∃ r, o = .inl (some (.int r)) ∧ p_206 (q_r a0) (q_i a1) σ r σ'
  | _ => True
set_option maxRecDepth 100000 in
theorem sp_206 {sx : zX} (S202 : zEe sx 202 1 qP_202) (S201 : zEe sx 201 3 qP_201) : zEe sx 206 2 qP_206 := by
  refine zfle zJ_206 (sps := [(202, 1, qP_202), (201, 3, qP_201)]) (fun q hq => by
    simp only [List.mem_cons, List.not_mem_nil, or_false] at hq
    rcases hq with rfl | rfl
    · exact S202
    · exact S201) (fun as σ hl => ?_)
  match as, hl with
  | [a0, a1], _ =>
  refine ⟨[], 400, ?_, ?_⟩
  · exact fun q hq => absurd hq List.not_mem_nil
  · refine fun o1 τ1 g1 => ?_
    obtain ⟨rfl, g1⟩ := g1
    refine fun o2 τ2 g2 => ?_
    obtain ⟨r2, rfl, g2⟩ := g2
    refine And.intro (fun h3 => ?_) (fun h3 => ?_)
    · exact ⟨_, rfl, sp_206_et (q_r a0) (q_i a1) σ τ1 τ2 r2 g1 g2 (cm1t h3)⟩
    · exact ⟨_, rfl, sp_206_ef (q_r a0) (q_i a1) σ τ1 τ2 r2 g1 g2 (cm1f h3)⟩
noncomputable def zDe (b : Nat → Int) (E P : Nat) : Nat := zRn b E 48 57 P
theorem zDv_in {b : Nat → Int} {E A : Nat} : ∀ n, A + n ≤ zDe b E A → 0 ≤ zDv b A n ∧ zDv b A n ≤ 1110
  | 0, _ => by unfold zDv; omega
  | 1, h => by
    have h1 := zRn_in (b := b) (E := E) (lo := 48) (hi := 57) (P := A) (k := A) (by omega) (by show A < zDe b E A; omega)
    simp only [zDv, Nat.add_zero]
    split <;> omega
  | 2, h => by
    have h1 := zRn_in (b := b) (E := E) (lo := 48) (hi := 57) (P := A) (k := A) (by omega) (by show A < zDe b E A; omega)
    have h2 := zRn_in (b := b) (E := E) (lo := 48) (hi := 57) (P := A) (k := A + 1) (by omega) (by show A + 1 < zDe b E A; omega)
    simp only [zDv, Nat.add_zero]
    split <;> split <;> omega
  | 3, h => by
    have h1 := zRn_in (b := b) (E := E) (lo := 48) (hi := 57) (P := A) (k := A) (by omega) (by show A < zDe b E A; omega)
    have h2 := zRn_in (b := b) (E := E) (lo := 48) (hi := 57) (P := A) (k := A + 1) (by omega) (by show A + 1 < zDe b E A; omega)
    have h3 := zRn_in (b := b) (E := E) (lo := 48) (hi := 57) (P := A) (k := A + 2) (by omega) (by show A + 2 < zDe b E A; omega)
    simp only [zDv, Nat.add_zero]
    split <;> split <;> split <;> omega
  | n + 4, h => by
    have := zDv_in (n + 3) (show A + (n + 3) ≤ zDe b E A by omega)
    unfold zDv
    rw [if_neg (by omega)]
    exact this
/-- the number at A: what number answers -/
noncomputable def zNm (b : Nat → Int) (E : Nat) (lo hi : Int) (A : Nat) : Int := if 1 ≤ zDe b E A - A ∧ zDe b E A - A ≤ 3 ∧ lo ≤ zDv b A (zDe b E A - A) ∧ zDv b A (zDe b E A - A) ≤ hi then zDv b A (zDe b E A - A) else -1
noncomputable def p_207 (a : Nat) (lo hi : Int32) (σ : zSg) (r : Int32) (σ' : zSg) : Prop := ∀ P E, rS σ a P E → r.toInt = zNm (rb σ a) E lo.toInt hi.toInt (zBl (rb σ a) E P) ∧ σ' = q_rs σ a (zDe (rb σ a) E (zBl (rb σ a) E P)) (zBl (rb σ a) E P)
noncomputable def i_207 (a : Nat) (lo hi : Int32) (σ : zSg) (l0 : Nat) (l1 l2 v : Int32) (τ : zSg) : Prop := l0 = a ∧ l1 = lo ∧ l2 = hi ∧ ∀ P E, rS σ a P E → ∃ K, zBl (rb σ a) E P ≤ K ∧ K ≤ E ∧ zDe (rb σ a) E (zBl (rb σ a) E P) = zDe (rb σ a) E K ∧ K ≤ zDe (rb σ a) E (zBl (rb σ a) E P) ∧ v.toInt = zDv (rb σ a) (zBl (rb σ a) E P) (K - zBl (rb σ a) E P) ∧ τ = q_rs σ a K (zBl (rb σ a) E P)
theorem sp_207_e (a0 : Nat) (a1 : Int32) (a2 : Int32) (σ : zSg) (τ1 : zSg) (g1 : p_202 a0 σ τ1) :
    i_207 a0 a1 a2 σ a0 a1 a2 (Int32.ofInt (0)) τ1 := by
  refine ⟨rfl, rfl, rfl, fun P E S => ?_⟩
  have hB := zBl_le (b := rb σ a0) S.2.2.2.1
  refine ⟨zBl (rb σ a0) E P, Nat.le_refl _, hB, rfl, zRn_ge, ?_, g1 P E S⟩
  rw [Nat.sub_self]
  rfl
theorem sp_207_c4_tt (a0 : Nat) (a1 : Int32) (a2 : Int32) (σ : zSg) (l0 : Nat) (l1 : Int32) (l2 : Int32) (l3 : Int32) (τ : zSg) (τ2 : zSg) (r2 : Int32) (hI : i_207 a0 a1 a2 σ l0 l1 l2 l3 τ) (g2 : p_201 l0 (Int32.ofInt (48)) (Int32.ofInt (57)) τ r2 τ2) (h3 : r2.toInt = (0 : Int)) (h4 : (q_i (τ2.1 l0 10)).toInt = (q_i (τ2.1 l0 12)).toInt) :
    p_207 (a0) (a1) (a2) σ (Int32.ofInt (-1)) τ2 := by
  obtain ⟨rfl, rfl, rfl, G⟩ := hI
  intro P E S
  obtain ⟨K, k0, k1, k2, k3, k4, rfl⟩ := G P E S
  have hE : E ≤ 400 := S.2.2.2.2
  have S1 := S.rs (Q := zBl (rb σ l0) E P) k1
  obtain rfl := g2.1.symm
  have hc := g2.f S1 h3
  rw [rb_rs S] at hc
  have hD : zDe (rb σ l0) E K = K := zRn_f (lo := 48) (hi := 57) hc
  rw [hD] at k2
  have hv := zDv_in (b := rb σ l0) (E := E) (A := zBl (rb σ l0) E P) (K - zBl (rb σ l0) E P) (by omega)
  refine ⟨?_, by rw [k2]⟩
  unfold zNm
  rw [k2, ← k4]
  have e1 : (Int32.ofNat K - Int32.ofNat (zBl (rb σ l0) E P)).toInt = (K : Int) - zBl (rb σ l0) E P := zI_sub (o32 (by omega)) (o32 (by omega)) (by omega) (by omega)
  have e2 : (Int32.ofNat K).toInt = (K : Int) := o32 (by omega)
  have e3 : (Int32.ofNat (zBl (rb σ l0) E P)).toInt = ((zBl (rb σ l0) E P : Nat) : Int) := o32 (by omega)
  have E4 : (Int32.ofNat K).toInt = (Int32.ofNat (zBl (rb σ l0) E P)).toInt := by
    have h9 := h4
    rw [q_rs_10, q_rs_12] at h9
    exact h9
  rw [e2, e3] at E4
  rw [if_neg (by omega)]
  rfl
theorem sp_207_c4_tft (a0 : Nat) (a1 : Int32) (a2 : Int32) (σ : zSg) (l0 : Nat) (l1 : Int32) (l2 : Int32) (l3 : Int32) (τ : zSg) (τ2 : zSg) (r2 : Int32) (hI : i_207 a0 a1 a2 σ l0 l1 l2 l3 τ) (g2 : p_201 l0 (Int32.ofInt (48)) (Int32.ofInt (57)) τ r2 τ2) (h3 : r2.toInt = (0 : Int)) (h4 : (q_i (τ2.1 l0 10)).toInt ≠ (q_i (τ2.1 l0 12)).toInt) (h5 : ((q_i (τ2.1 l0 10)) - (q_i (τ2.1 l0 12))).toInt > (3 : Int)) :
    p_207 (a0) (a1) (a2) σ (Int32.ofInt (-1)) τ2 := by
  obtain ⟨rfl, rfl, rfl, G⟩ := hI
  intro P E S
  obtain ⟨K, k0, k1, k2, k3, k4, rfl⟩ := G P E S
  have hE : E ≤ 400 := S.2.2.2.2
  have S1 := S.rs (Q := zBl (rb σ l0) E P) k1
  obtain rfl := g2.1.symm
  have hc := g2.f S1 h3
  rw [rb_rs S] at hc
  have hD : zDe (rb σ l0) E K = K := zRn_f (lo := 48) (hi := 57) hc
  rw [hD] at k2
  have hv := zDv_in (b := rb σ l0) (E := E) (A := zBl (rb σ l0) E P) (K - zBl (rb σ l0) E P) (by omega)
  refine ⟨?_, by rw [k2]⟩
  unfold zNm
  rw [k2, ← k4]
  have e1 : (Int32.ofNat K - Int32.ofNat (zBl (rb σ l0) E P)).toInt = (K : Int) - zBl (rb σ l0) E P := zI_sub (o32 (by omega)) (o32 (by omega)) (by omega) (by omega)
  have e2 : (Int32.ofNat K).toInt = (K : Int) := o32 (by omega)
  have e3 : (Int32.ofNat (zBl (rb σ l0) E P)).toInt = ((zBl (rb σ l0) E P : Nat) : Int) := o32 (by omega)
  have E4 : (Int32.ofNat K).toInt ≠ (Int32.ofNat (zBl (rb σ l0) E P)).toInt := by
    have h9 := h4
    rw [q_rs_10, q_rs_12] at h9
    exact h9
  rw [e2, e3] at E4
  have E5 : (Int32.ofNat K - Int32.ofNat (zBl (rb σ l0) E P)).toInt > 3 := by
    have h9 := h5
    rw [q_rs_10, q_rs_12] at h9
    exact h9
  rw [e1] at E5
  rw [if_neg (by omega)]
  rfl
theorem sp_207_c4_tfft (a0 : Nat) (a1 : Int32) (a2 : Int32) (σ : zSg) (l0 : Nat) (l1 : Int32) (l2 : Int32) (l3 : Int32) (τ : zSg) (τ2 : zSg) (r2 : Int32) (hI : i_207 a0 a1 a2 σ l0 l1 l2 l3 τ) (g2 : p_201 l0 (Int32.ofInt (48)) (Int32.ofInt (57)) τ r2 τ2) (h3 : r2.toInt = (0 : Int)) (h4 : (q_i (τ2.1 l0 10)).toInt ≠ (q_i (τ2.1 l0 12)).toInt) (h5 : ((q_i (τ2.1 l0 10)) - (q_i (τ2.1 l0 12))).toInt ≤ (3 : Int)) (h6 : l3.toInt < l1.toInt) :
    p_207 (a0) (a1) (a2) σ (Int32.ofInt (-1)) τ2 := by
  obtain ⟨rfl, rfl, rfl, G⟩ := hI
  intro P E S
  obtain ⟨K, k0, k1, k2, k3, k4, rfl⟩ := G P E S
  have hE : E ≤ 400 := S.2.2.2.2
  have S1 := S.rs (Q := zBl (rb σ l0) E P) k1
  obtain rfl := g2.1.symm
  have hc := g2.f S1 h3
  rw [rb_rs S] at hc
  have hD : zDe (rb σ l0) E K = K := zRn_f (lo := 48) (hi := 57) hc
  rw [hD] at k2
  have hv := zDv_in (b := rb σ l0) (E := E) (A := zBl (rb σ l0) E P) (K - zBl (rb σ l0) E P) (by omega)
  refine ⟨?_, by rw [k2]⟩
  unfold zNm
  rw [k2, ← k4]
  have e1 : (Int32.ofNat K - Int32.ofNat (zBl (rb σ l0) E P)).toInt = (K : Int) - zBl (rb σ l0) E P := zI_sub (o32 (by omega)) (o32 (by omega)) (by omega) (by omega)
  have e2 : (Int32.ofNat K).toInt = (K : Int) := o32 (by omega)
  have e3 : (Int32.ofNat (zBl (rb σ l0) E P)).toInt = ((zBl (rb σ l0) E P : Nat) : Int) := o32 (by omega)
  have E4 : (Int32.ofNat K).toInt ≠ (Int32.ofNat (zBl (rb σ l0) E P)).toInt := by
    have h9 := h4
    rw [q_rs_10, q_rs_12] at h9
    exact h9
  rw [e2, e3] at E4
  have E5 : (Int32.ofNat K - Int32.ofNat (zBl (rb σ l0) E P)).toInt ≤ 3 := by
    have h9 := h5
    rw [q_rs_10, q_rs_12] at h9
    exact h9
  rw [e1] at E5
  rw [if_neg (by omega)]
  rfl
theorem sp_207_c4_tffft (a0 : Nat) (a1 : Int32) (a2 : Int32) (σ : zSg) (l0 : Nat) (l1 : Int32) (l2 : Int32) (l3 : Int32) (τ : zSg) (τ2 : zSg) (r2 : Int32) (hI : i_207 a0 a1 a2 σ l0 l1 l2 l3 τ) (g2 : p_201 l0 (Int32.ofInt (48)) (Int32.ofInt (57)) τ r2 τ2) (h3 : r2.toInt = (0 : Int)) (h4 : (q_i (τ2.1 l0 10)).toInt ≠ (q_i (τ2.1 l0 12)).toInt) (h5 : ((q_i (τ2.1 l0 10)) - (q_i (τ2.1 l0 12))).toInt ≤ (3 : Int)) (h6 : l3.toInt ≥ l1.toInt) (h7 : l3.toInt ≤ l2.toInt) :
    p_207 (a0) (a1) (a2) σ l3 τ2 := by
  obtain ⟨rfl, rfl, rfl, G⟩ := hI
  intro P E S
  obtain ⟨K, k0, k1, k2, k3, k4, rfl⟩ := G P E S
  have hE : E ≤ 400 := S.2.2.2.2
  have S1 := S.rs (Q := zBl (rb σ l0) E P) k1
  obtain rfl := g2.1.symm
  have hc := g2.f S1 h3
  rw [rb_rs S] at hc
  have hD : zDe (rb σ l0) E K = K := zRn_f (lo := 48) (hi := 57) hc
  rw [hD] at k2
  have hv := zDv_in (b := rb σ l0) (E := E) (A := zBl (rb σ l0) E P) (K - zBl (rb σ l0) E P) (by omega)
  refine ⟨?_, by rw [k2]⟩
  unfold zNm
  rw [k2, ← k4]
  have e1 : (Int32.ofNat K - Int32.ofNat (zBl (rb σ l0) E P)).toInt = (K : Int) - zBl (rb σ l0) E P := zI_sub (o32 (by omega)) (o32 (by omega)) (by omega) (by omega)
  have e2 : (Int32.ofNat K).toInt = (K : Int) := o32 (by omega)
  have e3 : (Int32.ofNat (zBl (rb σ l0) E P)).toInt = ((zBl (rb σ l0) E P : Nat) : Int) := o32 (by omega)
  have E4 : (Int32.ofNat K).toInt ≠ (Int32.ofNat (zBl (rb σ l0) E P)).toInt := by
    have h9 := h4
    rw [q_rs_10, q_rs_12] at h9
    exact h9
  rw [e2, e3] at E4
  have E5 : (Int32.ofNat K - Int32.ofNat (zBl (rb σ l0) E P)).toInt ≤ 3 := by
    have h9 := h5
    rw [q_rs_10, q_rs_12] at h9
    exact h9
  rw [e1] at E5
  rw [if_pos (by omega)]
theorem sp_207_c4_tffff (a0 : Nat) (a1 : Int32) (a2 : Int32) (σ : zSg) (l0 : Nat) (l1 : Int32) (l2 : Int32) (l3 : Int32) (τ : zSg) (τ2 : zSg) (r2 : Int32) (hI : i_207 a0 a1 a2 σ l0 l1 l2 l3 τ) (g2 : p_201 l0 (Int32.ofInt (48)) (Int32.ofInt (57)) τ r2 τ2) (h3 : r2.toInt = (0 : Int)) (h4 : (q_i (τ2.1 l0 10)).toInt ≠ (q_i (τ2.1 l0 12)).toInt) (h5 : ((q_i (τ2.1 l0 10)) - (q_i (τ2.1 l0 12))).toInt ≤ (3 : Int)) (h6 : l3.toInt ≥ l1.toInt) (h7 : l3.toInt > l2.toInt) :
    p_207 (a0) (a1) (a2) σ (Int32.ofInt (-1)) τ2 := by
  obtain ⟨rfl, rfl, rfl, G⟩ := hI
  intro P E S
  obtain ⟨K, k0, k1, k2, k3, k4, rfl⟩ := G P E S
  have hE : E ≤ 400 := S.2.2.2.2
  have S1 := S.rs (Q := zBl (rb σ l0) E P) k1
  obtain rfl := g2.1.symm
  have hc := g2.f S1 h3
  rw [rb_rs S] at hc
  have hD : zDe (rb σ l0) E K = K := zRn_f (lo := 48) (hi := 57) hc
  rw [hD] at k2
  have hv := zDv_in (b := rb σ l0) (E := E) (A := zBl (rb σ l0) E P) (K - zBl (rb σ l0) E P) (by omega)
  refine ⟨?_, by rw [k2]⟩
  unfold zNm
  rw [k2, ← k4]
  have e1 : (Int32.ofNat K - Int32.ofNat (zBl (rb σ l0) E P)).toInt = (K : Int) - zBl (rb σ l0) E P := zI_sub (o32 (by omega)) (o32 (by omega)) (by omega) (by omega)
  have e2 : (Int32.ofNat K).toInt = (K : Int) := o32 (by omega)
  have e3 : (Int32.ofNat (zBl (rb σ l0) E P)).toInt = ((zBl (rb σ l0) E P : Nat) : Int) := o32 (by omega)
  have E4 : (Int32.ofNat K).toInt ≠ (Int32.ofNat (zBl (rb σ l0) E P)).toInt := by
    have h9 := h4
    rw [q_rs_10, q_rs_12] at h9
    exact h9
  rw [e2, e3] at E4
  have E5 : (Int32.ofNat K - Int32.ofNat (zBl (rb σ l0) E P)).toInt ≤ 3 := by
    have h9 := h5
    rw [q_rs_10, q_rs_12] at h9
    exact h9
  rw [e1] at E5
  rw [if_neg (by omega)]
  rfl
theorem sp_207_c4_ft (a0 : Nat) (a1 : Int32) (a2 : Int32) (σ : zSg) (l0 : Nat) (l1 : Int32) (l2 : Int32) (l3 : Int32) (τ : zSg) (τ2 : zSg) (r2 : Int32) (hI : i_207 a0 a1 a2 σ l0 l1 l2 l3 τ) (g2 : p_201 l0 (Int32.ofInt (48)) (Int32.ofInt (57)) τ r2 τ2) (h3 : r2.toInt ≠ (0 : Int)) (h8 : ((q_i (τ2.1 l0 10)) - (q_i (τ2.1 l0 12))).toInt ≥ (3 : Int)) :
    i_207 a0 a1 a2 σ l0 l1 l2 l3 (q_w τ2 l0 10 (.int ((q_i (τ2.1 l0 10)) + (Int32.ofInt (1))))) := by
  obtain ⟨rfl, rfl, rfl, G⟩ := hI
  refine ⟨rfl, rfl, rfl, fun P E S => ?_⟩
  obtain ⟨K, k0, k1, k2, k3, k4, rfl⟩ := G P E S
  have hE : E ≤ 400 := S.2.2.2.2
  have S1 := S.rs (Q := zBl (rb σ l0) E P) k1
  obtain rfl := g2.1.symm
  have hc := g2.t S1 h3
  rw [rb_rs S] at hc
  have hD : zDe (rb σ l0) E K = zDe (rb σ l0) E (K + 1) := zRn_t (lo := 48) (hi := 57) hc
  have hK : K + 1 ≤ zDe (rb σ l0) E (zBl (rb σ l0) E P) := by rw [k2, hD]; exact zRn_ge
  refine ⟨K + 1, by omega, by omega, k2.trans hD, hK, ?_, ?_⟩
  · rw [show K + 1 - zBl (rb σ l0) E P = (K - zBl (rb σ l0) E P) + 1 by omega]
    rw [q_rs_10, q_rs_12] at h8
    have e1 : (Int32.ofNat K - Int32.ofNat (zBl (rb σ l0) E P)).toInt = (K : Int) - zBl (rb σ l0) E P := zI_sub (o32 (by omega)) (o32 (by omega)) (by omega) (by omega)
    have HC1 : (Int32.ofNat K - Int32.ofNat (zBl (rb σ l0) E P)).toInt ≥ 3 := h8
    rw [e1] at HC1
    unfold zDv
    rw [if_neg (by omega)]
    exact k4
  · rw [q_rs_10]
    show q_w (q_rs σ l0 K _) l0 10 (.int (Int32.ofNat K + Int32.ofInt 1)) = _
    rw [o32i (by omega), q_rs_pt]
theorem sp_207_c4_ff (a0 : Nat) (a1 : Int32) (a2 : Int32) (σ : zSg) (l0 : Nat) (l1 : Int32) (l2 : Int32) (l3 : Int32) (τ : zSg) (τ2 : zSg) (r2 : Int32) (hI : i_207 a0 a1 a2 σ l0 l1 l2 l3 τ) (g2 : p_201 l0 (Int32.ofInt (48)) (Int32.ofInt (57)) τ r2 τ2) (h3 : r2.toInt ≠ (0 : Int)) (h8 : ((q_i (τ2.1 l0 10)) - (q_i (τ2.1 l0 12))).toInt < (3 : Int)) (h9 : 0 ≤ (q_i (τ2.1 l0 10)).toInt ∧ (q_i (τ2.1 l0 10)).toInt < (τ2.2.1 (q_r (τ2.1 l0 8)) : Int)) :
    i_207 a0 a1 a2 σ l0 l1 l2 ((((Int32.ofInt (10)) * l3) + (q_i (τ2.1 (q_r (τ2.1 l0 8)) (q_i (τ2.1 l0 10)).toNatClampNeg))) - (Int32.ofInt (48))) (q_w τ2 l0 10 (.int ((q_i (τ2.1 l0 10)) + (Int32.ofInt (1))))) := by
  obtain ⟨rfl, rfl, rfl, G⟩ := hI
  refine ⟨rfl, rfl, rfl, fun P E S => ?_⟩
  obtain ⟨K, k0, k1, k2, k3, k4, rfl⟩ := G P E S
  have hE : E ≤ 400 := S.2.2.2.2
  have S1 := S.rs (Q := zBl (rb σ l0) E P) k1
  obtain rfl := g2.1.symm
  have hc := g2.t S1 h3
  rw [rb_rs S] at hc
  have hD : zDe (rb σ l0) E K = zDe (rb σ l0) E (K + 1) := zRn_t (lo := 48) (hi := 57) hc
  have hK : K + 1 ≤ zDe (rb σ l0) E (zBl (rb σ l0) E P) := by rw [k2, hD]; exact zRn_ge
  refine ⟨K + 1, by omega, by omega, k2.trans hD, hK, ?_, ?_⟩
  · rw [show K + 1 - zBl (rb σ l0) E P = (K - zBl (rb σ l0) E P) + 1 by omega]
    rw [q_rs_10, q_rs_12] at h8
    have e1 : (Int32.ofNat K - Int32.ofNat (zBl (rb σ l0) E P)).toInt = (K : Int) - zBl (rb σ l0) E P := zI_sub (o32 (by omega)) (o32 (by omega)) (by omega) (by omega)
    have HC1 : (Int32.ofNat K - Int32.ofNat (zBl (rb σ l0) E P)).toInt < 3 := h8
    rw [e1] at HC1
    unfold zDv
    rw [if_pos (by omega), show zBl (rb σ l0) E P + (K - zBl (rb σ l0) E P) = K by omega]
    have hv := zDv_in (b := rb σ l0) (E := E) (A := zBl (rb σ l0) E P) (K - zBl (rb σ l0) E P) (by omega)
    have hx : (q_i ((q_rs σ l0 K (zBl (rb σ l0) E P)).1 (q_r ((q_rs σ l0 K (zBl (rb σ l0) E P)).1 l0 8)) (q_i ((q_rs σ l0 K (zBl (rb σ l0) E P)).1 l0 10)).toNatClampNeg)).toInt = rb σ l0 K := by
      rw [q_rs_10]
      show (q_i ((q_rs σ l0 K (zBl (rb σ l0) E P)).1 (q_r ((q_rs σ l0 K (zBl (rb σ l0) E P)).1 l0 8)) (Int32.ofNat K).toNatClampNeg)).toInt = rb σ l0 K
      rw [o32n (by omega)]
      exact congrFun (rb_rs (K := K) (Q := zBl (rb σ l0) E P) S) K
    have m1 : (Int32.ofInt 10 * l3).toInt = 10 * l3.toInt := by
      rw [Int32.toInt_mul, zI_c (by omega) (by omega)]
      exact z_bm (by omega) (by omega)
    have hb9 := hc.2
    have c48 : (Int32.ofInt 48).toInt = 48 := rfl
    have c57 : (Int32.ofInt 57).toInt = 57 := rfl
    rw [zI_sub (zI_add m1 hx (by omega) (by omega)) c48 (by omega) (by omega), k4]
  · rw [q_rs_10]
    show q_w (q_rs σ l0 K _) l0 10 (.int (Int32.ofNat K + Int32.ofInt 1)) = _
    rw [o32i (by omega), q_rs_pt]
noncomputable def qP_207 : zPp := fun as σ o σ' => match as with
  | [a0, a1, a2] => ∃ r, o = .inl (some (.int r)) ∧ p_207 (q_r a0) (q_i a1) (q_i a2) σ r σ'
  | _ => True
set_option maxRecDepth 100000 in
theorem sp_207 {sx : zX} (S202 : zEe sx 202 1 qP_202) (S201 : zEe sx 201 3 qP_201) : zEe sx 207 3 qP_207 := by
  refine zfle zJ_207 (sps := [(202, 1, qP_202), (201, 3, qP_201)]) (fun q hq => by
    simp only [List.mem_cons, List.not_mem_nil, or_false] at hq
    rcases hq with rfl | rfl
    · exact S202
    · exact S201) (fun as σ hl => ?_)
  match as, hl with
  | [a0, a1, a2], _ =>
  refine ⟨[(4, fun lo st τ => st = [] ∧ i_207 (q_r a0) (q_i a1) (q_i a2) σ (q_r (lo 0)) (q_i (lo 1)) (q_i (lo 2)) (q_i (lo 3)) τ)], 400, ?_, ?_⟩
  · intro q hq
    simp only [List.mem_cons, List.not_mem_nil, or_false] at hq
    rcases hq with rfl
    · rintro lo st τ ⟨rfl, hI⟩
      refine ⟨400, ?_⟩
      refine fun o2 τ2 g2 => ?_
      obtain ⟨r2, rfl, g2⟩ := g2
      refine And.intro (fun h3 => ?_) (fun h3 => ?_)
      · refine And.intro (fun h4 => ?_) (fun h4 => ?_)
        · exact ⟨_, rfl, sp_207_c4_tt (q_r a0) (q_i a1) (q_i a2) σ (q_r (lo 0)) (q_i (lo 1)) (q_i (lo 2)) (q_i (lo 3)) τ τ2 r2 hI g2 (cm0t h3) (cm0t h4)⟩
        · refine And.intro (fun h5 => ?_) (fun h5 => ?_)
          · exact ⟨_, rfl, sp_207_c4_tft (q_r a0) (q_i a1) (q_i a2) σ (q_r (lo 0)) (q_i (lo 1)) (q_i (lo 2)) (q_i (lo 3)) τ τ2 r2 hI g2 (cm0t h3) (cm0f h4) (cm4t h5)⟩
          · refine And.intro (fun h6 => ?_) (fun h6 => ?_)
            · exact ⟨_, rfl, sp_207_c4_tfft (q_r a0) (q_i a1) (q_i a2) σ (q_r (lo 0)) (q_i (lo 1)) (q_i (lo 2)) (q_i (lo 3)) τ τ2 r2 hI g2 (cm0t h3) (cm0f h4) (cm4f h5) (cm2t h6)⟩
            · refine And.intro (fun h7 => ?_) (fun h7 => ?_)
              · exact ⟨_, rfl, sp_207_c4_tffft (q_r a0) (q_i a1) (q_i a2) σ (q_r (lo 0)) (q_i (lo 1)) (q_i (lo 2)) (q_i (lo 3)) τ τ2 r2 hI g2 (cm0t h3) (cm0f h4) (cm4f h5) (cm2f h6) (cm5t h7)⟩
              · exact ⟨_, rfl, sp_207_c4_tffff (q_r a0) (q_i a1) (q_i a2) σ (q_r (lo 0)) (q_i (lo 1)) (q_i (lo 2)) (q_i (lo 3)) τ τ2 r2 hI g2 (cm0t h3) (cm0f h4) (cm4f h5) (cm2f h6) (cm5f h7)⟩
      · refine And.intro (fun h8 => ?_) (fun h8 => ?_)
        · exact ⟨rfl, sp_207_c4_ft (q_r a0) (q_i a1) (q_i a2) σ (q_r (lo 0)) (q_i (lo 1)) (q_i (lo 2)) (q_i (lo 3)) τ τ2 r2 hI g2 (cm0f h3) (cm3t h8)⟩
        · refine fun h9 => ?_
          exact ⟨rfl, sp_207_c4_ff (q_r a0) (q_i a1) (q_i a2) σ (q_r (lo 0)) (q_i (lo 1)) (q_i (lo 2)) (q_i (lo 3)) τ τ2 r2 hI g2 (cm0f h3) (cm3f h8) (q_inp h9)⟩
  · refine fun o1 τ1 g1 => ?_
    obtain ⟨rfl, g1⟩ := g1
    exact ⟨rfl, sp_207_e (q_r a0) (q_i a1) (q_i a2) σ τ1 g1⟩
end
section
/-! the Tape of the class, exact; printed with wip/gen/gen_t2.py -/
noncomputable def cu (σ : zSg) (t k : Nat) : Int := (q_i (σ.1 (q_r (σ.1 t 0)) k)).toInt
noncomputable def cb (σ : zSg) (t k : Nat) : Int := if 128 ≤ cu σ t k then cu σ t k - 256 else cu σ t k
noncomputable def cS (σ : zSg) (t A E : Nat) : Prop := q_r (σ.1 t 0) ≠ t ∧ σ.1 t 1 = .int (Int32.ofNat E) ∧ σ.1 t 2 = .int (Int32.ofNat A) ∧ A ≤ E ∧ E ≤ 400 ∧ ∀ k, 0 ≤ cu σ t k ∧ cu σ t k ≤ 255
section CTK
variable {σ : zSg} {t A E : Nat} {v : Value}
theorem cu_w {k : Nat} (h : q_r (σ.1 t 0) ≠ t) (hk : k ≠ 0) : cu (q_w σ t k v) t = cu σ t := by
  funext i
  unfold cu
  rw [q_w_ne (c' := t) (k' := 0) (fun _ q => hk q.symm), q_w_ne (fun q _ => h q)]
theorem cb_w {k : Nat} (h : q_r (σ.1 t 0) ≠ t) (hk : k ≠ 0) : cb (q_w σ t k v) t = cb σ t := by
  funext i
  unfold cb
  rw [cu_w h hk]
theorem cS.at (H : cS σ t A E) {K : Nat} (hK : K ≤ E) : cS (q_w σ t 2 (.int (Int32.ofNat K))) t K E := by
  obtain ⟨h1, h2, h3, h4, h5, h6⟩ := H
  refine ⟨?_, ?_, q_w_at _ _ _ _, hK, h5, ?_⟩
  · rw [q_w_ne (fun _ q => by omega)]; exact h1
  · rw [q_w_ne (fun _ q => by omega)]; exact h2
  · rw [cu_w h1 (by omega)]; exact h6
theorem cS.wr (H : cS σ t A E) : cS (q_w σ t 3 v) t A E := by
  obtain ⟨h1, h2, h3, h4, h5, h6⟩ := H
  refine ⟨?_, ?_, ?_, h4, h5, ?_⟩
  · rw [q_w_ne (fun _ q => by omega)]; exact h1
  · rw [q_w_ne (fun _ q => by omega)]; exact h2
  · rw [q_w_ne (fun _ q => by omega)]; exact h3
  · rw [cu_w h1 (by omega)]; exact h6
theorem cb_rg (H : cS σ t A E) {k : Nat} {lo hi : Int} (h1 : 0 ≤ lo) (h2 : hi ≤ 127) : (lo ≤ cb σ t k ∧ cb σ t k ≤ hi) ↔ (lo ≤ cu σ t k ∧ cu σ t k ≤ hi) := by
  have := H.2.2.2.2.2 k
  unfold cb
  split <;> omega
theorem cb_eq (H : cS σ t A E) {k : Nat} {c : Int} (h1 : 0 ≤ c) (h2 : c ≤ 127) : cb σ t k = c ↔ cu σ t k = c := by
  have := H.2.2.2.2.2 k
  unfold cb
  split <;> omega
/-- a tape, wherever it was read to -/
noncomputable def cS0 (σ : zSg) (t E : Nat) : Prop := q_r (σ.1 t 0) ≠ t ∧ σ.1 t 1 = .int (Int32.ofNat E) ∧ E ≤ 400 ∧ ∀ k, 0 ≤ cu σ t k ∧ cu σ t k ≤ 255
theorem cS0.mk {w : Value} {K : Nat} (H : cS0 σ t E) (hK : K ≤ E) : cS (q_w (q_w σ t 3 w) t 2 (.int (Int32.ofNat K))) t K E ∧ cb (q_w (q_w σ t 3 w) t 2 (.int (Int32.ofNat K))) t = cb σ t := by
  obtain ⟨h1, h2, h5, h6⟩ := H
  have e0 : q_r ((q_w σ t 3 w).1 t 0) ≠ t := by rw [q_w_ne (fun _ q => by omega)]; exact h1
  refine ⟨⟨?_, ?_, q_w_at _ _ _ _, hK, h5, ?_⟩, ?_⟩
  · rw [q_w_ne (fun _ q => by omega), q_w_ne (fun _ q => by omega)]; exact h1
  · rw [q_w_ne (fun _ q => by omega), q_w_ne (fun _ q => by omega)]; exact h2
  · rw [cu_w e0 (by omega), cu_w h1 (by omega)]; exact h6
  · rw [cb_w e0 (by omega), cb_w h1 (by omega)]
end CTK
noncomputable def p_86 (t : Nat) (x : Int32) (σ : zSg) (r : Int32) (σ' : zSg) : Prop := σ' = σ ∧ ∀ A E, cS σ t A E → ∀ k : Nat, k ≤ 900 → x = Int32.ofNat k → r.toInt = if k < E then cu σ t k else -1
theorem zJ_86 : zJ3 86 z_m86 z_c86 z_h86 := ⟨rfl, rfl, rfl⟩
theorem sp_86_et (a0 : Nat) (a1 : Int32) (σ : zSg) (h1 : a1.toInt < (0 : Int)) :
    p_86 (a0) (a1) σ (Int32.ofInt (-1)) σ := by
  refine ⟨rfl, fun A E S k hk hx => ?_⟩
  subst hx
  have hE := S.2.2.2.2.1
  simp only [S.2.1, q_ii, o32 (show k ≤ 1000 by omega), o32 (show E ≤ 1000 by omega)] at *
  rw [if_neg (by omega)]
  rfl
theorem sp_86_eft (a0 : Nat) (a1 : Int32) (σ : zSg) (h1 : a1.toInt ≥ (0 : Int)) (h2 : a1.toInt ≥ (q_i (σ.1 a0 1)).toInt) :
    p_86 (a0) (a1) σ (Int32.ofInt (-1)) σ := by
  refine ⟨rfl, fun A E S k hk hx => ?_⟩
  subst hx
  have hE := S.2.2.2.2.1
  simp only [S.2.1, q_ii, o32 (show k ≤ 1000 by omega), o32 (show E ≤ 1000 by omega)] at *
  rw [if_neg (by omega)]
  rfl
theorem sp_86_efft (a0 : Nat) (a1 : Int32) (σ : zSg) (h1 : a1.toInt ≥ (0 : Int)) (h2 : a1.toInt < (q_i (σ.1 a0 1)).toInt) (h3 : a1.toInt ≥ (400 : Int)) :
    p_86 (a0) (a1) σ (Int32.ofInt (-1)) σ := by
  refine ⟨rfl, fun A E S k hk hx => ?_⟩
  subst hx
  have hE := S.2.2.2.2.1
  simp only [S.2.1, q_ii, o32 (show k ≤ 1000 by omega), o32 (show E ≤ 1000 by omega)] at *
  rw [if_neg (by omega)]
  rfl
theorem sp_86_efff (a0 : Nat) (a1 : Int32) (σ : zSg) (h1 : a1.toInt ≥ (0 : Int)) (h2 : a1.toInt < (q_i (σ.1 a0 1)).toInt) (h3 : a1.toInt < (400 : Int)) (h4 : 0 ≤ a1.toInt ∧ a1.toInt < (σ.2.1 (q_r (σ.1 a0 0)) : Int)) :
    p_86 (a0) (a1) σ (q_i (σ.1 (q_r (σ.1 a0 0)) a1.toNatClampNeg)) σ := by
  refine ⟨rfl, fun A E S k hk hx => ?_⟩
  subst hx
  rw [S.2.1] at h2
  have h9 : (Int32.ofNat k).toInt < (Int32.ofNat E).toInt := h2
  have hE := S.2.2.2.2.1
  rw [o32 (by omega), o32 (by omega)] at h9
  rw [if_pos (by omega), o32n (by omega)]
  rfl
noncomputable def qP_86 : zPp := fun as σ o σ' => match as with
  | [a0, a1] => ∃ r, o = .inl (some (.int r)) ∧ p_86 (q_r a0) (q_i a1) σ r σ'
  | _ => True
set_option maxRecDepth 100000 in
theorem sp_86 {sx : zX}  : zEe sx 86 2 qP_86 := by
  refine zfle zJ_86 (sps := []) (fun q hq => absurd hq List.not_mem_nil) (fun as σ hl => ?_)
  match as, hl with
  | [a0, a1], _ =>
  refine ⟨[], 400, ?_, ?_⟩
  · exact fun q hq => absurd hq List.not_mem_nil
  · refine And.intro (fun h1 => ?_) (fun h1 => ?_)
    · exact ⟨_, rfl, sp_86_et (q_r a0) (q_i a1) σ (cm2t h1)⟩
    · refine And.intro (fun h2 => ?_) (fun h2 => ?_)
      · exact ⟨_, rfl, sp_86_eft (q_r a0) (q_i a1) σ (cm2f h1) (cm3t h2)⟩
      · refine And.intro (fun h3 => ?_) (fun h3 => ?_)
        · exact ⟨_, rfl, sp_86_efft (q_r a0) (q_i a1) σ (cm2f h1) (cm3f h2) (cm3t h3)⟩
        · refine fun h4 => ?_
          exact ⟨_, rfl, sp_86_efff (q_r a0) (q_i a1) σ (cm2f h1) (cm3f h2) (cm3f h3) (q_inp h4)⟩
noncomputable def p_97 (t : Nat) (σ σ' : zSg) : Prop := ∀ A E, cS σ t A E → σ' = q_w σ t 2 (.int (Int32.ofNat (zBl (cb σ t) E A)))
noncomputable def i_97 (t : Nat) (σ : zSg) (l : Nat) (τ : zSg) : Prop := l = t ∧ ∀ A E, cS σ t A E → ∃ K, K ≤ E ∧ zBl (cb σ t) E A = zBl (cb σ t) E K ∧ τ = q_w σ t 2 (.int (Int32.ofNat K))
theorem zJ_97 : zJ3 97 z_m97 z_c97 z_h97 := ⟨rfl, rfl, rfl⟩
theorem sp_97_et (a0 : Nat) (σ : zSg) (h1 : (q_i (σ.1 a0 2)).toInt ≥ (q_i (σ.1 a0 1)).toInt) :
    p_97 (a0) σ σ := by
  intro A E S
  have hE := S.2.2.2.2.1
  have hA := S.2.2.2.1
  have hz : ¬ (A < E ∧ 32 ≤ cb σ a0 A ∧ cb σ a0 A ≤ 32) := by
    rw [cb_rg S (by omega) (by omega)]
    unfold cu
    simp only [S.2.1, S.2.2.1, q_ii, o32n (show A ≤ 1000 by omega), o32 (show A ≤ 1000 by omega), o32 (show E ≤ 1000 by omega)] at *
    omega
  rw [zBl_f hz, q_w_id S.2.2.1]
theorem sp_97_eft (a0 : Nat) (σ : zSg) (h1 : (q_i (σ.1 a0 2)).toInt < (q_i (σ.1 a0 1)).toInt) (h2 : (q_i (σ.1 a0 2)).toInt ≥ (400 : Int)) :
    p_97 (a0) σ σ := by
  intro A E S
  have hE := S.2.2.2.2.1
  have hA := S.2.2.2.1
  have hz : ¬ (A < E ∧ 32 ≤ cb σ a0 A ∧ cb σ a0 A ≤ 32) := by
    rw [cb_rg S (by omega) (by omega)]
    unfold cu
    simp only [S.2.1, S.2.2.1, q_ii, o32n (show A ≤ 1000 by omega), o32 (show A ≤ 1000 by omega), o32 (show E ≤ 1000 by omega)] at *
    omega
  rw [zBl_f hz, q_w_id S.2.2.1]
theorem sp_97_efft (a0 : Nat) (σ : zSg) (h1 : (q_i (σ.1 a0 2)).toInt < (q_i (σ.1 a0 1)).toInt) (h2 : (q_i (σ.1 a0 2)).toInt < (400 : Int)) (h3 : 0 ≤ (q_i (σ.1 a0 2)).toInt ∧ (q_i (σ.1 a0 2)).toInt < (σ.2.1 (q_r (σ.1 a0 0)) : Int)) (h4 : (q_i (σ.1 (q_r (σ.1 a0 0)) (q_i (σ.1 a0 2)).toNatClampNeg)).toInt ≠ (32 : Int)) :
    p_97 (a0) σ σ := by
  intro A E S
  have hE := S.2.2.2.2.1
  have hA := S.2.2.2.1
  have hz : ¬ (A < E ∧ 32 ≤ cb σ a0 A ∧ cb σ a0 A ≤ 32) := by
    rw [cb_rg S (by omega) (by omega)]
    unfold cu
    simp only [S.2.1, S.2.2.1, q_ii, o32n (show A ≤ 1000 by omega), o32 (show A ≤ 1000 by omega), o32 (show E ≤ 1000 by omega)] at *
    omega
  rw [zBl_f hz, q_w_id S.2.2.1]
theorem sp_97_efff (a0 : Nat) (σ : zSg) (h1 : (q_i (σ.1 a0 2)).toInt < (q_i (σ.1 a0 1)).toInt) (h2 : (q_i (σ.1 a0 2)).toInt < (400 : Int)) (h3 : 0 ≤ (q_i (σ.1 a0 2)).toInt ∧ (q_i (σ.1 a0 2)).toInt < (σ.2.1 (q_r (σ.1 a0 0)) : Int)) (h4 : (q_i (σ.1 (q_r (σ.1 a0 0)) (q_i (σ.1 a0 2)).toNatClampNeg)).toInt = (32 : Int)) :
    i_97 a0 σ a0 (q_w σ a0 2 (.int ((q_i (σ.1 a0 2)) + (Int32.ofInt (1))))) := by
  refine ⟨rfl, fun A E S => ?_⟩
  have hE := S.2.2.2.2.1
  have hA := S.2.2.2.1
  have hz : (A < E ∧ 32 ≤ cb σ a0 A ∧ cb σ a0 A ≤ 32) := by
    rw [cb_rg S (by omega) (by omega)]
    unfold cu
    simp only [S.2.1, S.2.2.1, q_ii, o32n (show A ≤ 1000 by omega), o32 (show A ≤ 1000 by omega), o32 (show E ≤ 1000 by omega)] at *
    omega
  refine ⟨A + 1, by omega, zBl_t hz, ?_⟩
  rw [S.2.2.1]
  show q_w σ a0 2 (.int (Int32.ofNat A + Int32.ofInt 1)) = _
  rw [o32i (by omega)]
theorem sp_97_c0_t (a0 : Nat) (σ : zSg) (l0 : Nat) (τ : zSg) (hI : i_97 a0 σ l0 τ) (h5 : (q_i (τ.1 l0 2)).toInt ≥ (q_i (τ.1 l0 1)).toInt) :
    p_97 (a0) σ τ := by
  obtain ⟨rfl, G⟩ := hI
  intro A E S
  obtain ⟨K, k1, k2, rfl⟩ := G A E S
  have hE := S.2.2.2.2.1
  have S1 := S.at k1
  have hz : ¬ (K < E ∧ 32 ≤ cb (q_w σ l0 2 (.int (Int32.ofNat K))) l0 K ∧ cb (q_w σ l0 2 (.int (Int32.ofNat K))) l0 K ≤ 32) := by
    rw [cb_rg S1 (by omega) (by omega)]
    unfold cu
    simp only [S1.2.1, S1.2.2.1, q_ii, o32n (show K ≤ 1000 by omega), o32 (show K ≤ 1000 by omega), o32 (show E ≤ 1000 by omega)] at *
    omega
  rw [cb_w S.1 (by omega)] at hz
  rw [k2, zBl_f hz]
theorem sp_97_c0_ft (a0 : Nat) (σ : zSg) (l0 : Nat) (τ : zSg) (hI : i_97 a0 σ l0 τ) (h5 : (q_i (τ.1 l0 2)).toInt < (q_i (τ.1 l0 1)).toInt) (h6 : (q_i (τ.1 l0 2)).toInt ≥ (400 : Int)) :
    p_97 (a0) σ τ := by
  obtain ⟨rfl, G⟩ := hI
  intro A E S
  obtain ⟨K, k1, k2, rfl⟩ := G A E S
  have hE := S.2.2.2.2.1
  have S1 := S.at k1
  have hz : ¬ (K < E ∧ 32 ≤ cb (q_w σ l0 2 (.int (Int32.ofNat K))) l0 K ∧ cb (q_w σ l0 2 (.int (Int32.ofNat K))) l0 K ≤ 32) := by
    rw [cb_rg S1 (by omega) (by omega)]
    unfold cu
    simp only [S1.2.1, S1.2.2.1, q_ii, o32n (show K ≤ 1000 by omega), o32 (show K ≤ 1000 by omega), o32 (show E ≤ 1000 by omega)] at *
    omega
  rw [cb_w S.1 (by omega)] at hz
  rw [k2, zBl_f hz]
theorem sp_97_c0_fft (a0 : Nat) (σ : zSg) (l0 : Nat) (τ : zSg) (hI : i_97 a0 σ l0 τ) (h5 : (q_i (τ.1 l0 2)).toInt < (q_i (τ.1 l0 1)).toInt) (h6 : (q_i (τ.1 l0 2)).toInt < (400 : Int)) (h7 : 0 ≤ (q_i (τ.1 l0 2)).toInt ∧ (q_i (τ.1 l0 2)).toInt < (τ.2.1 (q_r (τ.1 l0 0)) : Int)) (h8 : (q_i (τ.1 (q_r (τ.1 l0 0)) (q_i (τ.1 l0 2)).toNatClampNeg)).toInt ≠ (32 : Int)) :
    p_97 (a0) σ τ := by
  obtain ⟨rfl, G⟩ := hI
  intro A E S
  obtain ⟨K, k1, k2, rfl⟩ := G A E S
  have hE := S.2.2.2.2.1
  have S1 := S.at k1
  have hz : ¬ (K < E ∧ 32 ≤ cb (q_w σ l0 2 (.int (Int32.ofNat K))) l0 K ∧ cb (q_w σ l0 2 (.int (Int32.ofNat K))) l0 K ≤ 32) := by
    rw [cb_rg S1 (by omega) (by omega)]
    unfold cu
    simp only [S1.2.1, S1.2.2.1, q_ii, o32n (show K ≤ 1000 by omega), o32 (show K ≤ 1000 by omega), o32 (show E ≤ 1000 by omega)] at *
    omega
  rw [cb_w S.1 (by omega)] at hz
  rw [k2, zBl_f hz]
theorem sp_97_c0_fff (a0 : Nat) (σ : zSg) (l0 : Nat) (τ : zSg) (hI : i_97 a0 σ l0 τ) (h5 : (q_i (τ.1 l0 2)).toInt < (q_i (τ.1 l0 1)).toInt) (h6 : (q_i (τ.1 l0 2)).toInt < (400 : Int)) (h7 : 0 ≤ (q_i (τ.1 l0 2)).toInt ∧ (q_i (τ.1 l0 2)).toInt < (τ.2.1 (q_r (τ.1 l0 0)) : Int)) (h8 : (q_i (τ.1 (q_r (τ.1 l0 0)) (q_i (τ.1 l0 2)).toNatClampNeg)).toInt = (32 : Int)) :
    i_97 a0 σ l0 (q_w τ l0 2 (.int ((q_i (τ.1 l0 2)) + (Int32.ofInt (1))))) := by
  obtain ⟨rfl, G⟩ := hI
  refine ⟨rfl, fun A E S => ?_⟩
  obtain ⟨K, k1, k2, rfl⟩ := G A E S
  have hE := S.2.2.2.2.1
  have S1 := S.at k1
  have hz : (K < E ∧ 32 ≤ cb (q_w σ l0 2 (.int (Int32.ofNat K))) l0 K ∧ cb (q_w σ l0 2 (.int (Int32.ofNat K))) l0 K ≤ 32) := by
    rw [cb_rg S1 (by omega) (by omega)]
    unfold cu
    simp only [S1.2.1, S1.2.2.1, q_ii, o32n (show K ≤ 1000 by omega), o32 (show K ≤ 1000 by omega), o32 (show E ≤ 1000 by omega)] at *
    omega
  rw [cb_w S.1 (by omega)] at hz
  refine ⟨K + 1, by omega, k2.trans (zBl_t hz), ?_⟩
  rw [q_w_at]
  show q_w (q_w σ l0 2 _) l0 2 (.int (Int32.ofNat K + Int32.ofInt 1)) = _
  rw [o32i (by omega), q_w_w]
noncomputable def qP_97 : zPp := fun as σ o σ' => match as with
  | [a0] => o = .inl none ∧ p_97 (q_r a0) σ σ'
  | _ => True
set_option maxRecDepth 100000 in
theorem sp_97 {sx : zX}  : zEe sx 97 1 qP_97 := by
  refine zfle zJ_97 (sps := []) (fun q hq => absurd hq List.not_mem_nil) (fun as σ hl => ?_)
  match as, hl with
  | [a0], _ =>
  refine ⟨[(0, fun lo st τ => st = [] ∧ i_97 (q_r a0) σ (q_r (lo 0)) τ)], 400, ?_, ?_⟩
  · intro q hq
    simp only [List.mem_cons, List.not_mem_nil, or_false] at hq
    rcases hq with rfl
    · rintro lo st τ ⟨rfl, hI⟩
      refine ⟨400, ?_⟩
      refine And.intro (fun h5 => ?_) (fun h5 => ?_)
      · exact ⟨rfl, sp_97_c0_t (q_r a0) σ (q_r (lo 0)) τ hI (cm3t h5)⟩
      · refine And.intro (fun h6 => ?_) (fun h6 => ?_)
        · exact ⟨rfl, sp_97_c0_ft (q_r a0) σ (q_r (lo 0)) τ hI (cm3f h5) (cm3t h6)⟩
        · refine fun h7 => ?_
          refine And.intro (fun h8 => ?_) (fun h8 => ?_)
          · exact ⟨rfl, sp_97_c0_fft (q_r a0) σ (q_r (lo 0)) τ hI (cm3f h5) (cm3f h6) (q_inp h7) (cm1t h8)⟩
          · exact ⟨rfl, sp_97_c0_fff (q_r a0) σ (q_r (lo 0)) τ hI (cm3f h5) (cm3f h6) (q_inp h7) (cm1f h8)⟩
  · refine And.intro (fun h1 => ?_) (fun h1 => ?_)
    · exact ⟨rfl, sp_97_et (q_r a0) σ (cm3t h1)⟩
    · refine And.intro (fun h2 => ?_) (fun h2 => ?_)
      · exact ⟨rfl, sp_97_eft (q_r a0) σ (cm3f h1) (cm3t h2)⟩
      · refine fun h3 => ?_
        refine And.intro (fun h4 => ?_) (fun h4 => ?_)
        · exact ⟨rfl, sp_97_efft (q_r a0) σ (cm3f h1) (cm3f h2) (q_inp h3) (cm1t h4)⟩
        · exact ⟨rfl, sp_97_efff (q_r a0) σ (cm3f h1) (cm3f h2) (q_inp h3) (cm1f h4)⟩
noncomputable def p_87 (t : Nat) (σ σ' : zSg) : Prop := ∀ E, cS0 σ t E → σ' = q_w (q_w σ t 3 (.int (Int32.ofInt (-1)))) t 2 (.int (Int32.ofNat (zBl (cb σ t) E 0)))
noncomputable def p_88 (t : Nat) (σ : zSg) (r : Int32) (σ' : zSg) : Prop := σ' = σ ∧ r = q_i (σ.1 t 3)
noncomputable def p_89 (t : Nat) (σ : zSg) (r : Int32) (σ' : zSg) : Prop := σ' = σ ∧ ∀ A E, cS σ t A E → (r.toInt ≠ 0 ↔ (q_i (σ.1 t 3)).toInt = -1 ∧ A < E)
noncomputable def p_90 (t : Nat) (σ σ' : zSg) : Prop := ((q_i (σ.1 t 3)).toInt ≠ -1 → σ' = σ) ∧ ((q_i (σ.1 t 3)).toInt = -1 → σ' = q_w σ t 3 (.int (q_i (σ.1 t 2))))
noncomputable def p_98 (x : Int32) (σ : zSg) (r : Int32) (σ' : zSg) : Prop := σ' = σ ∧ (r.toInt ≠ 0 ↔ 97 ≤ x.toInt ∧ x.toInt ≤ 122)
noncomputable def p_99 (x : Int32) (σ : zSg) (r : Int32) (σ' : zSg) : Prop := σ' = σ ∧ (r.toInt ≠ 0 ↔ 48 ≤ x.toInt ∧ x.toInt ≤ 57)
theorem zJ_87 : zJ3 87 z_m87 z_c87 z_h87 := ⟨rfl, rfl, rfl⟩
theorem zJ_88 : zJ3 88 z_m88 z_c88 z_h88 := ⟨rfl, rfl, rfl⟩
theorem zJ_89 : zJ3 89 z_m89 z_c89 z_h89 := ⟨rfl, rfl, rfl⟩
theorem zJ_90 : zJ3 90 z_m90 z_c90 z_h90 := ⟨rfl, rfl, rfl⟩
theorem zJ_98 : zJ3 98 z_m98 z_c98 z_h98 := ⟨rfl, rfl, rfl⟩
theorem zJ_99 : zJ3 99 z_m99 z_c99 z_h99 := ⟨rfl, rfl, rfl⟩
theorem sp_87_e (a0 : Nat) (σ : zSg) (τ1 : zSg) (g1 : p_97 a0 (q_w (q_w σ a0 2 (.int (Int32.ofInt (0)))) a0 3 (.int (Int32.ofInt (-1)))) τ1) :
    p_87 (a0) σ τ1 := by
  intro E S
  have e : q_w (q_w σ a0 2 (.int (Int32.ofInt (0)))) a0 3 (.int (Int32.ofInt (-1))) = q_w (q_w σ a0 3 (.int (Int32.ofInt (-1)))) a0 2 (.int (Int32.ofNat 0)) := q_w_cm (fun _ q => by omega)
  rw [e] at g1
  obtain ⟨S0, b0⟩ := S.mk (w := .int (Int32.ofInt (-1))) (Nat.zero_le E)
  have h9 := g1 0 E S0
  rw [b0] at h9
  rw [h9, q_w_w]
noncomputable def qP_87 : zPp := fun as σ o σ' => match as with
  | [a0] => o = .inl none ∧ p_87 (q_r a0) σ σ'
  | _ => True
set_option maxRecDepth 100000 in
theorem sp_87 {sx : zX} (S97 : zEe sx 97 1 qP_97) : zEe sx 87 1 qP_87 := by
  refine zfle zJ_87 (sps := [(97, 1, qP_97)]) (fun q hq => by
    simp only [List.mem_cons, List.not_mem_nil, or_false] at hq
    rcases hq with rfl
    · exact S97) (fun as σ hl => ?_)
  match as, hl with
  | [a0], _ =>
  refine ⟨[], 400, ?_, ?_⟩
  · exact fun q hq => absurd hq List.not_mem_nil
  · refine fun o1 τ1 g1 => ?_
    obtain ⟨rfl, g1⟩ := g1
    exact ⟨rfl, sp_87_e (q_r a0) σ τ1 g1⟩
theorem sp_88_e (a0 : Nat) (σ : zSg)  :
    p_88 (a0) σ (q_i (σ.1 a0 3)) σ := by
  exact ⟨rfl, rfl⟩
noncomputable def qP_88 : zPp := fun as σ o σ' => match as with
  | [a0] => ∃ r, o = .inl (some (.int r)) ∧ p_88 (q_r a0) σ r σ'
  | _ => True
set_option maxRecDepth 100000 in
theorem sp_88 {sx : zX}  : zEe sx 88 1 qP_88 := by
  refine zfle zJ_88 (sps := []) (fun q hq => absurd hq List.not_mem_nil) (fun as σ hl => ?_)
  match as, hl with
  | [a0], _ =>
  refine ⟨[], 400, ?_, ?_⟩
  · exact fun q hq => absurd hq List.not_mem_nil
  · exact ⟨_, rfl, sp_88_e (q_r a0) σ ⟩
theorem sp_89_et (a0 : Nat) (σ : zSg) (h1 : (q_i (σ.1 a0 3)).toInt ≠ (-1 : Int)) :
    p_89 (a0) σ (Int32.ofInt (0)) σ := by
  refine ⟨rfl, fun A E S => ?_⟩
  have hE := S.2.2.2.2.1
  have hA := S.2.2.2.1
  have c0 : (Int32.ofInt 0).toInt = 0 := rfl
  have c1 : (Int32.ofInt 1).toInt = 1 := rfl
  try simp only [S.2.1, S.2.2.1, q_ii, o32 (show A ≤ 1000 by omega), o32 (show E ≤ 1000 by omega)] at *
  omega
theorem sp_89_eft (a0 : Nat) (σ : zSg) (h1 : (q_i (σ.1 a0 3)).toInt = (-1 : Int)) (h2 : (q_i (σ.1 a0 2)).toInt ≥ (q_i (σ.1 a0 1)).toInt) :
    p_89 (a0) σ (Int32.ofInt (0)) σ := by
  refine ⟨rfl, fun A E S => ?_⟩
  have hE := S.2.2.2.2.1
  have hA := S.2.2.2.1
  have c0 : (Int32.ofInt 0).toInt = 0 := rfl
  have c1 : (Int32.ofInt 1).toInt = 1 := rfl
  try simp only [S.2.1, S.2.2.1, q_ii, o32 (show A ≤ 1000 by omega), o32 (show E ≤ 1000 by omega)] at *
  omega
theorem sp_89_eff (a0 : Nat) (σ : zSg) (h1 : (q_i (σ.1 a0 3)).toInt = (-1 : Int)) (h2 : (q_i (σ.1 a0 2)).toInt < (q_i (σ.1 a0 1)).toInt) :
    p_89 (a0) σ (Int32.ofInt (1)) σ := by
  refine ⟨rfl, fun A E S => ?_⟩
  have hE := S.2.2.2.2.1
  have hA := S.2.2.2.1
  have c0 : (Int32.ofInt 0).toInt = 0 := rfl
  have c1 : (Int32.ofInt 1).toInt = 1 := rfl
  try simp only [S.2.1, S.2.2.1, q_ii, o32 (show A ≤ 1000 by omega), o32 (show E ≤ 1000 by omega)] at *
  omega
noncomputable def qP_89 : zPp := fun as σ o σ' => match as with
  | [a0] => ∃ r, o = .inl (some (.int r)) ∧ p_89 (q_r a0) σ r σ'
  | _ => True
set_option maxRecDepth 100000 in
theorem sp_89 {sx : zX}  : zEe sx 89 1 qP_89 := by
  refine zfle zJ_89 (sps := []) (fun q hq => absurd hq List.not_mem_nil) (fun as σ hl => ?_)
  match as, hl with
  | [a0], _ =>
  refine ⟨[], 400, ?_, ?_⟩
  · exact fun q hq => absurd hq List.not_mem_nil
  · refine And.intro (fun h1 => ?_) (fun h1 => ?_)
    · exact ⟨_, rfl, sp_89_et (q_r a0) σ (cm1t h1)⟩
    · refine And.intro (fun h2 => ?_) (fun h2 => ?_)
      · exact ⟨_, rfl, sp_89_eft (q_r a0) σ (cm1f h1) (cm3t h2)⟩
      · exact ⟨_, rfl, sp_89_eff (q_r a0) σ (cm1f h1) (cm3f h2)⟩
theorem sp_90_et (a0 : Nat) (σ : zSg) (h1 : (q_i (σ.1 a0 3)).toInt ≠ (-1 : Int)) :
    p_90 (a0) σ σ := by
  exact ⟨fun _ => rfl, fun h => absurd h h1⟩
theorem sp_90_ef (a0 : Nat) (σ : zSg) (h1 : (q_i (σ.1 a0 3)).toInt = (-1 : Int)) :
    p_90 (a0) σ (q_w σ a0 3 (.int (q_i (σ.1 a0 2)))) := by
  exact ⟨fun h => absurd h1 h, fun _ => rfl⟩
noncomputable def qP_90 : zPp := fun as σ o σ' => match as with
  | [a0] => o = .inl none ∧ p_90 (q_r a0) σ σ'
  | _ => True
set_option maxRecDepth 100000 in
theorem sp_90 {sx : zX}  : zEe sx 90 1 qP_90 := by
  refine zfle zJ_90 (sps := []) (fun q hq => absurd hq List.not_mem_nil) (fun as σ hl => ?_)
  match as, hl with
  | [a0], _ =>
  refine ⟨[], 400, ?_, ?_⟩
  · exact fun q hq => absurd hq List.not_mem_nil
  · refine And.intro (fun h1 => ?_) (fun h1 => ?_)
    · exact ⟨rfl, sp_90_et (q_r a0) σ (cm1t h1)⟩
    · exact ⟨rfl, sp_90_ef (q_r a0) σ (cm1f h1)⟩
theorem sp_98_et (a0 : Int32) (σ : zSg) (h1 : a0.toInt < (97 : Int)) :
    p_98 (a0) σ (Int32.ofInt (0)) σ := by
  refine ⟨rfl, ?_⟩
  have c0 : (Int32.ofInt 0).toInt = 0 := rfl
  have c1 : (Int32.ofInt 1).toInt = 1 := rfl
  omega
theorem sp_98_eft (a0 : Int32) (σ : zSg) (h1 : a0.toInt ≥ (97 : Int)) (h2 : a0.toInt > (122 : Int)) :
    p_98 (a0) σ (Int32.ofInt (0)) σ := by
  refine ⟨rfl, ?_⟩
  have c0 : (Int32.ofInt 0).toInt = 0 := rfl
  have c1 : (Int32.ofInt 1).toInt = 1 := rfl
  omega
theorem sp_98_eff (a0 : Int32) (σ : zSg) (h1 : a0.toInt ≥ (97 : Int)) (h2 : a0.toInt ≤ (122 : Int)) :
    p_98 (a0) σ (Int32.ofInt (1)) σ := by
  refine ⟨rfl, ?_⟩
  have c0 : (Int32.ofInt 0).toInt = 0 := rfl
  have c1 : (Int32.ofInt 1).toInt = 1 := rfl
  omega
noncomputable def qP_98 : zPp := fun as σ o σ' => match as with
  | [a0] => ∃ r, o = .inl (some (.int r)) ∧ p_98 (q_i a0) σ r σ'
  | _ => True
set_option maxRecDepth 100000 in
theorem sp_98 {sx : zX}  : zEe sx 98 1 qP_98 := by
  refine zfle zJ_98 (sps := []) (fun q hq => absurd hq List.not_mem_nil) (fun as σ hl => ?_)
  match as, hl with
  | [a0], _ =>
  refine ⟨[], 400, ?_, ?_⟩
  · exact fun q hq => absurd hq List.not_mem_nil
  · refine And.intro (fun h1 => ?_) (fun h1 => ?_)
    · exact ⟨_, rfl, sp_98_et (q_i a0) σ (cm2t h1)⟩
    · refine And.intro (fun h2 => ?_) (fun h2 => ?_)
      · exact ⟨_, rfl, sp_98_eft (q_i a0) σ (cm2f h1) (cm4t h2)⟩
      · exact ⟨_, rfl, sp_98_eff (q_i a0) σ (cm2f h1) (cm4f h2)⟩
theorem sp_99_et (a0 : Int32) (σ : zSg) (h1 : a0.toInt < (48 : Int)) :
    p_99 (a0) σ (Int32.ofInt (0)) σ := by
  refine ⟨rfl, ?_⟩
  have c0 : (Int32.ofInt 0).toInt = 0 := rfl
  have c1 : (Int32.ofInt 1).toInt = 1 := rfl
  omega
theorem sp_99_eft (a0 : Int32) (σ : zSg) (h1 : a0.toInt ≥ (48 : Int)) (h2 : a0.toInt > (57 : Int)) :
    p_99 (a0) σ (Int32.ofInt (0)) σ := by
  refine ⟨rfl, ?_⟩
  have c0 : (Int32.ofInt 0).toInt = 0 := rfl
  have c1 : (Int32.ofInt 1).toInt = 1 := rfl
  omega
theorem sp_99_eff (a0 : Int32) (σ : zSg) (h1 : a0.toInt ≥ (48 : Int)) (h2 : a0.toInt ≤ (57 : Int)) :
    p_99 (a0) σ (Int32.ofInt (1)) σ := by
  refine ⟨rfl, ?_⟩
  have c0 : (Int32.ofInt 0).toInt = 0 := rfl
  have c1 : (Int32.ofInt 1).toInt = 1 := rfl
  omega
noncomputable def qP_99 : zPp := fun as σ o σ' => match as with
  | [a0] => ∃ r, o = .inl (some (.int r)) ∧ p_99 (q_i a0) σ r σ'
  | _ => True
set_option maxRecDepth 100000 in
theorem sp_99 {sx : zX}  : zEe sx 99 1 qP_99 := by
  refine zfle zJ_99 (sps := []) (fun q hq => absurd hq List.not_mem_nil) (fun as σ hl => ?_)
  match as, hl with
  | [a0], _ =>
  refine ⟨[], 400, ?_, ?_⟩
  · exact fun q hq => absurd hq List.not_mem_nil
  · refine And.intro (fun h1 => ?_) (fun h1 => ?_)
    · exact ⟨_, rfl, sp_99_et (q_i a0) σ (cm2t h1)⟩
    · refine And.intro (fun h2 => ?_) (fun h2 => ?_)
      · exact ⟨_, rfl, sp_99_eft (q_i a0) σ (cm2f h1) (cm4t h2)⟩
      · exact ⟨_, rfl, sp_99_eff (q_i a0) σ (cm2f h1) (cm4f h2)⟩
noncomputable def zwk (w : Nat) : Prop := (q_s w).length ≤ 100 ∧ ∀ k, k < (q_s w).length → 97 ≤ (q_si w).getD k 0 ∧ (q_si w).getD k 0 ≤ 122
theorem zWa_iff {b : Nat → Int} {E w A : Nat} (hw : zwk w) (hA : A ≤ E) : zWa b E (q_si w) A ↔ A + (q_s w).length ≤ E ∧ ¬ (A + (q_s w).length < E ∧ 97 ≤ b (A + (q_s w).length) ∧ b (A + (q_s w).length) ≤ 122) ∧ ∀ k, k < (q_s w).length → b (A + k) = (q_si w).getD k 0 := by
  unfold zWa zWd
  rw [q_si_len]
  constructor
  · rintro ⟨h1, h2⟩
    have g1 := zRn_le (b := b) (lo := 97) (hi := 122) hA
    have g2 := zRn_end (b := b) (E := E) (lo := 97) (hi := 122) (P := A)
    have e : zRn b E 97 122 A = A + (q_s w).length := h1
    rw [e] at g1 g2
    exact ⟨g1, g2, h2⟩
  · rintro ⟨h1, h2, h3⟩
    refine ⟨zRn_uniq (by omega) (fun k k1 k2 => ?_) h2, h3⟩
    have := h3 (k - A) (by omega)
    have h4 := hw.2 (k - A) (by omega)
    rw [show A + (k - A) = k by omega] at this
    omega
noncomputable def p_91 (t w : Nat) (σ : zSg) (r : Int32) (σ' : zSg) : Prop := ∀ A E, cS σ t A E → zwk w → (r.toInt ≠ 0 ∧ (q_i (σ.1 t 3)).toInt = -1 ∧ zWa (cb σ t) E (q_si w) A ∧ σ' = q_w σ t 2 (.int (Int32.ofNat (zBl (cb σ t) E (A + (q_s w).length))))) ∨ (r.toInt = 0 ∧ ((q_i (σ.1 t 3)).toInt = -1 → ¬ zWa (cb σ t) E (q_si w) A) ∧ σ' = σ)
noncomputable def i_91 (t w : Nat) (σ : zSg) (l0 l1 : Nat) (bh k : Int32) (τ : zSg) : Prop := l0 = t ∧ l1 = w ∧ τ = σ ∧ (q_i (σ.1 t 3)).toInt = -1 ∧ ∀ A E, cS σ t A E → zwk w → bh = Int32.ofNat (A + (q_s w).length) ∧ A + (q_s w).length ≤ E ∧ ¬ (A + (q_s w).length < E ∧ 97 ≤ cb σ t (A + (q_s w).length) ∧ cb σ t (A + (q_s w).length) ≤ 122) ∧ ∃ K : Nat, k = Int32.ofNat K ∧ K ≤ (q_s w).length ∧ ∀ j, j < K → cb σ t (A + j) = (q_si w).getD j 0
theorem o32a {m n : Nat} (h : m + n ≤ 1000) : Int32.ofNat m + Int32.ofNat n = Int32.ofNat (m + n) := by
  refine Int32.toInt_inj.mp ?_
  rw [zI_add (o32 (by omega)) (o32 (by omega)) (by omega) (by omega), o32 (by omega)]
  omega
theorem zJ_91 : zJ3 91 z_m91 z_c91 z_h91 := ⟨rfl, rfl, rfl⟩
theorem sp_91_et (a0 : Nat) (a1 : Nat) (σ : zSg) (h1 : (q_i (σ.1 a0 3)).toInt ≠ (-1 : Int)) :
    p_91 (a0) (a1) σ (Int32.ofInt (0)) σ := by
  intro A E S hw
  have hE := S.2.2.2.2.1
  have hA := S.2.2.2.1
  have hl := hw.1
  exact Or.inr ⟨rfl, fun h => absurd h h1, rfl⟩
theorem sp_91_eft (a0 : Nat) (a1 : Nat) (σ : zSg) (h1 : (q_i (σ.1 a0 3)).toInt = (-1 : Int)) (h2 : ((q_i (σ.1 a0 2)) + (Int32.ofNat (q_s a1).length)).toInt > (q_i (σ.1 a0 1)).toInt) :
    p_91 (a0) (a1) σ (Int32.ofInt (0)) σ := by
  intro A E S hw
  have hE := S.2.2.2.2.1
  have hA := S.2.2.2.1
  have hl := hw.1
  have h9 : (Int32.ofNat A + Int32.ofNat (q_s a1).length).toInt > (Int32.ofNat E).toInt := by
    have := h2
    rw [S.2.1, S.2.2.1] at this
    exact this
  rw [o32a (by omega), o32 (by omega), o32 (by omega)] at h9
  exact Or.inr ⟨rfl, fun _ q => by have := ((zWa_iff hw hA).mp q).1; omega, rfl⟩
theorem sp_91_efft (a0 : Nat) (a1 : Nat) (σ : zSg) (τ3 : zSg) (r3 : Int32) (τ4 : zSg) (r4 : Int32) (h1 : (q_i (σ.1 a0 3)).toInt = (-1 : Int)) (h2 : ((q_i (σ.1 a0 2)) + (Int32.ofNat (q_s a1).length)).toInt ≤ (q_i (σ.1 a0 1)).toInt) (g3 : p_86 a0 ((q_i (σ.1 a0 2)) + (Int32.ofNat (q_s a1).length)) σ r3 τ3) (g4 : p_98 r3 τ3 r4 τ4) (h5 : r4.toInt = (0 : Int)) :
    i_91 a0 a1 σ a0 a1 ((q_i (σ.1 a0 2)) + (Int32.ofNat (q_s a1).length)) (Int32.ofInt (0)) τ4 := by
  obtain ⟨rfl, g1⟩ := g3
  obtain ⟨rfl, g2⟩ := g4
  refine ⟨rfl, rfl, rfl, h1, fun A E S hw => ?_⟩
  have hE := S.2.2.2.2.1
  have hA := S.2.2.2.1
  have hl := hw.1
  have h9 : (Int32.ofNat A + Int32.ofNat (q_s a1).length).toInt ≤ (Int32.ofNat E).toInt := by
    have := h2
    rw [S.2.1, S.2.2.1] at this
    exact this
  have e : q_i (τ4.1 a0 2) + Int32.ofNat (q_s a1).length = Int32.ofNat (A + (q_s a1).length) := by
    rw [S.2.2.1]
    exact o32a (by omega)
  have g3 := g1 A E S (A + (q_s a1).length) (by omega) e
  rw [o32a (by omega), o32 (by omega), o32 (by omega)] at h9
  refine ⟨e, by omega, fun q => ?_, 0, rfl, Nat.zero_le _, fun j hj => absurd hj (by omega)⟩
  rw [if_pos q.1] at g3
  have := (cb_rg S (by omega) (by omega)).mp q.2
  exact (g2.mpr (by omega)) h5
theorem sp_91_efff (a0 : Nat) (a1 : Nat) (σ : zSg) (τ3 : zSg) (r3 : Int32) (τ4 : zSg) (r4 : Int32) (h1 : (q_i (σ.1 a0 3)).toInt = (-1 : Int)) (h2 : ((q_i (σ.1 a0 2)) + (Int32.ofNat (q_s a1).length)).toInt ≤ (q_i (σ.1 a0 1)).toInt) (g3 : p_86 a0 ((q_i (σ.1 a0 2)) + (Int32.ofNat (q_s a1).length)) σ r3 τ3) (g4 : p_98 r3 τ3 r4 τ4) (h5 : r4.toInt ≠ (0 : Int)) :
    p_91 (a0) (a1) σ (Int32.ofInt (0)) τ4 := by
  intro A E S hw
  have hE := S.2.2.2.2.1
  have hA := S.2.2.2.1
  have hl := hw.1
  obtain ⟨rfl, g1⟩ := g3
  obtain ⟨rfl, g2⟩ := g4
  have e : q_i (τ4.1 a0 2) + Int32.ofNat (q_s a1).length = Int32.ofNat (A + (q_s a1).length) := by
    rw [S.2.2.1]
    exact o32a (by omega)
  have g3 := g1 A E S (A + (q_s a1).length) (by omega) e
  have g4 := g2.mp h5
  refine Or.inr ⟨rfl, fun _ q => ?_, rfl⟩
  have q2 := ((zWa_iff hw hA).mp q).2.1
  split at g3
  · next hlt => exact q2 ⟨hlt, (cb_rg S (by omega) (by omega)).mpr (by omega)⟩
  · omega
theorem sp_91_c23_t (a0 : Nat) (a1 : Nat) (σ : zSg) (l0 : Nat) (l1 : Nat) (l2 : Int32) (l3 : Int32) (τ : zSg) (τ7 : zSg) (hI : i_91 a0 a1 σ l0 l1 l2 l3 τ) (h6 : l3.toInt ≥ (Int32.ofNat (q_s l1).length).toInt) (g7 : p_97 l0 (q_w τ l0 2 (.int l2)) τ7) :
    p_91 (a0) (a1) σ (Int32.ofInt (1)) τ7 := by
  obtain ⟨rfl, rfl, rfl, hn, G⟩ := hI
  intro A E S hw
  have hE := S.2.2.2.2.1
  have hA := S.2.2.2.1
  have hl := hw.1
  obtain ⟨rfl, k1, k2, K, rfl, k3, k4⟩ := G A E S hw
  rw [o32 (by omega), o32 (by omega)] at h6
  have hz : zWa (cb τ l0) E (q_si l1) A := (zWa_iff hw hA).mpr ⟨k1, k2, fun j hj => k4 j (by omega)⟩
  refine Or.inl ⟨by decide, hn, hz, ?_⟩
  rw [g7 _ E (S.at k1), cb_w S.1 (by omega), q_w_w]
theorem sp_91_c23_ft (a0 : Nat) (a1 : Nat) (σ : zSg) (l0 : Nat) (l1 : Nat) (l2 : Int32) (l3 : Int32) (τ : zSg) (τ8 : zSg) (r8 : Int32) (hI : i_91 a0 a1 σ l0 l1 l2 l3 τ) (h6 : l3.toInt < (Int32.ofNat (q_s l1).length).toInt) (g8 : p_86 l0 ((q_i (τ.1 l0 2)) + l3) τ r8 τ8) (h9 : 0 ≤ l3.toInt ∧ l3.toInt < ((q_s l1).length : Int)) (h10 : r8.toInt = (((q_s l1).getD l3.toNatClampNeg 0) &&& 255).toInt) :
    i_91 a0 a1 σ l0 l1 l2 (l3 + Int32.ofInt (1)) τ8 := by
  obtain ⟨rfl, rfl, rfl, hn, G⟩ := hI
  obtain ⟨rfl, g1⟩ := g8
  refine ⟨rfl, rfl, rfl, hn, fun A E S hw => ?_⟩
  have hE := S.2.2.2.2.1
  have hA := S.2.2.2.1
  have hl := hw.1
  obtain ⟨rfl, k1, k2, K, rfl, k3, k4⟩ := G A E S hw
  rw [o32 (by omega), o32 (by omega)] at h6
  have g3 := g1 A E S (A + K) (by omega) (by rw [S.2.2.1]; exact o32a (by omega))
  rw [if_pos (by omega)] at g3
  rw [o32n (by omega), ← q_si_at (by omega), g3] at h10
  refine ⟨rfl, k1, k2, K + 1, by rw [← o32i (by omega)], by omega, fun j hj => ?_⟩
  by_cases hj2 : j = K
  · subst hj2
    have := hw.2 j (by omega)
    exact (cb_eq S (by omega) (by omega)).mpr h10
  · exact k4 j (by omega)
theorem sp_91_c23_ff (a0 : Nat) (a1 : Nat) (σ : zSg) (l0 : Nat) (l1 : Nat) (l2 : Int32) (l3 : Int32) (τ : zSg) (τ8 : zSg) (r8 : Int32) (hI : i_91 a0 a1 σ l0 l1 l2 l3 τ) (h6 : l3.toInt < (Int32.ofNat (q_s l1).length).toInt) (g8 : p_86 l0 ((q_i (τ.1 l0 2)) + l3) τ r8 τ8) (h9 : 0 ≤ l3.toInt ∧ l3.toInt < ((q_s l1).length : Int)) (h10 : r8.toInt ≠ (((q_s l1).getD l3.toNatClampNeg 0) &&& 255).toInt) :
    p_91 (a0) (a1) σ (Int32.ofInt (0)) τ8 := by
  obtain ⟨rfl, rfl, rfl, hn, G⟩ := hI
  obtain ⟨rfl, g1⟩ := g8
  intro A E S hw
  have hE := S.2.2.2.2.1
  have hA := S.2.2.2.1
  have hl := hw.1
  obtain ⟨rfl, k1, k2, K, rfl, k3, k4⟩ := G A E S hw
  rw [o32 (by omega), o32 (by omega)] at h6
  have g3 := g1 A E S (A + K) (by omega) (by rw [S.2.2.1]; exact o32a (by omega))
  rw [if_pos (by omega)] at g3
  rw [o32n (by omega), ← q_si_at (by omega), g3] at h10
  refine Or.inr ⟨rfl, fun _ q => ?_, rfl⟩
  have := hw.2 K (by omega)
  exact h10 ((cb_eq S (by omega) (by omega)).mp (((zWa_iff hw hA).mp q).2.2 K (by omega)))
noncomputable def qP_91 : zPp := fun as σ o σ' => match as with
  | [a0, a1] => ∃ r, o = .inl (some (.int r)) ∧ p_91 (q_r a0) (q_r a1) σ r σ'
  | _ => True
set_option maxRecDepth 100000 in
theorem sp_91 {sx : zX} (S86 : zEe sx 86 2 qP_86) (S98 : zEe sx 98 1 qP_98) (S97 : zEe sx 97 1 qP_97) : zEe sx 91 2 qP_91 := by
  refine zfle zJ_91 (sps := [(86, 2, qP_86), (98, 1, qP_98), (97, 1, qP_97)]) (fun q hq => by
    simp only [List.mem_cons, List.not_mem_nil, or_false] at hq
    rcases hq with rfl | rfl | rfl
    · exact S86
    · exact S98
    · exact S97) (fun as σ hl => ?_)
  match as, hl with
  | [a0, a1], _ =>
  refine ⟨[(23, fun lo st τ => st = [] ∧ i_91 (q_r a0) (q_r a1) σ (q_r (lo 0)) (q_r (lo 1)) (q_i (lo 2)) (q_i (lo 3)) τ)], 400, ?_, ?_⟩
  · intro q hq
    simp only [List.mem_cons, List.not_mem_nil, or_false] at hq
    rcases hq with rfl
    · rintro lo st τ ⟨rfl, hI⟩
      refine ⟨400, ?_⟩
      refine And.intro (fun h6 => ?_) (fun h6 => ?_)
      · refine fun o7 τ7 g7 => ?_
        obtain ⟨rfl, g7⟩ := g7
        exact ⟨_, rfl, sp_91_c23_t (q_r a0) (q_r a1) σ (q_r (lo 0)) (q_r (lo 1)) (q_i (lo 2)) (q_i (lo 3)) τ τ7 hI (cm3t h6) g7⟩
      · refine fun o8 τ8 g8 => ?_
        obtain ⟨r8, rfl, g8⟩ := g8
        refine fun h9 => ?_
        refine And.intro (fun h10 => ?_) (fun h10 => ?_)
        · exact ⟨rfl, sp_91_c23_ft (q_r a0) (q_r a1) σ (q_r (lo 0)) (q_r (lo 1)) (q_i (lo 2)) (q_i (lo 3)) τ τ8 r8 hI (cm3f h6) g8 (q_inp h9) (cm0t h10)⟩
        · exact ⟨_, rfl, sp_91_c23_ff (q_r a0) (q_r a1) σ (q_r (lo 0)) (q_r (lo 1)) (q_i (lo 2)) (q_i (lo 3)) τ τ8 r8 hI (cm3f h6) g8 (q_inp h9) (cm0f h10)⟩
  · refine And.intro (fun h1 => ?_) (fun h1 => ?_)
    · exact ⟨_, rfl, sp_91_et (q_r a0) (q_r a1) σ (cm1t h1)⟩
    · refine And.intro (fun h2 => ?_) (fun h2 => ?_)
      · exact ⟨_, rfl, sp_91_eft (q_r a0) (q_r a1) σ (cm1f h1) (cm4t h2)⟩
      · refine fun o3 τ3 g3 => ?_
        obtain ⟨r3, rfl, g3⟩ := g3
        refine fun o4 τ4 g4 => ?_
        obtain ⟨r4, rfl, g4⟩ := g4
        refine And.intro (fun h5 => ?_) (fun h5 => ?_)
        · exact ⟨rfl, sp_91_efft (q_r a0) (q_r a1) σ τ3 r3 τ4 r4 (cm1f h1) (cm4f h2) g3 g4 (cm0t h5)⟩
        · exact ⟨_, rfl, sp_91_efff (q_r a0) (q_r a1) σ τ3 r3 τ4 r4 (cm1f h1) (cm4f h2) g3 g4 (cm0f h5)⟩
noncomputable def p_92 (t w : Nat) (σ σ' : zSg) : Prop := ∀ A E, cS σ t A E → zwk w → ((q_i (σ.1 t 3)).toInt = -1 → (zWa (cb σ t) E (q_si w) A → σ' = q_w σ t 2 (.int (Int32.ofNat (zBl (cb σ t) E (A + (q_s w).length))))) ∧ (¬ zWa (cb σ t) E (q_si w) A → σ' = q_w σ t 3 (.int (Int32.ofNat A)))) ∧ ((q_i (σ.1 t 3)).toInt ≠ -1 → σ' = σ)
noncomputable def p_93 (t : Nat) (c : Int32) (σ : zSg) (r : Int32) (σ' : zSg) : Prop := ∀ A E, cS σ t A E → 0 ≤ c.toInt → c.toInt ≤ 127 → (r.toInt ≠ 0 ∧ (q_i (σ.1 t 3)).toInt = -1 ∧ (A < E ∧ cb σ t A = c.toInt) ∧ σ' = q_w σ t 2 (.int (Int32.ofNat (zBl (cb σ t) E (A + 1))))) ∨ (r.toInt = 0 ∧ ((q_i (σ.1 t 3)).toInt = -1 → ¬ (A < E ∧ cb σ t A = c.toInt)) ∧ σ' = σ)
noncomputable def p_94 (t : Nat) (c : Int32) (σ σ' : zSg) : Prop := ∀ A E, cS σ t A E → 0 ≤ c.toInt → c.toInt ≤ 127 → ((q_i (σ.1 t 3)).toInt = -1 → ((A < E ∧ cb σ t A = c.toInt) → σ' = q_w σ t 2 (.int (Int32.ofNat (zBl (cb σ t) E (A + 1))))) ∧ (¬ (A < E ∧ cb σ t A = c.toInt) → σ' = q_w σ t 3 (.int (Int32.ofNat A)))) ∧ ((q_i (σ.1 t 3)).toInt ≠ -1 → σ' = σ)
noncomputable def p_95 (t : Nat) (σ : zSg) (r : Int32) (σ' : zSg) : Prop := σ' = σ ∧ ∀ A E, cS σ t A E → (r.toInt ≠ 0 ↔ (q_i (σ.1 t 3)).toInt = -1 ∧ A < E ∧ 48 ≤ cb σ t A ∧ cb σ t A ≤ 57)
theorem zJ_92 : zJ3 92 z_m92 z_c92 z_h92 := ⟨rfl, rfl, rfl⟩
theorem zJ_93 : zJ3 93 z_m93 z_c93 z_h93 := ⟨rfl, rfl, rfl⟩
theorem zJ_94 : zJ3 94 z_m94 z_c94 z_h94 := ⟨rfl, rfl, rfl⟩
theorem zJ_95 : zJ3 95 z_m95 z_c95 z_h95 := ⟨rfl, rfl, rfl⟩
theorem sp_92_et (a0 : Nat) (a1 : Nat) (σ : zSg) (τ1 : zSg) (r1 : Int32) (g1 : p_91 a0 a1 σ r1 τ1) (h2 : r1.toInt ≠ (0 : Int)) :
    p_92 (a0) (a1) σ τ1 := by
  intro A E S hw
  rcases g1 A E S hw with ⟨g1, g2, g3, g4⟩ | ⟨g1, -⟩
  · exact ⟨fun _ => ⟨fun _ => g4, fun q => absurd g3 q⟩, fun q => absurd g2 q⟩
  · exact absurd g1 h2
theorem sp_92_ef (a0 : Nat) (a1 : Nat) (σ : zSg) (τ1 : zSg) (r1 : Int32) (τ3 : zSg) (g1 : p_91 a0 a1 σ r1 τ1) (h2 : r1.toInt = (0 : Int)) (g3 : p_90 a0 τ1 τ3) :
    p_92 (a0) (a1) σ τ3 := by
  intro A E S hw
  rcases g1 A E S hw with ⟨g1, -⟩ | ⟨g1, g2, rfl⟩
  · exact absurd h2 g1
  · refine ⟨fun hn => ⟨fun q => absurd q (g2 hn), fun _ => ?_⟩, fun hn => g3.1 hn⟩
    rw [g3.2 hn, S.2.2.1]
    rfl
noncomputable def qP_92 : zPp := fun as σ o σ' => match as with
  | [a0, a1] => o = .inl none ∧ p_92 (q_r a0) (q_r a1) σ σ'
  | _ => True
set_option maxRecDepth 100000 in
theorem sp_92 {sx : zX} (S91 : zEe sx 91 2 qP_91) (S90 : zEe sx 90 1 qP_90) : zEe sx 92 2 qP_92 := by
  refine zfle zJ_92 (sps := [(91, 2, qP_91), (90, 1, qP_90)]) (fun q hq => by
    simp only [List.mem_cons, List.not_mem_nil, or_false] at hq
    rcases hq with rfl | rfl
    · exact S91
    · exact S90) (fun as σ hl => ?_)
  match as, hl with
  | [a0, a1], _ =>
  refine ⟨[], 400, ?_, ?_⟩
  · exact fun q hq => absurd hq List.not_mem_nil
  · refine fun o1 τ1 g1 => ?_
    obtain ⟨r1, rfl, g1⟩ := g1
    refine And.intro (fun h2 => ?_) (fun h2 => ?_)
    · exact ⟨rfl, sp_92_et (q_r a0) (q_r a1) σ τ1 r1 g1 (cm1t h2)⟩
    · refine fun o3 τ3 g3 => ?_
      obtain ⟨rfl, g3⟩ := g3
      exact ⟨rfl, sp_92_ef (q_r a0) (q_r a1) σ τ1 r1 τ3 g1 (cm1f h2) g3⟩
theorem sp_93_et (a0 : Nat) (a1 : Int32) (σ : zSg) (h1 : (q_i (σ.1 a0 3)).toInt ≠ (-1 : Int)) :
    p_93 (a0) (a1) σ (Int32.ofInt (0)) σ := by
  intro A E S c0 c1
  exact Or.inr ⟨rfl, fun h => absurd h h1, rfl⟩
theorem sp_93_eft (a0 : Nat) (a1 : Int32) (σ : zSg) (τ2 : zSg) (r2 : Int32) (τ4 : zSg) (h1 : (q_i (σ.1 a0 3)).toInt = (-1 : Int)) (g2 : p_86 a0 (q_i (σ.1 a0 2)) σ r2 τ2) (h3 : r2.toInt = a1.toInt) (g4 : p_97 a0 (q_w τ2 a0 2 (.int ((q_i (τ2.1 a0 2)) + (Int32.ofInt (1))))) τ4) :
    p_93 (a0) (a1) σ (Int32.ofInt (1)) τ4 := by
  intro A E S c0 c1
  have hE := S.2.2.2.2.1
  have hA := S.2.2.2.1
  obtain ⟨rfl, g1⟩ := g2
  have g3 := g1 A E S A (by omega) (by rw [S.2.2.1]; rfl)
  split at g3
  case isFalse => omega
  next hlt =>
  refine Or.inl ⟨by decide, h1, ⟨hlt, (cb_eq S c0 c1).mpr (by omega)⟩, ?_⟩
  have e : q_w τ2 a0 2 (.int (q_i (τ2.1 a0 2) + Int32.ofInt 1)) = q_w τ2 a0 2 (.int (Int32.ofNat (A + 1))) := by
    rw [S.2.2.1, ← o32i (by omega)]
    rfl
  rw [e] at g4
  rw [g4 _ E (S.at (by omega)), cb_w S.1 (by omega), q_w_w]
theorem sp_93_eff (a0 : Nat) (a1 : Int32) (σ : zSg) (τ2 : zSg) (r2 : Int32) (h1 : (q_i (σ.1 a0 3)).toInt = (-1 : Int)) (g2 : p_86 a0 (q_i (σ.1 a0 2)) σ r2 τ2) (h3 : r2.toInt ≠ a1.toInt) :
    p_93 (a0) (a1) σ (Int32.ofInt (0)) τ2 := by
  intro A E S c0 c1
  have hE := S.2.2.2.2.1
  have hA := S.2.2.2.1
  obtain ⟨rfl, g1⟩ := g2
  have g3 := g1 A E S A (by omega) (by rw [S.2.2.1]; rfl)
  refine Or.inr ⟨rfl, fun _ q => ?_, rfl⟩
  rw [if_pos q.1] at g3
  exact h3 (g3.trans ((cb_eq S c0 c1).mp q.2))
noncomputable def qP_93 : zPp := fun as σ o σ' => match as with
  | [a0, a1] => ∃ r, o = .inl (some (.int r)) ∧ p_93 (q_r a0) (q_i a1) σ r σ'
  | _ => True
set_option maxRecDepth 100000 in
theorem sp_93 {sx : zX} (S86 : zEe sx 86 2 qP_86) (S97 : zEe sx 97 1 qP_97) : zEe sx 93 2 qP_93 := by
  refine zfle zJ_93 (sps := [(86, 2, qP_86), (97, 1, qP_97)]) (fun q hq => by
    simp only [List.mem_cons, List.not_mem_nil, or_false] at hq
    rcases hq with rfl | rfl
    · exact S86
    · exact S97) (fun as σ hl => ?_)
  match as, hl with
  | [a0, a1], _ =>
  refine ⟨[], 400, ?_, ?_⟩
  · exact fun q hq => absurd hq List.not_mem_nil
  · refine And.intro (fun h1 => ?_) (fun h1 => ?_)
    · exact ⟨_, rfl, sp_93_et (q_r a0) (q_i a1) σ (cm1t h1)⟩
    · refine fun o2 τ2 g2 => ?_
      obtain ⟨r2, rfl, g2⟩ := g2
      refine And.intro (fun h3 => ?_) (fun h3 => ?_)
      · refine fun o4 τ4 g4 => ?_
        obtain ⟨rfl, g4⟩ := g4
        exact ⟨_, rfl, sp_93_eft (q_r a0) (q_i a1) σ τ2 r2 τ4 (cm1f h1) g2 (cm0t h3) g4⟩
      · exact ⟨_, rfl, sp_93_eff (q_r a0) (q_i a1) σ τ2 r2 (cm1f h1) g2 (cm0f h3)⟩
theorem sp_94_et (a0 : Nat) (a1 : Int32) (σ : zSg) (τ1 : zSg) (r1 : Int32) (g1 : p_93 a0 a1 σ r1 τ1) (h2 : r1.toInt ≠ (0 : Int)) :
    p_94 (a0) (a1) σ τ1 := by
  intro A E S c0 c1
  rcases g1 A E S c0 c1 with ⟨g1, g2, g3, g4⟩ | ⟨g1, -⟩
  · exact ⟨fun _ => ⟨fun _ => g4, fun q => absurd g3 q⟩, fun q => absurd g2 q⟩
  · exact absurd g1 h2
theorem sp_94_ef (a0 : Nat) (a1 : Int32) (σ : zSg) (τ1 : zSg) (r1 : Int32) (τ3 : zSg) (g1 : p_93 a0 a1 σ r1 τ1) (h2 : r1.toInt = (0 : Int)) (g3 : p_90 a0 τ1 τ3) :
    p_94 (a0) (a1) σ τ3 := by
  intro A E S c0 c1
  rcases g1 A E S c0 c1 with ⟨g1, -⟩ | ⟨g1, g2, rfl⟩
  · exact absurd h2 g1
  · refine ⟨fun hn => ⟨fun q => absurd q (g2 hn), fun _ => ?_⟩, fun hn => g3.1 hn⟩
    rw [g3.2 hn, S.2.2.1]
    rfl
noncomputable def qP_94 : zPp := fun as σ o σ' => match as with
  | [a0, a1] => o = .inl none ∧ p_94 (q_r a0) (q_i a1) σ σ'
  | _ => True
set_option maxRecDepth 100000 in
theorem sp_94 {sx : zX} (S93 : zEe sx 93 2 qP_93) (S90 : zEe sx 90 1 qP_90) : zEe sx 94 2 qP_94 := by
  refine zfle zJ_94 (sps := [(93, 2, qP_93), (90, 1, qP_90)]) (fun q hq => by
    simp only [List.mem_cons, List.not_mem_nil, or_false] at hq
    rcases hq with rfl | rfl
    · exact S93
    · exact S90) (fun as σ hl => ?_)
  match as, hl with
  | [a0, a1], _ =>
  refine ⟨[], 400, ?_, ?_⟩
  · exact fun q hq => absurd hq List.not_mem_nil
  · refine fun o1 τ1 g1 => ?_
    obtain ⟨r1, rfl, g1⟩ := g1
    refine And.intro (fun h2 => ?_) (fun h2 => ?_)
    · exact ⟨rfl, sp_94_et (q_r a0) (q_i a1) σ τ1 r1 g1 (cm1t h2)⟩
    · refine fun o3 τ3 g3 => ?_
      obtain ⟨rfl, g3⟩ := g3
      exact ⟨rfl, sp_94_ef (q_r a0) (q_i a1) σ τ1 r1 τ3 g1 (cm1f h2) g3⟩
theorem sp_95_et (a0 : Nat) (σ : zSg) (h1 : (q_i (σ.1 a0 3)).toInt ≠ (-1 : Int)) :
    p_95 (a0) σ (Int32.ofInt (0)) σ := by
  exact ⟨rfl, fun A E S => ⟨fun h => absurd rfl h, fun h => absurd h.1 h1⟩⟩
theorem sp_95_eft (a0 : Nat) (σ : zSg) (τ2 : zSg) (r2 : Int32) (τ3 : zSg) (r3 : Int32) (h1 : (q_i (σ.1 a0 3)).toInt = (-1 : Int)) (g2 : p_86 a0 (q_i (σ.1 a0 2)) σ r2 τ2) (g3 : p_99 r2 τ2 r3 τ3) (h4 : r3.toInt = (0 : Int)) :
    p_95 (a0) σ (Int32.ofInt (0)) τ3 := by
  obtain ⟨rfl, g1⟩ := g2
  obtain ⟨rfl, g2⟩ := g3
  refine ⟨rfl, fun A E S => ?_⟩
  have hE := S.2.2.2.2.1
  have hA := S.2.2.2.1
  have g3 := g1 A E S A (by omega) (by rw [S.2.2.1]; rfl)
  have g4 := cb_rg (k := A) (lo := 48) (hi := 57) S (by omega) (by omega)
  have c0 : (Int32.ofInt 0).toInt = 0 := rfl
  have c1 : (Int32.ofInt 1).toInt = 1 := rfl
  have H9 := h1
  split at g3 <;> omega
theorem sp_95_eff (a0 : Nat) (σ : zSg) (τ2 : zSg) (r2 : Int32) (τ3 : zSg) (r3 : Int32) (h1 : (q_i (σ.1 a0 3)).toInt = (-1 : Int)) (g2 : p_86 a0 (q_i (σ.1 a0 2)) σ r2 τ2) (g3 : p_99 r2 τ2 r3 τ3) (h4 : r3.toInt ≠ (0 : Int)) :
    p_95 (a0) σ (Int32.ofInt (1)) τ3 := by
  obtain ⟨rfl, g1⟩ := g2
  obtain ⟨rfl, g2⟩ := g3
  refine ⟨rfl, fun A E S => ?_⟩
  have hE := S.2.2.2.2.1
  have hA := S.2.2.2.1
  have g3 := g1 A E S A (by omega) (by rw [S.2.2.1]; rfl)
  have g4 := cb_rg (k := A) (lo := 48) (hi := 57) S (by omega) (by omega)
  have c0 : (Int32.ofInt 0).toInt = 0 := rfl
  have c1 : (Int32.ofInt 1).toInt = 1 := rfl
  have H9 := h1
  split at g3 <;> omega
noncomputable def qP_95 : zPp := fun as σ o σ' => match as with
  | [a0] => ∃ r, o = .inl (some (.int r)) ∧ p_95 (q_r a0) σ r σ'
  | _ => True
set_option maxRecDepth 100000 in
theorem sp_95 {sx : zX} (S86 : zEe sx 86 2 qP_86) (S99 : zEe sx 99 1 qP_99) : zEe sx 95 1 qP_95 := by
  refine zfle zJ_95 (sps := [(86, 2, qP_86), (99, 1, qP_99)]) (fun q hq => by
    simp only [List.mem_cons, List.not_mem_nil, or_false] at hq
    rcases hq with rfl | rfl
    · exact S86
    · exact S99) (fun as σ hl => ?_)
  match as, hl with
  | [a0], _ =>
  refine ⟨[], 400, ?_, ?_⟩
  · exact fun q hq => absurd hq List.not_mem_nil
  · refine And.intro (fun h1 => ?_) (fun h1 => ?_)
    · exact ⟨_, rfl, sp_95_et (q_r a0) σ (cm1t h1)⟩
    · refine fun o2 τ2 g2 => ?_
      obtain ⟨r2, rfl, g2⟩ := g2
      refine fun o3 τ3 g3 => ?_
      obtain ⟨r3, rfl, g3⟩ := g3
      refine And.intro (fun h4 => ?_) (fun h4 => ?_)
      · exact ⟨_, rfl, sp_95_eft (q_r a0) σ τ2 r2 τ3 r3 (cm1f h1) g2 g3 (cm0t h4)⟩
      · exact ⟨_, rfl, sp_95_eff (q_r a0) σ τ2 r2 τ3 r3 (cm1f h1) g2 g3 (cm0f h4)⟩
noncomputable def p_96 (t : Nat) (lo hi : Int32) (σ : zSg) (r : Int32) (σ' : zSg) : Prop := ∀ A E, cS σ t A E → 0 ≤ lo.toInt → ((q_i (σ.1 t 3)).toInt = -1 → (0 ≤ zNm (cb σ t) E lo.toInt hi.toInt A ∧ r.toInt = zNm (cb σ t) E lo.toInt hi.toInt A ∧ σ' = q_w σ t 2 (.int (Int32.ofNat (zBl (cb σ t) E (zDe (cb σ t) E A))))) ∨ (zNm (cb σ t) E lo.toInt hi.toInt A = -1 ∧ r = lo ∧ σ' = q_w σ t 3 (.int (Int32.ofNat A)))) ∧ ((q_i (σ.1 t 3)).toInt ≠ -1 → (r = lo ∨ (lo.toInt ≤ r.toInt ∧ r.toInt ≤ hi.toInt)) ∧ ∃ A', A' ≤ E ∧ σ' = q_w σ t 2 (.int (Int32.ofNat A')))
noncomputable def i_96 (t : Nat) (lo hi : Int32) (σ : zSg) (l0 : Nat) (l1 l2 bh v : Int32) (τ : zSg) : Prop := l0 = t ∧ l1 = lo ∧ l2 = hi ∧ τ = σ ∧ ∀ A E, cS σ t A E → ∃ K, bh = Int32.ofNat K ∧ A ≤ K ∧ K ≤ E ∧ zDe (cb σ t) E A = zDe (cb σ t) E K ∧ K ≤ zDe (cb σ t) E A ∧ v.toInt = zDv (cb σ t) A (K - A)
theorem zJ_96 : zJ3 96 z_m96 z_c96 z_h96 := ⟨rfl, rfl, rfl⟩
noncomputable def j_96 (t : Nat) (lo hi : Int32) (σ : zSg) (l0 : Nat) (l1 l2 bh v : Int32) (τ : zSg) : Prop := l0 = t ∧ l1 = lo ∧ l2 = hi ∧ τ = σ ∧ ∀ A E, cS σ t A E → ∃ K, bh = Int32.ofNat K ∧ A ≤ K ∧ K ≤ E ∧ zDe (cb σ t) E A = K ∧ v.toInt = zDv (cb σ t) A (K - A)
theorem sp_96_e (a0 : Nat) (a1 : Int32) (a2 : Int32) (σ : zSg)  :
    i_96 a0 a1 a2 σ a0 a1 a2 (q_i (σ.1 a0 2)) (Int32.ofInt (0)) σ := by
  refine ⟨rfl, rfl, rfl, rfl, fun A E S => ⟨A, ?_, Nat.le_refl _, S.2.2.2.1, rfl, zRn_ge, ?_⟩⟩
  · rw [S.2.2.1]; rfl
  · rw [Nat.sub_self]; rfl
theorem sp_96_c5_t (a0 : Nat) (a1 : Int32) (a2 : Int32) (σ : zSg) (l0 : Nat) (l1 : Int32) (l2 : Int32) (l3 : Int32) (l4 : Int32) (τ : zSg) (hI : i_96 a0 a1 a2 σ l0 l1 l2 l3 l4 τ) (h1 : l3.toInt ≥ (q_i (τ.1 l0 1)).toInt) :
    j_96 a0 a1 a2 σ l0 l1 l2 l3 l4 τ := by
  obtain ⟨rfl, rfl, rfl, rfl, G⟩ := hI
  refine ⟨rfl, rfl, rfl, rfl, fun A E S => ?_⟩
  obtain ⟨K, rfl, k1, k2, k3, k4, k5⟩ := G A E S
  have hE := S.2.2.2.2.1
  refine ⟨K, rfl, k1, k2, ?_, k5⟩
  have h9 : (Int32.ofNat K).toInt ≥ (Int32.ofNat E).toInt := by
    have := h1
    rw [S.2.1] at this
    exact this
  rw [o32 (by omega), o32 (by omega)] at h9
  rw [k3]
  exact zRn_f (by omega)
theorem sp_96_c5_ft (a0 : Nat) (a1 : Int32) (a2 : Int32) (σ : zSg) (l0 : Nat) (l1 : Int32) (l2 : Int32) (l3 : Int32) (l4 : Int32) (τ : zSg) (τ2 : zSg) (r2 : Int32) (τ3 : zSg) (r3 : Int32) (hI : i_96 a0 a1 a2 σ l0 l1 l2 l3 l4 τ) (h1 : l3.toInt < (q_i (τ.1 l0 1)).toInt) (g2 : p_86 l0 l3 τ r2 τ2) (g3 : p_99 r2 τ2 r3 τ3) (h4 : r3.toInt = (0 : Int)) :
    j_96 a0 a1 a2 σ l0 l1 l2 l3 l4 τ3 := by
  obtain ⟨rfl, rfl, rfl, rfl, G⟩ := hI
  obtain ⟨rfl, g1⟩ := g2
  obtain ⟨rfl, g2⟩ := g3
  refine ⟨rfl, rfl, rfl, rfl, fun A E S => ?_⟩
  obtain ⟨K, rfl, k1, k2, k3, k4, k5⟩ := G A E S
  have hE := S.2.2.2.2.1
  refine ⟨K, rfl, k1, k2, ?_, k5⟩
  have g3 := g1 A E S K (by omega) rfl
  rw [k3]
  refine zRn_f (fun q => ?_)
  rw [if_pos q.1] at g3
  have q2 := (cb_rg S (by omega) (by omega)).mp q.2
  exact (g2.mpr (by omega)) h4
theorem sp_96_c5_fft (a0 : Nat) (a1 : Int32) (a2 : Int32) (σ : zSg) (l0 : Nat) (l1 : Int32) (l2 : Int32) (l3 : Int32) (l4 : Int32) (τ : zSg) (τ2 : zSg) (r2 : Int32) (τ3 : zSg) (r3 : Int32) (hI : i_96 a0 a1 a2 σ l0 l1 l2 l3 l4 τ) (h1 : l3.toInt < (q_i (τ.1 l0 1)).toInt) (g2 : p_86 l0 l3 τ r2 τ2) (g3 : p_99 r2 τ2 r3 τ3) (h4 : r3.toInt ≠ (0 : Int)) (h5 : (l3 - (q_i (τ3.1 l0 2))).toInt ≥ (3 : Int)) :
    i_96 a0 a1 a2 σ l0 l1 l2 (l3 + Int32.ofInt (1)) l4 τ3 := by
  obtain ⟨rfl, rfl, rfl, rfl, G⟩ := hI
  obtain ⟨rfl, g1⟩ := g2
  obtain ⟨rfl, g2⟩ := g3
  refine ⟨rfl, rfl, rfl, rfl, fun A E S => ?_⟩
  obtain ⟨K, rfl, k1, k2, k3, k4, k5⟩ := G A E S
  have hE := S.2.2.2.2.1
  have g3 := g1 A E S K (by omega) rfl
  have g4 := g2.mp h4
  have hlt : K < E := by
    split at g3
    · assumption
    · omega
  rw [if_pos hlt] at g3
  have hd : K < E ∧ 48 ≤ cb τ3 l0 K ∧ cb τ3 l0 K ≤ 57 := ⟨hlt, (cb_rg S (by omega) (by omega)).mpr (by omega)⟩
  have hD : zDe (cb τ3 l0) E K = zDe (cb τ3 l0) E (K + 1) := zRn_t hd
  have hK : K + 1 ≤ zDe (cb τ3 l0) E A := by rw [k3, hD]; exact zRn_ge
  have e1 : (Int32.ofNat K - q_i (τ3.1 l0 2)).toInt = (K : Int) - A := by
    rw [S.2.2.1]
    exact zI_sub (o32 (by omega)) (o32 (by omega)) (by omega) (by omega)
  rw [e1] at h5
  refine ⟨K + 1, by rw [← o32i (by omega)], by omega, by omega, k3.trans hD, hK, ?_⟩
  rw [show K + 1 - A = (K - A) + 1 by omega]
  unfold zDv
  rw [if_neg (by omega)]
  exact k5
theorem sp_96_c5_fff (a0 : Nat) (a1 : Int32) (a2 : Int32) (σ : zSg) (l0 : Nat) (l1 : Int32) (l2 : Int32) (l3 : Int32) (l4 : Int32) (τ : zSg) (τ2 : zSg) (r2 : Int32) (τ3 : zSg) (r3 : Int32) (τ6 : zSg) (r6 : Int32) (hI : i_96 a0 a1 a2 σ l0 l1 l2 l3 l4 τ) (h1 : l3.toInt < (q_i (τ.1 l0 1)).toInt) (g2 : p_86 l0 l3 τ r2 τ2) (g3 : p_99 r2 τ2 r3 τ3) (h4 : r3.toInt ≠ (0 : Int)) (h5 : (l3 - (q_i (τ3.1 l0 2))).toInt < (3 : Int)) (g6 : p_86 l0 l3 τ3 r6 τ6) :
    i_96 a0 a1 a2 σ l0 l1 l2 (l3 + Int32.ofInt (1)) (((l4 * (Int32.ofInt (10))) + r6) - (Int32.ofInt (48))) τ6 := by
  obtain ⟨rfl, rfl, rfl, rfl, G⟩ := hI
  obtain ⟨rfl, g9⟩ := g6
  obtain ⟨rfl, g1⟩ := g2
  obtain ⟨rfl, g2⟩ := g3
  refine ⟨rfl, rfl, rfl, rfl, fun A E S => ?_⟩
  obtain ⟨K, rfl, k1, k2, k3, k4, k5⟩ := G A E S
  have hE := S.2.2.2.2.1
  have g3 := g1 A E S K (by omega) rfl
  have g4 := g2.mp h4
  have hlt : K < E := by
    split at g3
    · assumption
    · omega
  rw [if_pos hlt] at g3
  have hd : K < E ∧ 48 ≤ cb τ6 l0 K ∧ cb τ6 l0 K ≤ 57 := ⟨hlt, (cb_rg S (by omega) (by omega)).mpr (by omega)⟩
  have hD : zDe (cb τ6 l0) E K = zDe (cb τ6 l0) E (K + 1) := zRn_t hd
  have hK : K + 1 ≤ zDe (cb τ6 l0) E A := by rw [k3, hD]; exact zRn_ge
  have e1 : (Int32.ofNat K - q_i (τ6.1 l0 2)).toInt = (K : Int) - A := by
    rw [S.2.2.1]
    exact zI_sub (o32 (by omega)) (o32 (by omega)) (by omega) (by omega)
  rw [e1] at h5
  refine ⟨K + 1, by rw [← o32i (by omega)], by omega, by omega, k3.trans hD, hK, ?_⟩
  rw [show K + 1 - A = (K - A) + 1 by omega]
  unfold zDv
  rw [if_pos (by omega), show A + (K - A) = K by omega]
  have hv := zDv_in (b := cb τ6 l0) (E := E) (A := A) (K - A) (by omega)
  have g5 := g9 A E S K (by omega) rfl
  rw [if_pos hlt] at g5
  have m1 : (l4 * Int32.ofInt 10).toInt = l4.toInt * 10 := by
    rw [Int32.toInt_mul, zI_c (by omega) (by omega)]
    exact z_bm (by omega) (by omega)
  have c48 : (Int32.ofInt 48).toInt = 48 := rfl
  have hcb : cb τ6 l0 K = cu τ6 l0 K := by
    unfold cb
    rw [if_neg (by omega)]
  rw [zI_sub (zI_add m1 g5 (by omega) (by omega)) c48 (by omega) (by omega), k5, hcb]
  omega
theorem sp_96_c32_t (a0 : Nat) (a1 : Int32) (a2 : Int32) (σ : zSg) (l0 : Nat) (l1 : Int32) (l2 : Int32) (l3 : Int32) (l4 : Int32) (τ : zSg) (τ8 : zSg) (hI : j_96 a0 a1 a2 σ l0 l1 l2 l3 l4 τ) (h7 : (l3 - (q_i (τ.1 l0 2))).toInt < (1 : Int)) (g8 : p_90 l0 τ τ8) :
    p_96 (a0) (a1) (a2) σ l1 τ8 := by
  obtain ⟨rfl, rfl, rfl, rfl, G⟩ := hI
  intro A E S hlo
  obtain ⟨K, rfl, k1, k2, k3, k5⟩ := G A E S
  have hE := S.2.2.2.2.1
  have e1 : (Int32.ofNat K - q_i (τ.1 l0 2)).toInt = (K : Int) - A := by
    rw [S.2.2.1]
    exact zI_sub (o32 (by omega)) (o32 (by omega)) (by omega) (by omega)
  rw [e1] at h7
  have hv := zDv_in (b := cb τ l0) (E := E) (A := A) (K - A) (by omega)
  have hz : zNm (cb τ l0) E l1.toInt l2.toInt A = -1 := by
    unfold zNm
    rw [k3, ← k5, if_neg (by omega)]
  refine ⟨fun hn => Or.inr ⟨hz, rfl, ?_⟩, fun hn => ⟨Or.inl rfl, A, S.2.2.2.1, ?_⟩⟩
  · rw [g8.2 hn, S.2.2.1]
    rfl
  · rw [g8.1 hn, q_w_id S.2.2.1]
theorem sp_96_c32_ft (a0 : Nat) (a1 : Int32) (a2 : Int32) (σ : zSg) (l0 : Nat) (l1 : Int32) (l2 : Int32) (l3 : Int32) (l4 : Int32) (τ : zSg) (τ10 : zSg) (hI : j_96 a0 a1 a2 σ l0 l1 l2 l3 l4 τ) (h7 : (l3 - (q_i (τ.1 l0 2))).toInt ≥ (1 : Int)) (h9 : (l3 - (q_i (τ.1 l0 2))).toInt > (3 : Int)) (g10 : p_90 l0 τ τ10) :
    p_96 (a0) (a1) (a2) σ l1 τ10 := by
  obtain ⟨rfl, rfl, rfl, rfl, G⟩ := hI
  intro A E S hlo
  obtain ⟨K, rfl, k1, k2, k3, k5⟩ := G A E S
  have hE := S.2.2.2.2.1
  have e1 : (Int32.ofNat K - q_i (τ.1 l0 2)).toInt = (K : Int) - A := by
    rw [S.2.2.1]
    exact zI_sub (o32 (by omega)) (o32 (by omega)) (by omega) (by omega)
  rw [e1] at h9 h7
  have hv := zDv_in (b := cb τ l0) (E := E) (A := A) (K - A) (by omega)
  have hz : zNm (cb τ l0) E l1.toInt l2.toInt A = -1 := by
    unfold zNm
    rw [k3, ← k5, if_neg (by omega)]
  refine ⟨fun hn => Or.inr ⟨hz, rfl, ?_⟩, fun hn => ⟨Or.inl rfl, A, S.2.2.2.1, ?_⟩⟩
  · rw [g10.2 hn, S.2.2.1]
    rfl
  · rw [g10.1 hn, q_w_id S.2.2.1]
theorem sp_96_c32_fft (a0 : Nat) (a1 : Int32) (a2 : Int32) (σ : zSg) (l0 : Nat) (l1 : Int32) (l2 : Int32) (l3 : Int32) (l4 : Int32) (τ : zSg) (τ12 : zSg) (hI : j_96 a0 a1 a2 σ l0 l1 l2 l3 l4 τ) (h7 : (l3 - (q_i (τ.1 l0 2))).toInt ≥ (1 : Int)) (h9 : (l3 - (q_i (τ.1 l0 2))).toInt ≤ (3 : Int)) (h11 : l4.toInt < l1.toInt) (g12 : p_90 l0 τ τ12) :
    p_96 (a0) (a1) (a2) σ l1 τ12 := by
  obtain ⟨rfl, rfl, rfl, rfl, G⟩ := hI
  intro A E S hlo
  obtain ⟨K, rfl, k1, k2, k3, k5⟩ := G A E S
  have hE := S.2.2.2.2.1
  have e1 : (Int32.ofNat K - q_i (τ.1 l0 2)).toInt = (K : Int) - A := by
    rw [S.2.2.1]
    exact zI_sub (o32 (by omega)) (o32 (by omega)) (by omega) (by omega)
  rw [e1] at h9 h7
  have hv := zDv_in (b := cb τ l0) (E := E) (A := A) (K - A) (by omega)
  have hz : zNm (cb τ l0) E l1.toInt l2.toInt A = -1 := by
    unfold zNm
    rw [k3, ← k5, if_neg (by omega)]
  refine ⟨fun hn => Or.inr ⟨hz, rfl, ?_⟩, fun hn => ⟨Or.inl rfl, A, S.2.2.2.1, ?_⟩⟩
  · rw [g12.2 hn, S.2.2.1]
    rfl
  · rw [g12.1 hn, q_w_id S.2.2.1]
theorem sp_96_c32_ffft (a0 : Nat) (a1 : Int32) (a2 : Int32) (σ : zSg) (l0 : Nat) (l1 : Int32) (l2 : Int32) (l3 : Int32) (l4 : Int32) (τ : zSg) (τ14 : zSg) (hI : j_96 a0 a1 a2 σ l0 l1 l2 l3 l4 τ) (h7 : (l3 - (q_i (τ.1 l0 2))).toInt ≥ (1 : Int)) (h9 : (l3 - (q_i (τ.1 l0 2))).toInt ≤ (3 : Int)) (h11 : l4.toInt ≥ l1.toInt) (h13 : l4.toInt ≤ l2.toInt) (g14 : p_97 l0 (q_w τ l0 2 (.int l3)) τ14) :
    p_96 (a0) (a1) (a2) σ l4 τ14 := by
  obtain ⟨rfl, rfl, rfl, rfl, G⟩ := hI
  intro A E S hlo
  obtain ⟨K, rfl, k1, k2, k3, k5⟩ := G A E S
  have hE := S.2.2.2.2.1
  have e1 : (Int32.ofNat K - q_i (τ.1 l0 2)).toInt = (K : Int) - A := by
    rw [S.2.2.1]
    exact zI_sub (o32 (by omega)) (o32 (by omega)) (by omega) (by omega)
  rw [e1] at h9 h7
  have hv := zDv_in (b := cb τ l0) (E := E) (A := A) (K - A) (by omega)
  have hz : zNm (cb τ l0) E l1.toInt l2.toInt A = l4.toInt := by
    unfold zNm
    rw [k3, ← k5, if_pos (by omega)]
  have hg := g14 K E (S.at k2)
  rw [cb_w S.1 (by omega), q_w_w] at hg
  refine ⟨fun hn => Or.inl ⟨by omega, hz.symm, by rw [hg, k3]⟩, fun hn => ⟨Or.inr (by omega), _, zBl_le k2, hg⟩⟩
theorem sp_96_c32_ffff (a0 : Nat) (a1 : Int32) (a2 : Int32) (σ : zSg) (l0 : Nat) (l1 : Int32) (l2 : Int32) (l3 : Int32) (l4 : Int32) (τ : zSg) (τ15 : zSg) (hI : j_96 a0 a1 a2 σ l0 l1 l2 l3 l4 τ) (h7 : (l3 - (q_i (τ.1 l0 2))).toInt ≥ (1 : Int)) (h9 : (l3 - (q_i (τ.1 l0 2))).toInt ≤ (3 : Int)) (h11 : l4.toInt ≥ l1.toInt) (h13 : l4.toInt > l2.toInt) (g15 : p_90 l0 τ τ15) :
    p_96 (a0) (a1) (a2) σ l1 τ15 := by
  obtain ⟨rfl, rfl, rfl, rfl, G⟩ := hI
  intro A E S hlo
  obtain ⟨K, rfl, k1, k2, k3, k5⟩ := G A E S
  have hE := S.2.2.2.2.1
  have e1 : (Int32.ofNat K - q_i (τ.1 l0 2)).toInt = (K : Int) - A := by
    rw [S.2.2.1]
    exact zI_sub (o32 (by omega)) (o32 (by omega)) (by omega) (by omega)
  rw [e1] at h9 h7
  have hv := zDv_in (b := cb τ l0) (E := E) (A := A) (K - A) (by omega)
  have hz : zNm (cb τ l0) E l1.toInt l2.toInt A = -1 := by
    unfold zNm
    rw [k3, ← k5, if_neg (by omega)]
  refine ⟨fun hn => Or.inr ⟨hz, rfl, ?_⟩, fun hn => ⟨Or.inl rfl, A, S.2.2.2.1, ?_⟩⟩
  · rw [g15.2 hn, S.2.2.1]
    rfl
  · rw [g15.1 hn, q_w_id S.2.2.1]
noncomputable def qP_96 : zPp := fun as σ o σ' => match as with
  | [a0, a1, a2] => ∃ r, o = .inl (some (.int r)) ∧ p_96 (q_r a0) (q_i a1) (q_i a2) σ r σ'
  | _ => True
set_option maxRecDepth 100000 in
theorem sp_96 {sx : zX} (S86 : zEe sx 86 2 qP_86) (S99 : zEe sx 99 1 qP_99) (S90 : zEe sx 90 1 qP_90) (S97 : zEe sx 97 1 qP_97) : zEe sx 96 3 qP_96 := by
  refine zfle zJ_96 (sps := [(86, 2, qP_86), (99, 1, qP_99), (90, 1, qP_90), (97, 1, qP_97)]) (fun q hq => by
    simp only [List.mem_cons, List.not_mem_nil, or_false] at hq
    rcases hq with rfl | rfl | rfl | rfl
    · exact S86
    · exact S99
    · exact S90
    · exact S97) (fun as σ hl => ?_)
  match as, hl with
  | [a0, a1, a2], _ =>
  refine ⟨[(5, fun lo st τ => st = [] ∧ i_96 (q_r a0) (q_i a1) (q_i a2) σ (q_r (lo 0)) (q_i (lo 1)) (q_i (lo 2)) (q_i (lo 3)) (q_i (lo 4)) τ), (32, fun lo st τ => st = [] ∧ j_96 (q_r a0) (q_i a1) (q_i a2) σ (q_r (lo 0)) (q_i (lo 1)) (q_i (lo 2)) (q_i (lo 3)) (q_i (lo 4)) τ)], 400, ?_, ?_⟩
  · intro q hq
    simp only [List.mem_cons, List.not_mem_nil, or_false] at hq
    rcases hq with rfl | rfl
    · rintro lo st τ ⟨rfl, hI⟩
      refine ⟨400, ?_⟩
      refine And.intro (fun h1 => ?_) (fun h1 => ?_)
      · exact ⟨rfl, sp_96_c5_t (q_r a0) (q_i a1) (q_i a2) σ (q_r (lo 0)) (q_i (lo 1)) (q_i (lo 2)) (q_i (lo 3)) (q_i (lo 4)) τ hI (cm3t h1)⟩
      · refine fun o2 τ2 g2 => ?_
        obtain ⟨r2, rfl, g2⟩ := g2
        refine fun o3 τ3 g3 => ?_
        obtain ⟨r3, rfl, g3⟩ := g3
        refine And.intro (fun h4 => ?_) (fun h4 => ?_)
        · exact ⟨rfl, sp_96_c5_ft (q_r a0) (q_i a1) (q_i a2) σ (q_r (lo 0)) (q_i (lo 1)) (q_i (lo 2)) (q_i (lo 3)) (q_i (lo 4)) τ τ2 r2 τ3 r3 hI (cm3f h1) g2 g3 (cm0t h4)⟩
        · refine And.intro (fun h5 => ?_) (fun h5 => ?_)
          · exact ⟨rfl, sp_96_c5_fft (q_r a0) (q_i a1) (q_i a2) σ (q_r (lo 0)) (q_i (lo 1)) (q_i (lo 2)) (q_i (lo 3)) (q_i (lo 4)) τ τ2 r2 τ3 r3 hI (cm3f h1) g2 g3 (cm0f h4) (cm3t h5)⟩
          · refine fun o6 τ6 g6 => ?_
            obtain ⟨r6, rfl, g6⟩ := g6
            exact ⟨rfl, sp_96_c5_fff (q_r a0) (q_i a1) (q_i a2) σ (q_r (lo 0)) (q_i (lo 1)) (q_i (lo 2)) (q_i (lo 3)) (q_i (lo 4)) τ τ2 r2 τ3 r3 τ6 r6 hI (cm3f h1) g2 g3 (cm0f h4) (cm3f h5) g6⟩
    · rintro lo st τ ⟨rfl, hI⟩
      refine ⟨400, ?_⟩
      refine And.intro (fun h7 => ?_) (fun h7 => ?_)
      · refine fun o8 τ8 g8 => ?_
        obtain ⟨rfl, g8⟩ := g8
        exact ⟨_, rfl, sp_96_c32_t (q_r a0) (q_i a1) (q_i a2) σ (q_r (lo 0)) (q_i (lo 1)) (q_i (lo 2)) (q_i (lo 3)) (q_i (lo 4)) τ τ8 hI (cm2t h7) g8⟩
      · refine And.intro (fun h9 => ?_) (fun h9 => ?_)
        · refine fun o10 τ10 g10 => ?_
          obtain ⟨rfl, g10⟩ := g10
          exact ⟨_, rfl, sp_96_c32_ft (q_r a0) (q_i a1) (q_i a2) σ (q_r (lo 0)) (q_i (lo 1)) (q_i (lo 2)) (q_i (lo 3)) (q_i (lo 4)) τ τ10 hI (cm2f h7) (cm4t h9) g10⟩
        · refine And.intro (fun h11 => ?_) (fun h11 => ?_)
          · refine fun o12 τ12 g12 => ?_
            obtain ⟨rfl, g12⟩ := g12
            exact ⟨_, rfl, sp_96_c32_fft (q_r a0) (q_i a1) (q_i a2) σ (q_r (lo 0)) (q_i (lo 1)) (q_i (lo 2)) (q_i (lo 3)) (q_i (lo 4)) τ τ12 hI (cm2f h7) (cm4f h9) (cm2t h11) g12⟩
          · refine And.intro (fun h13 => ?_) (fun h13 => ?_)
            · refine fun o14 τ14 g14 => ?_
              obtain ⟨rfl, g14⟩ := g14
              exact ⟨_, rfl, sp_96_c32_ffft (q_r a0) (q_i a1) (q_i a2) σ (q_r (lo 0)) (q_i (lo 1)) (q_i (lo 2)) (q_i (lo 3)) (q_i (lo 4)) τ τ14 hI (cm2f h7) (cm4f h9) (cm2f h11) (cm5t h13) g14⟩
            · refine fun o15 τ15 g15 => ?_
              obtain ⟨rfl, g15⟩ := g15
              exact ⟨_, rfl, sp_96_c32_ffff (q_r a0) (q_i a1) (q_i a2) σ (q_r (lo 0)) (q_i (lo 1)) (q_i (lo 2)) (q_i (lo 3)) (q_i (lo 4)) τ τ15 hI (cm2f h7) (cm4f h9) (cm2f h11) (cm5f h13) g15⟩
  · exact ⟨rfl, sp_96_e (q_r a0) (q_i a1) (q_i a2) σ ⟩
end
section
/-! THE GRAMMAR of a law's text as functions of places: b the byte at a place, E the text's length; A a place behind blanks; what is read: the place behind it and the steps, or the wrong place; none: the fuel was too small -/
abbrev zSs : Type := List (Nat × Nat)
abbrev zRs : Type := (Nat × zSs) ⊕ Nat
noncomputable def zWaB (b : Nat → Int) (E : Nat) (s : List Int) (A : Nat) : Bool := Nat.beq (zLt b E A) (A + s.length) && (List.range s.length).all (fun k => decide (b (A + k) = s.getD k 0))
theorem zWaB_iff {b : Nat → Int} {E : Nat} {s : List Int} {A : Nat} : zWaB b E s A = true ↔ zWa b E s A := by
  unfold zWaB zWa zWd
  rw [Bool.and_eq_true, List.all_eq_true]
  constructor
  · rintro ⟨h1, h2⟩
    exact ⟨Nat.eq_of_beq_eq_true h1, fun k hk => of_decide_eq_true (h2 k (List.mem_range.mpr hk))⟩
  · rintro ⟨h1, h2⟩
    exact ⟨by rw [h1]; exact Nat.beq_refl _, fun k hk => decide_eq_true (h2 k (List.mem_range.mp hk))⟩
noncomputable def tw (b : Nat → Int) (E : Nat) (s : List Int) (A : Nat) : Option Nat := bif zWaB b E s A then some (zBl b E (A + s.length)) else none
theorem tw_pos {b : Nat → Int} {E : Nat} {s : List Int} {A : Nat} (h : zWa b E s A) : tw b E s A = some (zBl b E (A + s.length)) := by
  unfold tw
  rw [zWaB_iff.mpr h]
  rfl
theorem tw_neg {b : Nat → Int} {E : Nat} {s : List Int} {A : Nat} (h : ¬ zWa b E s A) : tw b E s A = none := by
  unfold tw
  cases hb : zWaB b E s A with
  | true => exact absurd (zWaB_iff.mp hb) h
  | false => rfl
theorem tw_some {b : Nat → Int} {E : Nat} {s : List Int} {A A1 : Nat} (h : tw b E s A = some A1) : zWa b E s A := by
  unfold tw at h
  cases hb : zWaB b E s A with
  | true => exact zWaB_iff.mp hb
  | false => rw [hb] at h; cases h
noncomputable def ts (b : Nat → Int) (E : Nat) (c : Int) (A : Nat) : Option Nat := if A < E ∧ b A = c then some (zBl b E (A + 1)) else none
noncomputable def tn (b : Nat → Int) (E : Nat) (lo hi : Int) (A : Nat) : Option (Nat × Nat) := if 0 ≤ zNm b E lo hi A then some (zBl b E (zDe b E A), (zNm b E lo hi A).toNat) else none
noncomputable def wFamily : List Int := [102, 97, 109, 105, 108, 121]
noncomputable def wHour : List Int := [104, 111, 117, 114]
noncomputable def wHeat : List Int := [104, 101, 97, 116]
noncomputable def wDirt : List Int := [100, 105, 114, 116]
noncomputable def wQuarrel : List Int := [113, 117, 97, 114, 114, 101, 108]
noncomputable def wLeft : List Int := [108, 101, 102, 116]
noncomputable def wNight : List Int := [110, 105, 103, 104, 116]
noncomputable def wWished : List Int := [119, 105, 115, 104, 101, 100]
noncomputable def wNot : List Int := [110, 111, 116]
noncomputable def wAnd : List Int := [97, 110, 100]
noncomputable def wOr : List Int := [111, 114]
noncomputable def wIf : List Int := [105, 102]
noncomputable def wWarm : List Int := [119, 97, 114, 109]
noncomputable def wDust : List Int := [100, 117, 115, 116]
noncomputable def wFine : List Int := [102, 105, 110, 101]
/-- the first of these words: where it ends, which it is -/
noncomputable def tws (b : Nat → Int) (E A : Nat) : List (List Int) → Nat → Option (Nat × Nat)
  | [], _ => none
  | s :: r, c => match tw b E s A with
    | some A1 => some (A1, c)
    | none => tws b E A r (c + 1)
noncomputable def gPart (b : Nat → Int) (E A : Nat) : zRs := if A < E ∧ 48 ≤ b A ∧ b A ≤ 57 then (match tn b E 0 999 A with
    | some (A1, v) => .inl (A1, [(8, v)])
    | none => .inr A) else (match tws b E A [wFamily, wHour, wHeat, wDirt, wQuarrel, wLeft] 0 with
    | some (A1, c) => .inl (A1, [(c, 0)])
    | none => .inr A)
noncomputable def gSumL (b : Nat → Int) (E : Nat) : Nat → Nat → zSs → Option zRs
  | 0, _, _ => none
  | n + 1, A, l => match ts b E 43 A with
    | none => some (.inl (A, l))
    | some A1 => (match gPart b E A1 with
      | .inr F => some (.inr F)
      | .inl (A2, m) => gSumL b E n A2 (l ++ m ++ [(9, 0)]))
noncomputable def gSum (b : Nat → Int) (E n A : Nat) : Option zRs := match gPart b E A with
  | .inr F => some (.inr F)
  | .inl (A1, l) => gSumL b E n A1 l
noncomputable def gLoop (b : Nat → Int) (E : Nat) (f : Nat → Option zRs) : Nat → Nat → Bool → zSs → Option zRs
  | 0, _, _, _ => none
  | n + 1, A, w, l => match tw b E wAnd A with
    | some A1 => (match f A1 with
      | none => none
      | some (.inr F) => some (.inr F)
      | some (.inl (A2, m)) => gLoop b E f n A2 w (l ++ m ++ [(13, 0)]))
    | none => (match tw b E wOr A with
      | some A1 => (match f A1 with
        | none => none
        | some (.inr F) => some (.inr F)
        | some (.inl (A2, m)) => gLoop b E f n A2 true ((bif w then l ++ [(14, 0)] else l) ++ m))
      | none => some (.inl (A, bif w then l ++ [(14, 0)] else l)))
noncomputable def gCond (b : Nat → Int) (E : Nat) (f : Nat → Option zRs) (n A : Nat) : Option zRs := match f A with
  | none => none
  | some (.inr F) => some (.inr F)
  | some (.inl (A1, l)) => gLoop b E f n A1 false l
/-- night, wished, or two sums compared -/
noncomputable def gBase (b : Nat → Int) (E n A : Nat) : Option zRs := match tw b E wNight A with
  | some A1 => some (.inl (A1, [(6, 0)]))
  | none => (match tw b E wWished A with
    | some A1 => some (.inl (A1, [(7, 0)]))
    | none => (match gSum b E n A with
      | none => none
      | some (.inr F) => some (.inr F)
      | some (.inl (A1, l)) => (match ts b E 60 A1 with
        | some A2 => (match gSum b E n A2 with
          | none => none
          | some (.inr F) => some (.inr F)
          | some (.inl (A3, m)) => some (.inl (A3, l ++ m ++ [(10, 0)])))
        | none => (match ts b E 62 A1 with
          | some A2 => (match gSum b E n A2 with
            | none => none
            | some (.inr F) => some (.inr F)
            | some (.inl (A3, m)) => some (.inl (A3, l ++ m ++ [(11, 0)])))
          | none => some (.inr A1)))))
noncomputable def gAtom (b : Nat → Int) (E : Nat) : Nat → Nat → Nat → Option zRs
  | 0, _, _ => none
  | n + 1, D, A => match ts b E 40 A with
    | some A1 => if D = 6 then some (.inr A) else (match gCond b E (gAtom b E n (D + 1)) n A1 with
      | none => none
      | some (.inr F) => some (.inr F)
      | some (.inl (A2, l)) => (match ts b E 41 A2 with
        | some A3 => some (.inl (A3, l))
        | none => some (.inr A2)))
    | none => (match tw b E wNot A with
      | some A1 => if D = 6 then some (.inr A) else (match gAtom b E n (D + 1) A1 with
        | none => none
        | some (.inr F) => some (.inr F)
        | some (.inl (A2, l)) => some (.inl (A2, l ++ [(12, 0)])))
      | none => gBase b E n A)
/-! more fuel changes nothing -/
section GMO
variable {b : Nat → Int} {E : Nat}
theorem gSumL_mono {R : zRs} : ∀ {n m A : Nat} {l : zSs}, gSumL b E n A l = some R → n ≤ m → gSumL b E m A l = some R
  | 0, _, _, _, h, _ => by cases h
  | n + 1, 0, _, _, _, hm => by omega
  | n + 1, m + 1, A, l, h, hm => by
    unfold gSumL at h ⊢
    cases h1 : ts b E 43 A with
    | none => rw [h1] at h; exact h
    | some A1 =>
      rw [h1] at h
      dsimp only at h ⊢
      cases h2 : gPart b E A1 with
      | inr F => rw [h2] at h; exact h
      | inl q => rw [h2] at h; exact gSumL_mono h (by omega)
theorem gSum_mono {R : zRs} {n m A : Nat} (h : gSum b E n A = some R) (hm : n ≤ m) : gSum b E m A = some R := by
  unfold gSum at h ⊢
  cases h2 : gPart b E A with
  | inr F => rw [h2] at h; exact h
  | inl q => rw [h2] at h; exact gSumL_mono h hm
theorem gLoop_mono {f g : Nat → Option zRs} (hf : ∀ A R, f A = some R → g A = some R) {R : zRs} : ∀ {n m A : Nat} {w : Bool} {l : zSs}, gLoop b E f n A w l = some R → n ≤ m → gLoop b E g m A w l = some R
  | 0, _, _, _, _, h, _ => by cases h
  | n + 1, 0, _, _, _, _, hm => by omega
  | n + 1, m + 1, A, w, l, h, hm => by
    unfold gLoop at h ⊢
    cases h1 : tw b E wAnd A with
    | some A1 =>
      rw [h1] at h
      dsimp only at h ⊢
      cases h2 : f A1 with
      | none => rw [h2] at h; cases h
      | some q =>
        rw [h2] at h
        rw [hf _ _ h2]
        cases q with
        | inr F => exact h
        | inl q => exact gLoop_mono hf h (by omega)
    | none =>
      rw [h1] at h
      dsimp only at h ⊢
      cases h3 : tw b E wOr A with
      | none => rw [h3] at h; exact h
      | some A1 =>
        rw [h3] at h
        dsimp only at h ⊢
        cases h2 : f A1 with
        | none => rw [h2] at h; cases h
        | some q =>
          rw [h2] at h
          rw [hf _ _ h2]
          cases q with
          | inr F => exact h
          | inl q => exact gLoop_mono hf h (by omega)
theorem gCond_mono {f g : Nat → Option zRs} (hf : ∀ A R, f A = some R → g A = some R) {R : zRs} {n m A : Nat} (h : gCond b E f n A = some R) (hm : n ≤ m) : gCond b E g m A = some R := by
  unfold gCond at h ⊢
  cases h2 : f A with
  | none => rw [h2] at h; cases h
  | some q =>
    rw [h2] at h
    rw [hf _ _ h2]
    cases q with
    | inr F => exact h
    | inl q => exact gLoop_mono hf h hm
theorem gBase_mono {R : zRs} {n m A : Nat} (h : gBase b E n A = some R) (hm : n ≤ m) : gBase b E m A = some R := by
  unfold gBase at h ⊢
  cases h1 : tw b E wNight A with
  | some A1 => rw [h1] at h; exact h
  | none =>
  rw [h1] at h
  dsimp only at h ⊢
  cases h2 : tw b E wWished A with
  | some A1 => rw [h2] at h; exact h
  | none =>
  rw [h2] at h
  dsimp only at h ⊢
  cases h3 : gSum b E n A with
  | none => rw [h3] at h; cases h
  | some q =>
  rw [h3] at h
  rw [gSum_mono h3 hm]
  cases q with
  | inr F => exact h
  | inl q =>
  obtain ⟨A1, l⟩ := q
  dsimp only at h ⊢
  cases h4 : ts b E 60 A1 with
  | some A2 =>
    rw [h4] at h
    dsimp only at h ⊢
    cases h5 : gSum b E n A2 with
    | none => rw [h5] at h; cases h
    | some q => rw [h5] at h; rw [gSum_mono h5 hm]; exact h
  | none =>
    rw [h4] at h
    dsimp only at h ⊢
    cases h6 : ts b E 62 A1 with
    | none => rw [h6] at h; exact h
    | some A2 =>
      rw [h6] at h
      dsimp only at h ⊢
      cases h5 : gSum b E n A2 with
      | none => rw [h5] at h; cases h
      | some q => rw [h5] at h; rw [gSum_mono h5 hm]; exact h
theorem gAtom_mono {R : zRs} : ∀ {n m D A : Nat}, gAtom b E n D A = some R → n ≤ m → gAtom b E m D A = some R
  | 0, _, _, _, h, _ => by cases h
  | n + 1, 0, _, _, _, hm => by omega
  | n + 1, m + 1, D, A, h, hm => by
    unfold gAtom at h ⊢
    cases h1 : ts b E 40 A with
    | some A1 =>
      rw [h1] at h
      dsimp only at h ⊢
      by_cases hD : D = 6
      · rw [if_pos hD] at h ⊢; exact h
      rw [if_neg hD] at h ⊢
      cases h2 : gCond b E (gAtom b E n (D + 1)) n A1 with
      | none => rw [h2] at h; cases h
      | some q =>
        rw [h2] at h
        rw [gCond_mono (g := gAtom b E m (D + 1)) (fun A R h => gAtom_mono h (by omega)) h2 (by omega)]
        exact h
    | none =>
      rw [h1] at h
      dsimp only at h ⊢
      cases h3 : tw b E wNot A with
      | none => rw [h3] at h; exact gBase_mono h (by omega)
      | some A1 =>
        rw [h3] at h
        dsimp only at h ⊢
        by_cases hD : D = 6
        · rw [if_pos hD] at h ⊢; exact h
        rw [if_neg hD] at h ⊢
        cases h2 : gAtom b E n (D + 1) A1 with
        | none => rw [h2] at h; cases h
        | some q =>
          rw [h2] at h
          rw [gAtom_mono h2 (by omega)]
          exact h
/-! and-loops within or-loops, as the reference reads: the same -/
noncomputable def gAndL (b : Nat → Int) (E : Nat) (f : Nat → Option zRs) : Nat → Nat → zSs → Option zRs
  | 0, _, _ => none
  | n + 1, A, l => match tw b E wAnd A with
    | some A1 => (match f A1 with
      | none => none
      | some (.inr F) => some (.inr F)
      | some (.inl (A2, m)) => gAndL b E f n A2 (l ++ m ++ [(13, 0)]))
    | none => some (.inl (A, l))
noncomputable def gAll (b : Nat → Int) (E : Nat) (f : Nat → Option zRs) (n A : Nat) : Option zRs := match f A with
  | none => none
  | some (.inr F) => some (.inr F)
  | some (.inl (A1, l)) => gAndL b E f n A1 l
theorem gAndL_ok {f : Nat → Option zRs} {w : Bool} {p : zSs} : ∀ {n A : Nat} {l : zSs} {R : zRs}, gAndL b E f n A l = some R → (∀ F, R = .inr F → ∃ k, gLoop b E f k A w (p ++ l) = some (.inr F)) ∧ ∀ A' l', R = .inl (A', l') → tw b E wAnd A' = none ∧ ∀ k R', gLoop b E f k A' w (p ++ l') = some R' → ∃ k', gLoop b E f k' A w (p ++ l) = some R'
  | 0, _, _, _, h => by cases h
  | n + 1, A, l, R, h => by
    unfold gAndL at h
    cases h1 : tw b E wAnd A with
    | none =>
      rw [h1] at h
      cases h
      refine ⟨fun F q => (by cases q), fun A' l' q => ?_⟩
      cases q
      exact ⟨h1, fun k R' hk => ⟨k, hk⟩⟩
    | some A1 =>
      rw [h1] at h
      dsimp only at h
      cases h2 : f A1 with
      | none => rw [h2] at h; cases h
      | some q =>
        rw [h2] at h
        cases q with
        | inr F =>
          cases h
          refine ⟨fun F q => ⟨1, ?_⟩, fun A' l' q => (by cases q)⟩
          cases q
          unfold gLoop
          rw [h1]
          dsimp only
          rw [h2]
        | inl q =>
          obtain ⟨A2, m⟩ := q
          obtain ⟨i1, i2⟩ := gAndL_ok (w := w) (p := p) h
          have st : ∀ k R', gLoop b E f k A2 w (p ++ (l ++ m ++ [(13, 0)])) = some R' → gLoop b E f (k + 1) A w (p ++ l) = some R' := by
            intro k R' hk
            unfold gLoop
            rw [h1]
            dsimp only
            rw [h2]
            dsimp only
            rw [show p ++ l ++ m ++ [(13, 0)] = p ++ (l ++ m ++ [(13, 0)]) by simp only [List.append_assoc]]
            exact hk
          refine ⟨fun F q => ?_, fun A' l' q => ⟨(i2 A' l' q).1, fun k R' hk => ?_⟩⟩
          · obtain ⟨k, hk⟩ := i1 F q
            exact ⟨_, st k _ hk⟩
          · obtain ⟨k', hk'⟩ := (i2 A' l' q).2 k R' hk
            exact ⟨_, st k' _ hk'⟩
noncomputable def gOrL (b : Nat → Int) (E : Nat) (f : Nat → Option zRs) : Nat → Nat → zSs → Option zRs
  | 0, _, _ => none
  | n + 1, A, l => match tw b E wOr A with
    | some A1 => (match gAll b E f n A1 with
      | none => none
      | some (.inr F) => some (.inr F)
      | some (.inl (A2, m)) => gOrL b E f n A2 (l ++ m ++ [(14, 0)]))
    | none => some (.inl (A, l))
/-- behind an all-of: the flat loop goes on -/
theorem gOrL_ok {f : Nat → Option zRs} : ∀ {n A : Nat} {l : zSs} {w : Bool} {R : zRs}, gOrL b E f n A (bif w then l ++ [(14, 0)] else l) = some R → tw b E wAnd A = none → ∃ k, gLoop b E f k A w l = some R
  | 0, _, _, _, _, h, _ => by cases h
  | n + 1, A, l, w, R, h, ha => by
    unfold gOrL at h
    cases h1 : tw b E wOr A with
    | none =>
      rw [h1] at h
      refine ⟨1, ?_⟩
      unfold gLoop
      rw [ha]
      dsimp only
      rw [h1]
      exact h
    | some A1 =>
      rw [h1] at h
      dsimp only at h
      cases h2 : gAll b E f n A1 with
      | none => rw [h2] at h; cases h
      | some q =>
        rw [h2] at h
        unfold gAll at h2
        cases h3 : f A1 with
        | none => rw [h3] at h2; cases h2
        | some q3 =>
        rw [h3] at h2
        have st : ∀ (A2 : Nat) (m : zSs) k R', f A1 = some (.inl (A2, m)) → gLoop b E f k A2 true ((bif w then l ++ [(14, 0)] else l) ++ m) = some R' → gLoop b E f (k + 1) A w l = some R' := by
          intro A2 m k R' hf hk
          unfold gLoop
          rw [ha]
          dsimp only
          rw [h1]
          dsimp only
          rw [hf]
          exact hk
        cases q3 with
        | inr F =>
          cases h2
          cases h
          refine ⟨1, ?_⟩
          unfold gLoop
          rw [ha]
          dsimp only
          rw [h1]
          dsimp only
          rw [h3]
        | inl q3 =>
          obtain ⟨A2, m⟩ := q3
          dsimp only at h2
          obtain ⟨i1, i2⟩ := gAndL_ok (w := true) (p := bif w then l ++ [(14, 0)] else l) h2
          cases q with
          | inr F =>
            cases h
            obtain ⟨k, hk⟩ := i1 F rfl
            exact ⟨_, st A2 m k _ h3 hk⟩
          | inl q =>
            obtain ⟨A3, m3⟩ := q
            dsimp only at h
            obtain ⟨j1, j2⟩ := i2 A3 m3 rfl
            have h9 : gOrL b E f n A3 (bif true then ((bif w then l ++ [(14, 0)] else l) ++ m3) ++ [(14, 0)] else ((bif w then l ++ [(14, 0)] else l) ++ m3)) = some R := h
            obtain ⟨k, hk⟩ := gOrL_ok h9 j1
            obtain ⟨k', hk'⟩ := j2 k R hk
            exact ⟨_, st A2 m k' _ h3 hk'⟩
noncomputable def gCnd (b : Nat → Int) (E : Nat) (f : Nat → Option zRs) (n A : Nat) : Option zRs := match gAll b E f n A with
  | none => none
  | some (.inr F) => some (.inr F)
  | some (.inl (A1, l)) => gOrL b E f n A1 l
theorem gCnd_ok {f : Nat → Option zRs} {n A : Nat} {R : zRs} (h : gCnd b E f n A = some R) : ∃ k, gCond b E f k A = some R := by
  unfold gCnd at h
  cases h1 : gAll b E f n A with
  | none => rw [h1] at h; cases h
  | some q =>
    rw [h1] at h
    unfold gAll at h1
    cases h2 : f A with
    | none => rw [h2] at h1; cases h1
    | some q2 =>
      rw [h2] at h1
      cases q2 with
      | inr F =>
        cases h1
        cases h
        refine ⟨0, ?_⟩
        unfold gCond
        rw [h2]
      | inl q2 =>
        obtain ⟨A1, l⟩ := q2
        dsimp only at h1
        obtain ⟨i1, i2⟩ := gAndL_ok (w := false) (p := []) h1
        cases q with
        | inr F =>
          cases h
          obtain ⟨k, hk⟩ := i1 F rfl
          refine ⟨k, ?_⟩
          unfold gCond
          rw [h2]
          exact hk
        | inl q =>
          obtain ⟨A3, m3⟩ := q
          dsimp only at h
          obtain ⟨j1, j2⟩ := i2 A3 m3 rfl
          obtain ⟨k, hk⟩ := gOrL_ok (w := false) h j1
          obtain ⟨k', hk'⟩ := j2 k R hk
          refine ⟨k', ?_⟩
          unfold gCond
          rw [h2]
          exact hk'
end GMO
end
section
/-! the grammar as relations: how each comes about, and that each has one end -/
section GRE
variable {b : Nat → Int} {E : Nat}
noncomputable def GSL (b : Nat → Int) (E A : Nat) (l : zSs) (R : zRs) : Prop := ∃ n, gSumL b E n A l = some R
noncomputable def GS (b : Nat → Int) (E A : Nat) (R : zRs) : Prop := ∃ n, gSum b E n A = some R
noncomputable def GB (b : Nat → Int) (E A : Nat) (R : zRs) : Prop := ∃ n, gBase b E n A = some R
noncomputable def GA (b : Nat → Int) (E D A : Nat) (R : zRs) : Prop := ∃ n, gAtom b E n D A = some R
noncomputable def GL (b : Nat → Int) (E D A : Nat) (w : Bool) (l : zSs) (R : zRs) : Prop := ∃ n, gLoop b E (gAtom b E n D) n A w l = some R
noncomputable def GC (b : Nat → Int) (E D A : Nat) (R : zRs) : Prop := ∃ n, gCond b E (gAtom b E n D) n A = some R
noncomputable def GN (b : Nat → Int) (E D A : Nat) (l : zSs) (R : zRs) : Prop := ∃ n, gAndL b E (gAtom b E n D) n A l = some R
noncomputable def GW (b : Nat → Int) (E D A : Nat) (R : zRs) : Prop := ∃ n, gAll b E (gAtom b E n D) n A = some R
noncomputable def GO (b : Nat → Int) (E D A : Nat) (l : zSs) (R : zRs) : Prop := ∃ n, gOrL b E (gAtom b E n D) n A l = some R
theorem gAndL_mono {f g : Nat → Option zRs} (hf : ∀ A R, f A = some R → g A = some R) {R : zRs} : ∀ {n m A : Nat} {l : zSs}, gAndL b E f n A l = some R → n ≤ m → gAndL b E g m A l = some R
  | 0, _, _, _, h, _ => by cases h
  | n + 1, 0, _, _, _, hm => by omega
  | n + 1, m + 1, A, l, h, hm => by
    unfold gAndL at h ⊢
    cases h1 : tw b E wAnd A with
    | none => rw [h1] at h; exact h
    | some A1 =>
      rw [h1] at h
      dsimp only at h ⊢
      cases h2 : f A1 with
      | none => rw [h2] at h; cases h
      | some q =>
        rw [h2] at h
        rw [hf _ _ h2]
        cases q with
        | inr F => exact h
        | inl q => exact gAndL_mono hf h (by omega)
theorem gAll_mono {f g : Nat → Option zRs} (hf : ∀ A R, f A = some R → g A = some R) {R : zRs} {n m A : Nat} (h : gAll b E f n A = some R) (hm : n ≤ m) : gAll b E g m A = some R := by
  unfold gAll at h ⊢
  cases h2 : f A with
  | none => rw [h2] at h; cases h
  | some q =>
    rw [h2] at h
    rw [hf _ _ h2]
    cases q with
    | inr F => exact h
    | inl q => exact gAndL_mono hf h hm
theorem gOrL_mono {f g : Nat → Option zRs} (hf : ∀ A R, f A = some R → g A = some R) {R : zRs} : ∀ {n m A : Nat} {l : zSs}, gOrL b E f n A l = some R → n ≤ m → gOrL b E g m A l = some R
  | 0, _, _, _, h, _ => by cases h
  | n + 1, 0, _, _, _, hm => by omega
  | n + 1, m + 1, A, l, h, hm => by
    unfold gOrL at h ⊢
    cases h1 : tw b E wOr A with
    | none => rw [h1] at h; exact h
    | some A1 =>
      rw [h1] at h
      dsimp only at h ⊢
      cases h2 : gAll b E f n A1 with
      | none => rw [h2] at h; cases h
      | some q =>
        rw [h2] at h
        rw [gAll_mono hf h2 (by omega)]
        cases q with
        | inr F => exact h
        | inl q => exact gOrL_mono hf h (by omega)
theorem gAm {n m D : Nat} (h : n ≤ m) : ∀ A R, gAtom b E n D A = some R → gAtom b E m D A = some R := fun _ _ q => gAtom_mono q h
theorem GSL.stop {A : Nat} {l : zSs} (h : ts b E 43 A = none) : GSL b E A l (.inl (A, l)) := ⟨1, by unfold gSumL; rw [h]⟩
theorem GSL.wrong {A A1 F : Nat} {l : zSs} (h : ts b E 43 A = some A1) (h1 : gPart b E A1 = .inr F) : GSL b E A l (.inr F) := ⟨1, by unfold gSumL; rw [h]; dsimp only; rw [h1]⟩
theorem GSL.step {A A1 A2 : Nat} {l m : zSs} {R : zRs} (h : ts b E 43 A = some A1) (h1 : gPart b E A1 = .inl (A2, m)) (h2 : GSL b E A2 (l ++ m ++ [(9, 0)]) R) : GSL b E A l R := by
  obtain ⟨n, h2⟩ := h2
  exact ⟨n + 1, by unfold gSumL; rw [h]; dsimp only; rw [h1]; exact h2⟩
theorem GS.wrong {A F : Nat} (h : gPart b E A = .inr F) : GS b E A (.inr F) := ⟨0, by unfold gSum; rw [h]⟩
theorem GS.go {A A1 : Nat} {l : zSs} {R : zRs} (h : gPart b E A = .inl (A1, l)) (h1 : GSL b E A1 l R) : GS b E A R := by
  obtain ⟨n, h1⟩ := h1
  exact ⟨n, by unfold gSum; rw [h]; exact h1⟩
theorem GB.night {A A1 : Nat} (h : tw b E wNight A = some A1) : GB b E A (.inl (A1, [(6, 0)])) := ⟨0, by unfold gBase; rw [h]⟩
theorem GB.wished {A A1 : Nat} (h : tw b E wNight A = none) (h1 : tw b E wWished A = some A1) : GB b E A (.inl (A1, [(7, 0)])) := ⟨0, by unfold gBase; rw [h]; dsimp only; rw [h1]⟩
theorem GB.wrong1 {A F : Nat} (h : tw b E wNight A = none) (h1 : tw b E wWished A = none) (h2 : GS b E A (.inr F)) : GB b E A (.inr F) := by
  obtain ⟨n, h2⟩ := h2
  exact ⟨n, by unfold gBase; rw [h]; dsimp only; rw [h1]; dsimp only; rw [h2]⟩
theorem GB.wrong2 {A A1 : Nat} {l : zSs} (h : tw b E wNight A = none) (h1 : tw b E wWished A = none) (h2 : GS b E A (.inl (A1, l))) (h3 : ts b E 60 A1 = none) (h4 : ts b E 62 A1 = none) : GB b E A (.inr A1) := by
  obtain ⟨n, h2⟩ := h2
  exact ⟨n, by unfold gBase; rw [h]; dsimp only; rw [h1]; dsimp only; rw [h2]; dsimp only; rw [h3]; dsimp only; rw [h4]⟩
theorem GB.less {A A1 A2 : Nat} {l : zSs} {R : zRs} (h : tw b E wNight A = none) (h1 : tw b E wWished A = none) (h2 : GS b E A (.inl (A1, l))) (h3 : ts b E 60 A1 = some A2) (h4 : GS b E A2 R) : GB b E A (match R with | .inr F => .inr F | .inl (A3, m) => .inl (A3, l ++ m ++ [(10, 0)])) := by
  obtain ⟨n, h2⟩ := h2
  obtain ⟨k, h4⟩ := h4
  refine ⟨max n k, ?_⟩
  unfold gBase
  rw [h]
  dsimp only
  rw [h1]
  dsimp only
  rw [gSum_mono h2 (Nat.le_max_left n k)]
  dsimp only
  rw [h3]
  dsimp only
  rw [gSum_mono h4 (Nat.le_max_right n k)]
  cases R <;> rfl
theorem GB.more {A A1 A2 : Nat} {l : zSs} {R : zRs} (h : tw b E wNight A = none) (h1 : tw b E wWished A = none) (h2 : GS b E A (.inl (A1, l))) (h3 : ts b E 60 A1 = none) (h5 : ts b E 62 A1 = some A2) (h4 : GS b E A2 R) : GB b E A (match R with | .inr F => .inr F | .inl (A3, m) => .inl (A3, l ++ m ++ [(11, 0)])) := by
  obtain ⟨n, h2⟩ := h2
  obtain ⟨k, h4⟩ := h4
  refine ⟨max n k, ?_⟩
  unfold gBase
  rw [h]
  dsimp only
  rw [h1]
  dsimp only
  rw [gSum_mono h2 (Nat.le_max_left n k)]
  dsimp only
  rw [h3]
  dsimp only
  rw [h5]
  dsimp only
  rw [gSum_mono h4 (Nat.le_max_right n k)]
  cases R <;> rfl
theorem GA.base {D A : Nat} {R : zRs} (h : ts b E 40 A = none) (h1 : tw b E wNot A = none) (h2 : GB b E A R) : GA b E D A R := by
  obtain ⟨n, h2⟩ := h2
  exact ⟨n + 1, by unfold gAtom; rw [h]; dsimp only; rw [h1]; exact h2⟩
theorem GA.deep1 {A A1 : Nat} (h : ts b E 40 A = some A1) : GA b E 6 A (.inr A) := ⟨1, by unfold gAtom; rw [h]; rfl⟩
theorem GA.deep2 {A A1 : Nat} (h : ts b E 40 A = none) (h1 : tw b E wNot A = some A1) : GA b E 6 A (.inr A) := ⟨1, by unfold gAtom; rw [h]; dsimp only; rw [h1]; rfl⟩
theorem GA.not {D A A1 : Nat} {R : zRs} (hD : D ≠ 6) (h : ts b E 40 A = none) (h1 : tw b E wNot A = some A1) (h2 : GA b E (D + 1) A1 R) : GA b E D A (match R with | .inr F => .inr F | .inl (A2, l) => .inl (A2, l ++ [(12, 0)])) := by
  obtain ⟨n, h2⟩ := h2
  refine ⟨n + 1, ?_⟩
  unfold gAtom
  rw [h]
  dsimp only
  rw [h1]
  dsimp only
  rw [if_neg hD, h2]
  cases R <;> rfl
theorem GA.par {D A A1 : Nat} {R : zRs} (hD : D ≠ 6) (h : ts b E 40 A = some A1) (h2 : GC b E (D + 1) A1 R) : GA b E D A (match R with | .inr F => .inr F | .inl (A2, l) => (match ts b E 41 A2 with | some A3 => .inl (A3, l) | none => .inr A2)) := by
  obtain ⟨n, h2⟩ := h2
  refine ⟨n + 1, ?_⟩
  unfold gAtom
  rw [h]
  dsimp only
  rw [if_neg hD, h2]
  cases R with
  | inr F => rfl
  | inl q =>
    obtain ⟨A2, l⟩ := q
    dsimp only
    cases ts b E 41 A2 <;> rfl
theorem GL.stop {D A : Nat} {w : Bool} {l : zSs} (h : tw b E wAnd A = none) (h1 : tw b E wOr A = none) : GL b E D A w l (.inl (A, bif w then l ++ [(14, 0)] else l)) := ⟨1, by unfold gLoop; rw [h]; dsimp only; rw [h1]⟩
theorem GL.and0 {D A A1 F : Nat} {w : Bool} {l : zSs} (h : tw b E wAnd A = some A1) (h1 : GA b E D A1 (.inr F)) : GL b E D A w l (.inr F) := by
  obtain ⟨n, h1⟩ := h1
  exact ⟨n + 1, by unfold gLoop; rw [h]; dsimp only; rw [gAtom_mono h1 (Nat.le_succ n)]⟩
theorem GL.and1 {D A A1 A2 : Nat} {w : Bool} {l m : zSs} {R : zRs} (h : tw b E wAnd A = some A1) (h1 : GA b E D A1 (.inl (A2, m))) (h2 : GL b E D A2 w (l ++ m ++ [(13, 0)]) R) : GL b E D A w l R := by
  obtain ⟨n, h1⟩ := h1
  obtain ⟨k, h2⟩ := h2
  refine ⟨max n k + 1, ?_⟩
  unfold gLoop
  rw [h]
  dsimp only
  rw [gAtom_mono h1 (show n ≤ max n k + 1 by omega)]
  exact gLoop_mono (gAm (by omega)) h2 (by omega)
theorem GL.or0 {D A A1 F : Nat} {w : Bool} {l : zSs} (h : tw b E wAnd A = none) (h0 : tw b E wOr A = some A1) (h1 : GA b E D A1 (.inr F)) : GL b E D A w l (.inr F) := by
  obtain ⟨n, h1⟩ := h1
  exact ⟨n + 1, by unfold gLoop; rw [h]; dsimp only; rw [h0]; dsimp only; rw [gAtom_mono h1 (Nat.le_succ n)]⟩
theorem GL.or1 {D A A1 A2 : Nat} {w : Bool} {l m : zSs} {R : zRs} (h : tw b E wAnd A = none) (h0 : tw b E wOr A = some A1) (h1 : GA b E D A1 (.inl (A2, m))) (h2 : GL b E D A2 true ((bif w then l ++ [(14, 0)] else l) ++ m) R) : GL b E D A w l R := by
  obtain ⟨n, h1⟩ := h1
  obtain ⟨k, h2⟩ := h2
  refine ⟨max n k + 1, ?_⟩
  unfold gLoop
  rw [h]
  dsimp only
  rw [h0]
  dsimp only
  rw [gAtom_mono h1 (show n ≤ max n k + 1 by omega)]
  exact gLoop_mono (gAm (by omega)) h2 (by omega)
theorem GC.wrong {D A F : Nat} (h : GA b E D A (.inr F)) : GC b E D A (.inr F) := by
  obtain ⟨n, h⟩ := h
  exact ⟨n, by unfold gCond; rw [h]⟩
theorem GC.go {D A A1 : Nat} {l : zSs} {R : zRs} (h : GA b E D A (.inl (A1, l))) (h1 : GL b E D A1 false l R) : GC b E D A R := by
  obtain ⟨n, h⟩ := h
  obtain ⟨k, h1⟩ := h1
  refine ⟨max n k, ?_⟩
  unfold gCond
  rw [gAtom_mono h (Nat.le_max_left n k)]
  exact gLoop_mono (gAm (Nat.le_max_right n k)) h1 (Nat.le_max_right n k)
theorem GN.stop {D A : Nat} {l : zSs} (h : tw b E wAnd A = none) : GN b E D A l (.inl (A, l)) := ⟨1, by unfold gAndL; rw [h]⟩
theorem GN.wrong {D A A1 F : Nat} {l : zSs} (h : tw b E wAnd A = some A1) (h1 : GA b E D A1 (.inr F)) : GN b E D A l (.inr F) := by
  obtain ⟨n, h1⟩ := h1
  exact ⟨n + 1, by unfold gAndL; rw [h]; dsimp only; rw [gAtom_mono h1 (Nat.le_succ n)]⟩
theorem GN.step {D A A1 A2 : Nat} {l m : zSs} {R : zRs} (h : tw b E wAnd A = some A1) (h1 : GA b E D A1 (.inl (A2, m))) (h2 : GN b E D A2 (l ++ m ++ [(13, 0)]) R) : GN b E D A l R := by
  obtain ⟨n, h1⟩ := h1
  obtain ⟨k, h2⟩ := h2
  refine ⟨max n k + 1, ?_⟩
  unfold gAndL
  rw [h]
  dsimp only
  rw [gAtom_mono h1 (show n ≤ max n k + 1 by omega)]
  exact gAndL_mono (gAm (by omega)) h2 (by omega)
theorem GW.wrong {D A F : Nat} (h : GA b E D A (.inr F)) : GW b E D A (.inr F) := by
  obtain ⟨n, h⟩ := h
  exact ⟨n, by unfold gAll; rw [h]⟩
theorem GW.go {D A A1 : Nat} {l : zSs} {R : zRs} (h : GA b E D A (.inl (A1, l))) (h1 : GN b E D A1 l R) : GW b E D A R := by
  obtain ⟨n, h⟩ := h
  obtain ⟨k, h1⟩ := h1
  refine ⟨max n k, ?_⟩
  unfold gAll
  rw [gAtom_mono h (Nat.le_max_left n k)]
  exact gAndL_mono (gAm (Nat.le_max_right n k)) h1 (Nat.le_max_right n k)
theorem GO.stop {D A : Nat} {l : zSs} (h : tw b E wOr A = none) : GO b E D A l (.inl (A, l)) := ⟨1, by unfold gOrL; rw [h]⟩
theorem GO.wrong {D A A1 F : Nat} {l : zSs} (h : tw b E wOr A = some A1) (h1 : GW b E D A1 (.inr F)) : GO b E D A l (.inr F) := by
  obtain ⟨n, h1⟩ := h1
  exact ⟨n + 1, by unfold gOrL; rw [h]; dsimp only; rw [gAll_mono (gAm (Nat.le_succ n)) h1 (Nat.le_refl n)]⟩
theorem GO.step {D A A1 A2 : Nat} {l m : zSs} {R : zRs} (h : tw b E wOr A = some A1) (h1 : GW b E D A1 (.inl (A2, m))) (h2 : GO b E D A2 (l ++ m ++ [(14, 0)]) R) : GO b E D A l R := by
  obtain ⟨n, h1⟩ := h1
  obtain ⟨k, h2⟩ := h2
  refine ⟨max n k + 1, ?_⟩
  unfold gOrL
  rw [h]
  dsimp only
  rw [gAll_mono (gAm (show n ≤ max n k + 1 by omega)) h1 (show n ≤ max n k by omega)]
  exact gOrL_mono (gAm (by omega)) h2 (by omega)
theorem GC.nest0 {D A F : Nat} (h : GW b E D A (.inr F)) : GC b E D A (.inr F) := by
  obtain ⟨n, h⟩ := h
  obtain ⟨k, hk⟩ := gCnd_ok (f := gAtom b E n D) (n := n) (A := A) (R := .inr F) (by unfold gCnd; rw [h])
  exact ⟨max n k, gCond_mono (gAm (Nat.le_max_left n k)) hk (Nat.le_max_right n k)⟩
theorem GC.nest1 {D A A1 : Nat} {l : zSs} {R : zRs} (h : GW b E D A (.inl (A1, l))) (h1 : GO b E D A1 l R) : GC b E D A R := by
  obtain ⟨n, h⟩ := h
  obtain ⟨k, h1⟩ := h1
  obtain ⟨k', hk⟩ := gCnd_ok (f := gAtom b E (max n k) D) (n := max n k) (A := A) (R := R) (by
    unfold gCnd
    rw [gAll_mono (gAm (Nat.le_max_left n k)) h (Nat.le_max_left n k)]
    exact gOrL_mono (gAm (Nat.le_max_right n k)) h1 (Nat.le_max_right n k))
  exact ⟨max (max n k) k', gCond_mono (gAm (Nat.le_max_left _ _)) hk (Nat.le_max_right _ _)⟩
theorem GC.det {D A : Nat} {R R' : zRs} (h : GC b E D A R) (h' : GC b E D A R') : R = R' := by
  obtain ⟨n, h⟩ := h
  obtain ⟨k, h'⟩ := h'
  have h1 := gCond_mono (gAm (Nat.le_max_left n k)) h (Nat.le_max_left n k)
  have h2 := gCond_mono (gAm (Nat.le_max_right n k)) h' (Nat.le_max_right n k)
  rw [h1] at h2
  exact Option.some.inj h2
end GRE
end
section
/-! the reference's reader of a condition, exact; printed with wip/gen/gen_t3.py -/
noncomputable def rG (σ : zSg) (a W : Nat) (b : Nat → Int) (P E D : Nat) (l : zSs) : Prop := rS σ a P E ∧ rb σ a = b ∧ σ.1 a 1 = .ref W ∧ W ≠ a ∧ q_r (σ.1 a 8) ≠ W ∧ σ.2.1 W = 2086 ∧ σ.1 a 13 = .int (Int32.ofNat D) ∧ D ≤ 6 ∧ σ.1 a 16 = .int (Int32.ofNat l.length) ∧ l.length ≤ 400 ∧ ∀ i x, l[i]? = some x → σ.1 W (1286 + 2 * i) = .int (Int32.ofNat x.1) ∧ σ.1 W (1287 + 2 * i) = .int (Int32.ofNat x.2)
noncomputable def rF (σ σ' : zSg) (a W : Nat) : Prop := σ'.2 = σ.2 ∧ ∀ c k, ¬ (c = a ∧ (k = 10 ∨ k = 12 ∨ k = 13 ∨ k = 16)) → ¬ (c = W ∧ 1286 ≤ k) → σ'.1 c k = σ.1 c k
noncomputable def rO (σ' : zSg) (a W : Nat) (b : Nat → Int) (E D : Nat) (l : zSs) (r : Int32) (R : zRs) : Prop := match R with
  | .inl (A1, m) => r.toInt ≠ 0 ∧ ∃ P', P' ≤ E ∧ zBl b E P' = A1 ∧ rG σ' a W b P' E D (l ++ m)
  | .inr F => r.toInt = 0 ∧ σ'.1 a 12 = .int (Int32.ofNat F)
section RGL
variable {σ τ υ : zSg} {a W P E D : Nat} {b : Nat → Int} {l : zSs}
theorem rF.rf : rF σ σ a W := ⟨rfl, fun _ _ _ _ => rfl⟩
theorem rF.tr (h1 : rF σ τ a W) (h2 : rF τ υ a W) : rF σ υ a W := ⟨h2.1.trans h1.1, fun c k q1 q2 => (h2.2 c k q1 q2).trans (h1.2 c k q1 q2)⟩
theorem rF.w {k : Nat} {v : Value} (h : k = 10 ∨ k = 12 ∨ k = 13 ∨ k = 16) : rF σ (q_w σ a k v) a W := ⟨rfl, fun c i q1 _ => q_w_ne (fun e1 e2 => q1 ⟨e1, by omega⟩)⟩
theorem rF.rs {K Q : Nat} : rF σ (q_rs σ a K Q) a W := (rF.w (Or.inl rfl)).tr (rF.w (Or.inr (Or.inl rfl)))
theorem rF.ww {k : Nat} {v : Value} (h : 1286 ≤ k) : rF σ (q_w σ W k v) a W := ⟨rfl, fun c i _ q2 => q_w_ne (fun e1 e2 => q2 ⟨e1, by omega⟩)⟩
/-- a write of the reader's own -/
theorem rG.w {k : Nat} {v : Value} (H : rG σ a W b P E D l) (h : k = 12) : rG (q_w σ a k v) a W b P E D l := by
  obtain ⟨h1, h2, h3, h4, h5, h6, h7, h8, h9, h10, h11⟩ := H
  subst h
  refine ⟨h1.bg, (rb_w h1.1 (by omega)).trans h2, ?_, h4, ?_, h6, ?_, h8, ?_, h10, fun i x hx => ?_⟩
  · rw [q_w_ne (fun _ q => by omega)]; exact h3
  · rw [q_w_ne (fun _ q => by omega)]; exact h5
  · rw [q_w_ne (fun _ q => by omega)]; exact h7
  · rw [q_w_ne (fun _ q => by omega)]; exact h9
  · rw [q_w_ne (fun q _ => h4 q), q_w_ne (fun q _ => h4 q)]; exact h11 i x hx
theorem rG.pt {K : Nat} (H : rG σ a W b P E D l) (h : K ≤ E) : rG (q_w σ a 10 (.int (Int32.ofNat K))) a W b K E D l := by
  obtain ⟨h1, h2, h3, h4, h5, h6, h7, h8, h9, h10, h11⟩ := H
  refine ⟨h1.pt h, (rb_w h1.1 (by omega)).trans h2, ?_, h4, ?_, h6, ?_, h8, ?_, h10, fun i x hx => ?_⟩
  · rw [q_w_ne (fun _ q => by omega)]; exact h3
  · rw [q_w_ne (fun _ q => by omega)]; exact h5
  · rw [q_w_ne (fun _ q => by omega)]; exact h7
  · rw [q_w_ne (fun _ q => by omega)]; exact h9
  · rw [q_w_ne (fun q _ => h4 q), q_w_ne (fun q _ => h4 q)]; exact h11 i x hx
theorem rG.rs {K Q : Nat} (H : rG σ a W b P E D l) (h : K ≤ E) : rG (q_rs σ a K Q) a W b K E D l := (H.pt h).w rfl
theorem rG.dp {K : Nat} (H : rG σ a W b P E D l) (h : K ≤ 6) : rG (q_w σ a 13 (.int (Int32.ofNat K))) a W b P E K l := by
  obtain ⟨h1, h2, h3, h4, h5, h6, h7, h8, h9, h10, h11⟩ := H
  obtain ⟨g1, g2, g3, g4, g5⟩ := h1
  refine ⟨⟨?_, ?_, ?_, g4, g5⟩, (rb_w g1 (by omega)).trans h2, ?_, h4, ?_, h6, q_w_at _ _ _ _, h, ?_, h10, fun i x hx => ?_⟩
  · rw [q_w_ne (fun _ q => by omega)]; exact g1
  · rw [q_w_ne (fun _ q => by omega)]; exact g2
  · rw [q_w_ne (fun _ q => by omega)]; exact g3
  · rw [q_w_ne (fun _ q => by omega)]; exact h3
  · rw [q_w_ne (fun _ q => by omega)]; exact h5
  · rw [q_w_ne (fun _ q => by omega)]; exact h9
  · rw [q_w_ne (fun q _ => h4 q), q_w_ne (fun q _ => h4 q)]; exact h11 i x hx
theorem rG.le (H : rG σ a W b P E D l) : P ≤ E ∧ E ≤ 400 := H.1.2.2.2
theorem rG.bl (H : rG σ a W b P E D l) : zBl b E P ≤ E := zBl_le H.le.1
theorem rG.nodp (H : rG σ a W b P E D l) : (q_i (σ.1 a 13)).toInt = (D : Int) := by
  have := H.2.2.2.2.2.2.2.1
  rw [H.2.2.2.2.2.2.1]
  exact o32 (by omega)
/-- a sign -/
theorem rG.sg {c r : Int32} (H : rG σ a W b P E D l) (G : p_206 a c σ r τ) : rF σ τ a W ∧ τ.1 a 12 = .int (Int32.ofNat (zBl b E P)) ∧ (r.toInt ≠ 0 → ts b E c.toInt (zBl b E P) = some (zBl b E (zBl b E P + 1)) ∧ rG τ a W b (zBl b E P + 1) E D l) ∧ (r.toInt = 0 → ts b E c.toInt (zBl b E P) = none ∧ rG τ a W b (zBl b E P) E D l) := by
  have hb := H.2.1
  have hB := H.bl
  have := G P E H.1
  rw [hb] at this
  rcases this with ⟨g1, g2, rfl⟩ | ⟨g1, g2, rfl⟩
  · refine ⟨rF.rs, q_rs_12, fun _ => ⟨?_, H.rs (by omega)⟩, fun q => absurd q g1⟩
    unfold ts
    rw [if_pos g2]
  · refine ⟨rF.rs, q_rs_12, fun q => absurd g1 q, fun _ => ⟨?_, H.rs hB⟩⟩
    unfold ts
    rw [if_neg g2]
/-- a word -/
theorem rG.ps {w : Nat} {s : List Int} {r : Int32} (H : rG σ a W b P E D l) (G : p_205 a w σ r τ) (hs : q_si w = s) (hn : s.length ≤ 100) : rF σ τ a W ∧ τ.1 a 12 = .int (Int32.ofNat (zBl b E P)) ∧ (r.toInt ≠ 0 → tw b E s (zBl b E P) = some (zBl b E (zBl b E P + s.length)) ∧ rG τ a W b (zBl b E P + s.length) E D l) ∧ (r.toInt = 0 → tw b E s (zBl b E P) = none ∧ rG τ a W b (zBl b E P) E D l) := by
  have hb := H.2.1
  have hB := H.bl
  have hl : (q_s w).length = s.length := by rw [← hs, q_si_len]
  have := G P E H.1 (by omega)
  rw [hb, hs, hl] at this
  rcases this with ⟨g1, g2, rfl⟩ | ⟨g1, g2, rfl⟩
  · have g3 : zBl b E P + s.length ≤ E := by
      have h9 : zRn b E 97 122 (zBl b E P) = zBl b E P + s.length := g2.1
      rw [← h9]
      exact zRn_le hB
    refine ⟨rF.rs, q_rs_12, fun _ => ⟨?_, H.rs g3⟩, fun q => absurd q g1⟩
    exact tw_pos g2
  · refine ⟨rF.rs, q_rs_12, fun q => absurd g1 q, fun _ => ⟨?_, H.rs hB⟩⟩
    exact tw_neg g2
/-- letters, then words asked for -/
theorem rG.lt (H : rG σ a W b P E D l) (G : p_203 a σ τ) : rF σ τ a W ∧ τ.1 a 12 = .int (Int32.ofNat (zBl b E P)) ∧ τ.1 a 10 = .int (Int32.ofNat (zLt b E (zBl b E P))) ∧ rG τ a W b (zLt b E (zBl b E P)) E D l := by
  have := G P E H.1
  rw [H.2.1] at this
  subst this
  exact ⟨rF.rs, q_rs_12, q_rs_10, H.rs (zRn_le H.bl)⟩
theorem rG.wd {w A : Nat} {s : List Int} {r : Int32} (H : rG τ a W b (zLt b E A) E D l) (h12 : τ.1 a 12 = .int (Int32.ofNat A)) (G : p_204 a w τ r υ) (hs : q_si w = s) (hn : s.length ≤ 100) : υ = τ ∧ (r.toInt ≠ 0 → zWa b E s A ∧ tw b E s A = some (zBl b E (zLt b E A))) ∧ (r.toInt = 0 → tw b E s A = none) := by
  have hl : (q_s w).length = s.length := by rw [← hs, q_si_len]
  have h9 := G.2 _ A E H.1 h12 zRn_ge (by omega)
  rw [H.2.1, hs] at h9
  refine ⟨G.1, fun q => ?_, fun q => ?_⟩
  · have q1 : zWa b E s A := h9.mp q
    refine ⟨q1, ?_⟩
    rw [tw_pos q1, ← show zLt b E A = A + s.length from q1.1]
  · exact tw_neg (fun q1 => (h9.mpr q1) q)
end RGL
noncomputable def p_221 (a : Nat) (x y : Int32) (σ σ' : zSg) : Prop := ∀ W b P E D l, rG σ a W b P E D l → rF σ σ' a W ∧ σ'.1 a 12 = σ.1 a 12 ∧ ∀ m n : Nat, x = Int32.ofNat m → y = Int32.ofNat n → rG σ' a W b P E D (l ++ [(m, n)])
theorem zEmm {s : Nat} (h : s ≤ 400) : (Int32.ofInt 1286 + Int32.ofInt 2 * Int32.ofNat s).toInt = 1286 + 2 * (s : Int) := by
  have e : (Int32.ofInt 2 * Int32.ofNat s).toInt = 2 * (s : Int) := by
    rw [Int32.toInt_mul, zI_c (by omega) (by omega), o32 (by omega)]
    exact z_bm (by omega) (by omega)
  exact zI_add (zI_c (by omega) (by omega)) e (by omega) (by omega)
theorem sp_221_e (a0 : Nat) (a1 : Int32) (a2 : Int32) (σ : zSg) (h1 : 0 ≤ ((Int32.ofInt (1286)) + ((Int32.ofInt (2)) * (q_i (σ.1 a0 16)))).toInt ∧ ((Int32.ofInt (1286)) + ((Int32.ofInt (2)) * (q_i (σ.1 a0 16)))).toInt < (σ.2.1 (q_r (σ.1 a0 1)) : Int)) (h2 : 0 ≤ (((Int32.ofInt (1286)) + ((Int32.ofInt (2)) * (q_i ((q_w σ (q_r (σ.1 a0 1)) ((Int32.ofInt (1286)) + ((Int32.ofInt (2)) * (q_i (σ.1 a0 16)))).toNatClampNeg (.int a1)).1 a0 16)))) + (Int32.ofInt (1))).toInt ∧ (((Int32.ofInt (1286)) + ((Int32.ofInt (2)) * (q_i ((q_w σ (q_r (σ.1 a0 1)) ((Int32.ofInt (1286)) + ((Int32.ofInt (2)) * (q_i (σ.1 a0 16)))).toNatClampNeg (.int a1)).1 a0 16)))) + (Int32.ofInt (1))).toInt < ((q_w σ (q_r (σ.1 a0 1)) ((Int32.ofInt (1286)) + ((Int32.ofInt (2)) * (q_i (σ.1 a0 16)))).toNatClampNeg (.int a1)).2.1 (q_r ((q_w σ (q_r (σ.1 a0 1)) ((Int32.ofInt (1286)) + ((Int32.ofInt (2)) * (q_i (σ.1 a0 16)))).toNatClampNeg (.int a1)).1 a0 1)) : Int)) :
    p_221 (a0) (a1) (a2) σ (q_w (q_w (q_w σ (q_r (σ.1 a0 1)) ((Int32.ofInt (1286)) + ((Int32.ofInt (2)) * (q_i (σ.1 a0 16)))).toNatClampNeg (.int a1)) (q_r ((q_w σ (q_r (σ.1 a0 1)) ((Int32.ofInt (1286)) + ((Int32.ofInt (2)) * (q_i (σ.1 a0 16)))).toNatClampNeg (.int a1)).1 a0 1)) (((Int32.ofInt (1286)) + ((Int32.ofInt (2)) * (q_i ((q_w σ (q_r (σ.1 a0 1)) ((Int32.ofInt (1286)) + ((Int32.ofInt (2)) * (q_i (σ.1 a0 16)))).toNatClampNeg (.int a1)).1 a0 16)))) + (Int32.ofInt (1))).toNatClampNeg (.int a2)) a0 16 (.int ((q_i ((q_w (q_w σ (q_r (σ.1 a0 1)) ((Int32.ofInt (1286)) + ((Int32.ofInt (2)) * (q_i (σ.1 a0 16)))).toNatClampNeg (.int a1)) (q_r ((q_w σ (q_r (σ.1 a0 1)) ((Int32.ofInt (1286)) + ((Int32.ofInt (2)) * (q_i (σ.1 a0 16)))).toNatClampNeg (.int a1)).1 a0 1)) (((Int32.ofInt (1286)) + ((Int32.ofInt (2)) * (q_i ((q_w σ (q_r (σ.1 a0 1)) ((Int32.ofInt (1286)) + ((Int32.ofInt (2)) * (q_i (σ.1 a0 16)))).toNatClampNeg (.int a1)).1 a0 16)))) + (Int32.ofInt (1))).toNatClampNeg (.int a2)).1 a0 16)) + (Int32.ofInt (1))))) := by
  intro W b P E D l H
  obtain ⟨g1, g2, g3, g4, g5, g6, g7, g8, g9, g10, g11⟩ := id H
  have e1 := zEmm g10
  have n1 : (Int32.ofInt 1286 + Int32.ofInt 2 * Int32.ofNat l.length).toNatClampNeg = 1286 + 2 * l.length := znat (by rw [e1]; omega)
  have e2 : (Int32.ofInt 1286 + Int32.ofInt 2 * Int32.ofNat l.length + Int32.ofInt 1).toInt = 1287 + 2 * (l.length : Int) := by
    rw [zI_add e1 (zI_c (by omega) (by omega)) (by omega) (by omega)]
    omega
  have n2 : (Int32.ofInt 1286 + Int32.ofInt 2 * Int32.ofNat l.length + Int32.ofInt 1).toNatClampNeg = 1287 + 2 * l.length := znat (by rw [e2]; omega)
  have q16 : q_i (σ.1 a0 16) = Int32.ofNat l.length := by rw [g9]; rfl
  have q1 : q_r (σ.1 a0 1) = W := by rw [g3]; rfl
  have ne : a0 = W → False := fun q => g4 q.symm
  simp only [q16, q1, n1] at h2 ⊢
  have r16 : q_i ((q_w σ W (1286 + 2 * l.length) (.int a1)).1 a0 16) = Int32.ofNat l.length := by rw [q_w_ne (fun q _ => ne q)]; exact q16
  have r1 : q_r ((q_w σ W (1286 + 2 * l.length) (.int a1)).1 a0 1) = W := by rw [q_w_ne (fun q _ => ne q)]; exact q1
  simp only [r16, r1, e2] at h2
  simp only [r16, r1, n2]
  have hl : l.length < 400 := by
    have h9 := h2.2
    rw [q_w_2, g6] at h9
    omega
  have s16 : q_i ((q_w (q_w σ W (1286 + 2 * l.length) (.int a1)) W (1287 + 2 * l.length) (.int a2)).1 a0 16) = Int32.ofNat l.length := by rw [q_w_ne (fun q _ => ne q)]; exact r16
  simp only [s16, o32i (show l.length ≤ 900 by omega)]
  refine ⟨((rF.ww (by omega)).tr (rF.ww (by omega))).tr (rF.w (by omega)), ?_, fun x y hx hy => ?_⟩
  · rw [q_w_ne (fun _ q => by omega), q_w_ne (fun q _ => ne q), q_w_ne (fun q _ => ne q)]
  · subst hx
    subst hy
    have go : ∀ c k, c ≠ W → ¬ (c = a0 ∧ k = 16) → (q_w (q_w (q_w σ W (1286 + 2 * l.length) (.int (Int32.ofNat x))) W (1287 + 2 * l.length) (.int (Int32.ofNat y))) a0 16 (.int (Int32.ofNat (l.length + 1)))).1 c k = σ.1 c k := by
      intro c k q1 q2
      rw [q_w_ne (fun e1 e2 => q2 ⟨e1, e2⟩), q_w_ne (fun e1 _ => q1 e1), q_w_ne (fun e1 _ => q1 e1)]
    have gw : ∀ k, (q_w (q_w (q_w σ W (1286 + 2 * l.length) (.int (Int32.ofNat x))) W (1287 + 2 * l.length) (.int (Int32.ofNat y))) a0 16 (.int (Int32.ofNat (l.length + 1)))).1 W k = if k = 1287 + 2 * l.length then .int (Int32.ofNat y) else if k = 1286 + 2 * l.length then .int (Int32.ofNat x) else σ.1 W k := by
      intro k
      rw [q_w_ne (fun e1 _ => g4 e1)]
      by_cases hk : k = 1287 + 2 * l.length
      · rw [if_pos hk, hk, q_w_at]
      · rw [if_neg hk, q_w_ne (fun _ e2 => hk e2)]
        by_cases hk2 : k = 1286 + 2 * l.length
        · rw [if_pos hk2, hk2, q_w_at]
        · rw [if_neg hk2, q_w_ne (fun _ e2 => hk2 e2)]
    obtain ⟨f1, f2, f3, f4, f5⟩ := g1
    refine ⟨⟨?_, ?_, ?_, f4, f5⟩, ?_, ?_, g4, ?_, g6, ?_, g8, ?_, ?_, fun i z hz => ?_⟩
    · rw [go _ _ (fun q => ne q) (fun q => by omega)]; exact f1
    · rw [go _ _ (fun q => ne q) (fun q => by omega)]; exact f2
    · rw [go _ _ (fun q => ne q) (fun q => by omega)]; exact f3
    · rw [← g2]
      funext i
      unfold rb
      rw [go a0 8 (fun q => ne q) (fun q => by omega), go _ _ g5 (fun q => f1 q.1)]
    · rw [go _ _ (fun q => ne q) (fun q => by omega)]; exact g3
    · rw [go _ _ (fun q => ne q) (fun q => by omega)]; exact g5
    · rw [go _ _ (fun q => ne q) (fun q => by omega)]; exact g7
    · rw [q_w_at, List.length_append]; rfl
    · rw [List.length_append]; show l.length + 1 ≤ 400; omega
    · rw [gw, gw]
      by_cases hi : i < l.length
      · rw [List.getElem?_append_left hi] at hz
        rw [if_neg (by omega), if_neg (by omega), if_neg (by omega), if_neg (by omega)]
        exact g11 i z hz
      · rw [List.getElem?_append_right (by omega)] at hz
        have hi2 : i = l.length := by
          cases hd : i - l.length with
          | zero => omega
          | succ n => rw [hd] at hz; simp at hz
        subst hi2
        rw [Nat.sub_self] at hz
        cases hz
        rw [if_neg (by omega), if_pos rfl, if_pos rfl]
        exact ⟨rfl, rfl⟩
noncomputable def qP_221 : zPp := fun as σ o σ' => match as with
  | [a0, a1, a2] => o = .inl none ∧ p_221 (q_r a0) (q_i a1) (q_i a2) σ σ'
  | _ => True
set_option maxRecDepth 100000 in
theorem sp_221 {sx : zX}  : zEe sx 221 3 qP_221 := by
  refine zfle zJ_221 (sps := []) (fun q hq => absurd hq List.not_mem_nil) (fun as σ hl => ?_)
  match as, hl with
  | [a0, a1, a2], _ =>
  refine ⟨[], 400, ?_, ?_⟩
  · exact fun q hq => absurd hq List.not_mem_nil
  · refine fun h1 => ?_
    refine fun h2 => ?_
    exact ⟨rfl, sp_221_e (q_r a0) (q_i a1) (q_i a2) σ (q_inp h1) (q_inp h2)⟩
theorem qsi_50 : q_si (zB + 50) = wFamily := by decide +kernel
theorem qsi_57 : q_si (zB + 57) = wHour := by decide +kernel
theorem qsi_58 : q_si (zB + 58) = wHeat := by decide +kernel
theorem qsi_59 : q_si (zB + 59) = wDirt := by decide +kernel
theorem qsi_60 : q_si (zB + 60) = wQuarrel := by decide +kernel
theorem qsi_49 : q_si (zB + 49) = wLeft := by decide +kernel
theorem qsi_61 : q_si (zB + 61) = wNight := by decide +kernel
theorem qsi_62 : q_si (zB + 62) = wWished := by decide +kernel
theorem qsi_63 : q_si (zB + 63) = wNot := by decide +kernel
theorem qsi_64 : q_si (zB + 64) = wAnd := by decide +kernel
theorem qsi_65 : q_si (zB + 65) = wOr := by decide +kernel
noncomputable def p_222 (a : Nat) (σ : zSg) (r : Int32) (σ' : zSg) : Prop := ∀ W b P E D l, rG σ a W b P E D l → rF σ σ' a W ∧ rO σ' a W b E D l r (gPart b E (zBl b E P))
theorem zLt_ne {b : Nat → Int} {E A : Nat} (h : zLt b E A ≠ A) : ¬ (A < E ∧ 48 ≤ b A ∧ b A ≤ 57) := by
  intro q
  have h1 : A < zLt b E A := Nat.lt_of_le_of_ne zRn_ge (fun e => h e.symm)
  have := zRn_in (b := b) (E := E) (lo := 97) (hi := 122) (P := A) (Nat.le_refl A) h1
  omega
theorem zDe_0 {b : Nat → Int} {E A : Nat} {lo hi : Int} (h : ¬ (A < E ∧ 48 ≤ b A ∧ b A ≤ 57)) : zNm b E lo hi A = -1 := by
  unfold zNm
  rw [show zDe b E A = A from zRn_f h, Nat.sub_self, if_neg (by omega)]
theorem zNm_ge {b : Nat → Int} {E A : Nat} {lo hi : Int} (h : zNm b E lo hi A ≠ -1) : 0 ≤ zNm b E lo hi A ∧ zNm b E lo hi A ≤ 1110 := by
  unfold zNm at h ⊢
  split at h
  · next hc =>
    rw [if_pos hc]
    exact zDv_in _ (by have := zRn_ge (b := b) (E := E) (lo := 48) (hi := 57) (P := A); show A + (zDe b E A - A) ≤ zDe b E A; have e : zDe b E A = zRn b E 48 57 A := rfl; omega)
  · exact absurd rfl h
theorem gPart_w {b : Nat → Int} {E A A1 c : Nat} (h : ¬ (A < E ∧ 48 ≤ b A ∧ b A ≤ 57)) (h1 : tws b E A [wFamily, wHour, wHeat, wDirt, wQuarrel, wLeft] 0 = some (A1, c)) : gPart b E A = .inl (A1, [(c, 0)]) := by
  unfold gPart
  rw [if_neg h, h1]
theorem gPart_n {b : Nat → Int} {E A : Nat} (h : ¬ (A < E ∧ 48 ≤ b A ∧ b A ≤ 57)) (h1 : tws b E A [wFamily, wHour, wHeat, wDirt, wQuarrel, wLeft] 0 = none) : gPart b E A = .inr A := by
  unfold gPart
  rw [if_neg h, h1]
theorem tw_0 {b : Nat → Int} {E A : Nat} {s : List Int} (h : zLt b E A = A) (hs : 0 < s.length) : tw b E s A = none := by
  exact tw_neg (fun q => by have h9 : zLt b E A = A + s.length := q.1; omega)
theorem sp_222_ettttttt (a0 : Nat) (σ : zSg) (τ1 : zSg) (τ3 : zSg) (r3 : Int32) (τ5 : zSg) (r5 : Int32) (τ7 : zSg) (r7 : Int32) (τ9 : zSg) (r9 : Int32) (τ11 : zSg) (r11 : Int32) (τ13 : zSg) (r13 : Int32) (τ15 : zSg) (g1 : p_203 a0 σ τ1) (h2 : (q_i (τ1.1 a0 10)).toInt ≠ (q_i (τ1.1 a0 12)).toInt) (g3 : p_204 a0 (zB + 50) τ1 r3 τ3) (h4 : r3.toInt = (0 : Int)) (g5 : p_204 a0 (zB + 57) τ3 r5 τ5) (h6 : r5.toInt = (0 : Int)) (g7 : p_204 a0 (zB + 58) τ5 r7 τ7) (h8 : r7.toInt = (0 : Int)) (g9 : p_204 a0 (zB + 59) τ7 r9 τ9) (h10 : r9.toInt = (0 : Int)) (g11 : p_204 a0 (zB + 60) τ9 r11 τ11) (h12 : r11.toInt = (0 : Int)) (g13 : p_204 a0 (zB + 49) τ11 r13 τ13) (h14 : r13.toInt = (0 : Int)) (g15 : p_221 a0 (Int32.ofInt (-1)) (Int32.ofInt (0)) τ13 τ15) :
    p_222 (a0) σ (Int32.ofInt (0)) τ15 := by
  intro W b P E D l H
  obtain ⟨f0, t12, t10, H0⟩ := H.lt g1
  have hz : zLt b E (zBl b E P) ≠ zBl b E P := by
    intro q
    rw [t10, t12, q] at h2
    exact h2 rfl
  have hd := zLt_ne hz
  obtain ⟨rfl, u0, v0⟩ := H0.wd t12 g3 qsi_50 (by decide)
  obtain ⟨rfl, u1, v1⟩ := H0.wd t12 g5 qsi_57 (by decide)
  obtain ⟨rfl, u2, v2⟩ := H0.wd t12 g7 qsi_58 (by decide)
  obtain ⟨rfl, u3, v3⟩ := H0.wd t12 g9 qsi_59 (by decide)
  obtain ⟨rfl, u4, v4⟩ := H0.wd t12 g11 qsi_60 (by decide)
  obtain ⟨rfl, u5, v5⟩ := H0.wd t12 g13 qsi_49 (by decide)
  have e0 := v0 h4
  have e1 := v1 h6
  have e2 := v2 h8
  have e3 := v3 h10
  have e4 := v4 h12
  have e5 := v5 h14
  have hp : gPart b E (zBl b E P) = .inr (zBl b E P) := gPart_n hd (by simp only [tws, e0, e1, e2, e3, e4, e5])
  obtain ⟨f1, s12, -⟩ := g15 W b _ E D l H0
  refine ⟨f0.tr f1, ?_⟩
  rw [hp]
  exact ⟨rfl, s12.trans t12⟩
theorem sp_222_ettttttf (a0 : Nat) (σ : zSg) (τ1 : zSg) (τ3 : zSg) (r3 : Int32) (τ5 : zSg) (r5 : Int32) (τ7 : zSg) (r7 : Int32) (τ9 : zSg) (r9 : Int32) (τ11 : zSg) (r11 : Int32) (τ13 : zSg) (r13 : Int32) (τ17 : zSg) (g1 : p_203 a0 σ τ1) (h2 : (q_i (τ1.1 a0 10)).toInt ≠ (q_i (τ1.1 a0 12)).toInt) (g3 : p_204 a0 (zB + 50) τ1 r3 τ3) (h4 : r3.toInt = (0 : Int)) (g5 : p_204 a0 (zB + 57) τ3 r5 τ5) (h6 : r5.toInt = (0 : Int)) (g7 : p_204 a0 (zB + 58) τ5 r7 τ7) (h8 : r7.toInt = (0 : Int)) (g9 : p_204 a0 (zB + 59) τ7 r9 τ9) (h10 : r9.toInt = (0 : Int)) (g11 : p_204 a0 (zB + 60) τ9 r11 τ11) (h12 : r11.toInt = (0 : Int)) (g13 : p_204 a0 (zB + 49) τ11 r13 τ13) (h14 : r13.toInt ≠ (0 : Int)) (g17 : p_221 a0 (Int32.ofInt (5)) (Int32.ofInt (0)) τ13 τ17) :
    p_222 (a0) σ (Int32.ofInt (1)) τ17 := by
  intro W b P E D l H
  obtain ⟨f0, t12, t10, H0⟩ := H.lt g1
  have hz : zLt b E (zBl b E P) ≠ zBl b E P := by
    intro q
    rw [t10, t12, q] at h2
    exact h2 rfl
  have hd := zLt_ne hz
  obtain ⟨rfl, u0, v0⟩ := H0.wd t12 g3 qsi_50 (by decide)
  obtain ⟨rfl, u1, v1⟩ := H0.wd t12 g5 qsi_57 (by decide)
  obtain ⟨rfl, u2, v2⟩ := H0.wd t12 g7 qsi_58 (by decide)
  obtain ⟨rfl, u3, v3⟩ := H0.wd t12 g9 qsi_59 (by decide)
  obtain ⟨rfl, u4, v4⟩ := H0.wd t12 g11 qsi_60 (by decide)
  obtain ⟨rfl, u5, v5⟩ := H0.wd t12 g13 qsi_49 (by decide)
  have e0 := v0 h4
  have e1 := v1 h6
  have e2 := v2 h8
  have e3 := v3 h10
  have e4 := v4 h12
  have e5 := (u5 h14).2
  have hp : gPart b E (zBl b E P) = .inl (zBl b E (zLt b E (zBl b E P)), [(5, 0)]) := gPart_w hd (by simp only [tws, e0, e1, e2, e3, e4, e5])
  obtain ⟨f1, -, H1⟩ := g17 W b _ E D l H0
  refine ⟨f0.tr f1, ?_⟩
  rw [hp]
  exact ⟨by decide, _, H0.le.1, rfl, H1 5 0 rfl rfl⟩
theorem sp_222_etttttf (a0 : Nat) (σ : zSg) (τ1 : zSg) (τ3 : zSg) (r3 : Int32) (τ5 : zSg) (r5 : Int32) (τ7 : zSg) (r7 : Int32) (τ9 : zSg) (r9 : Int32) (τ11 : zSg) (r11 : Int32) (τ19 : zSg) (g1 : p_203 a0 σ τ1) (h2 : (q_i (τ1.1 a0 10)).toInt ≠ (q_i (τ1.1 a0 12)).toInt) (g3 : p_204 a0 (zB + 50) τ1 r3 τ3) (h4 : r3.toInt = (0 : Int)) (g5 : p_204 a0 (zB + 57) τ3 r5 τ5) (h6 : r5.toInt = (0 : Int)) (g7 : p_204 a0 (zB + 58) τ5 r7 τ7) (h8 : r7.toInt = (0 : Int)) (g9 : p_204 a0 (zB + 59) τ7 r9 τ9) (h10 : r9.toInt = (0 : Int)) (g11 : p_204 a0 (zB + 60) τ9 r11 τ11) (h12 : r11.toInt ≠ (0 : Int)) (g19 : p_221 a0 (Int32.ofInt (4)) (Int32.ofInt (0)) τ11 τ19) :
    p_222 (a0) σ (Int32.ofInt (1)) τ19 := by
  intro W b P E D l H
  obtain ⟨f0, t12, t10, H0⟩ := H.lt g1
  have hz : zLt b E (zBl b E P) ≠ zBl b E P := by
    intro q
    rw [t10, t12, q] at h2
    exact h2 rfl
  have hd := zLt_ne hz
  obtain ⟨rfl, u0, v0⟩ := H0.wd t12 g3 qsi_50 (by decide)
  obtain ⟨rfl, u1, v1⟩ := H0.wd t12 g5 qsi_57 (by decide)
  obtain ⟨rfl, u2, v2⟩ := H0.wd t12 g7 qsi_58 (by decide)
  obtain ⟨rfl, u3, v3⟩ := H0.wd t12 g9 qsi_59 (by decide)
  obtain ⟨rfl, u4, v4⟩ := H0.wd t12 g11 qsi_60 (by decide)
  have e0 := v0 h4
  have e1 := v1 h6
  have e2 := v2 h8
  have e3 := v3 h10
  have e4 := (u4 h12).2
  have hp : gPart b E (zBl b E P) = .inl (zBl b E (zLt b E (zBl b E P)), [(4, 0)]) := gPart_w hd (by simp only [tws, e0, e1, e2, e3, e4])
  obtain ⟨f1, -, H1⟩ := g19 W b _ E D l H0
  refine ⟨f0.tr f1, ?_⟩
  rw [hp]
  exact ⟨by decide, _, H0.le.1, rfl, H1 4 0 rfl rfl⟩
theorem sp_222_ettttf (a0 : Nat) (σ : zSg) (τ1 : zSg) (τ3 : zSg) (r3 : Int32) (τ5 : zSg) (r5 : Int32) (τ7 : zSg) (r7 : Int32) (τ9 : zSg) (r9 : Int32) (τ21 : zSg) (g1 : p_203 a0 σ τ1) (h2 : (q_i (τ1.1 a0 10)).toInt ≠ (q_i (τ1.1 a0 12)).toInt) (g3 : p_204 a0 (zB + 50) τ1 r3 τ3) (h4 : r3.toInt = (0 : Int)) (g5 : p_204 a0 (zB + 57) τ3 r5 τ5) (h6 : r5.toInt = (0 : Int)) (g7 : p_204 a0 (zB + 58) τ5 r7 τ7) (h8 : r7.toInt = (0 : Int)) (g9 : p_204 a0 (zB + 59) τ7 r9 τ9) (h10 : r9.toInt ≠ (0 : Int)) (g21 : p_221 a0 (Int32.ofInt (3)) (Int32.ofInt (0)) τ9 τ21) :
    p_222 (a0) σ (Int32.ofInt (1)) τ21 := by
  intro W b P E D l H
  obtain ⟨f0, t12, t10, H0⟩ := H.lt g1
  have hz : zLt b E (zBl b E P) ≠ zBl b E P := by
    intro q
    rw [t10, t12, q] at h2
    exact h2 rfl
  have hd := zLt_ne hz
  obtain ⟨rfl, u0, v0⟩ := H0.wd t12 g3 qsi_50 (by decide)
  obtain ⟨rfl, u1, v1⟩ := H0.wd t12 g5 qsi_57 (by decide)
  obtain ⟨rfl, u2, v2⟩ := H0.wd t12 g7 qsi_58 (by decide)
  obtain ⟨rfl, u3, v3⟩ := H0.wd t12 g9 qsi_59 (by decide)
  have e0 := v0 h4
  have e1 := v1 h6
  have e2 := v2 h8
  have e3 := (u3 h10).2
  have hp : gPart b E (zBl b E P) = .inl (zBl b E (zLt b E (zBl b E P)), [(3, 0)]) := gPart_w hd (by simp only [tws, e0, e1, e2, e3])
  obtain ⟨f1, -, H1⟩ := g21 W b _ E D l H0
  refine ⟨f0.tr f1, ?_⟩
  rw [hp]
  exact ⟨by decide, _, H0.le.1, rfl, H1 3 0 rfl rfl⟩
theorem sp_222_etttf (a0 : Nat) (σ : zSg) (τ1 : zSg) (τ3 : zSg) (r3 : Int32) (τ5 : zSg) (r5 : Int32) (τ7 : zSg) (r7 : Int32) (τ23 : zSg) (g1 : p_203 a0 σ τ1) (h2 : (q_i (τ1.1 a0 10)).toInt ≠ (q_i (τ1.1 a0 12)).toInt) (g3 : p_204 a0 (zB + 50) τ1 r3 τ3) (h4 : r3.toInt = (0 : Int)) (g5 : p_204 a0 (zB + 57) τ3 r5 τ5) (h6 : r5.toInt = (0 : Int)) (g7 : p_204 a0 (zB + 58) τ5 r7 τ7) (h8 : r7.toInt ≠ (0 : Int)) (g23 : p_221 a0 (Int32.ofInt (2)) (Int32.ofInt (0)) τ7 τ23) :
    p_222 (a0) σ (Int32.ofInt (1)) τ23 := by
  intro W b P E D l H
  obtain ⟨f0, t12, t10, H0⟩ := H.lt g1
  have hz : zLt b E (zBl b E P) ≠ zBl b E P := by
    intro q
    rw [t10, t12, q] at h2
    exact h2 rfl
  have hd := zLt_ne hz
  obtain ⟨rfl, u0, v0⟩ := H0.wd t12 g3 qsi_50 (by decide)
  obtain ⟨rfl, u1, v1⟩ := H0.wd t12 g5 qsi_57 (by decide)
  obtain ⟨rfl, u2, v2⟩ := H0.wd t12 g7 qsi_58 (by decide)
  have e0 := v0 h4
  have e1 := v1 h6
  have e2 := (u2 h8).2
  have hp : gPart b E (zBl b E P) = .inl (zBl b E (zLt b E (zBl b E P)), [(2, 0)]) := gPart_w hd (by simp only [tws, e0, e1, e2])
  obtain ⟨f1, -, H1⟩ := g23 W b _ E D l H0
  refine ⟨f0.tr f1, ?_⟩
  rw [hp]
  exact ⟨by decide, _, H0.le.1, rfl, H1 2 0 rfl rfl⟩
theorem sp_222_ettf (a0 : Nat) (σ : zSg) (τ1 : zSg) (τ3 : zSg) (r3 : Int32) (τ5 : zSg) (r5 : Int32) (τ25 : zSg) (g1 : p_203 a0 σ τ1) (h2 : (q_i (τ1.1 a0 10)).toInt ≠ (q_i (τ1.1 a0 12)).toInt) (g3 : p_204 a0 (zB + 50) τ1 r3 τ3) (h4 : r3.toInt = (0 : Int)) (g5 : p_204 a0 (zB + 57) τ3 r5 τ5) (h6 : r5.toInt ≠ (0 : Int)) (g25 : p_221 a0 (Int32.ofInt (1)) (Int32.ofInt (0)) τ5 τ25) :
    p_222 (a0) σ (Int32.ofInt (1)) τ25 := by
  intro W b P E D l H
  obtain ⟨f0, t12, t10, H0⟩ := H.lt g1
  have hz : zLt b E (zBl b E P) ≠ zBl b E P := by
    intro q
    rw [t10, t12, q] at h2
    exact h2 rfl
  have hd := zLt_ne hz
  obtain ⟨rfl, u0, v0⟩ := H0.wd t12 g3 qsi_50 (by decide)
  obtain ⟨rfl, u1, v1⟩ := H0.wd t12 g5 qsi_57 (by decide)
  have e0 := v0 h4
  have e1 := (u1 h6).2
  have hp : gPart b E (zBl b E P) = .inl (zBl b E (zLt b E (zBl b E P)), [(1, 0)]) := gPart_w hd (by simp only [tws, e0, e1])
  obtain ⟨f1, -, H1⟩ := g25 W b _ E D l H0
  refine ⟨f0.tr f1, ?_⟩
  rw [hp]
  exact ⟨by decide, _, H0.le.1, rfl, H1 1 0 rfl rfl⟩
theorem sp_222_etf (a0 : Nat) (σ : zSg) (τ1 : zSg) (τ3 : zSg) (r3 : Int32) (τ27 : zSg) (g1 : p_203 a0 σ τ1) (h2 : (q_i (τ1.1 a0 10)).toInt ≠ (q_i (τ1.1 a0 12)).toInt) (g3 : p_204 a0 (zB + 50) τ1 r3 τ3) (h4 : r3.toInt ≠ (0 : Int)) (g27 : p_221 a0 (Int32.ofInt (0)) (Int32.ofInt (0)) τ3 τ27) :
    p_222 (a0) σ (Int32.ofInt (1)) τ27 := by
  intro W b P E D l H
  obtain ⟨f0, t12, t10, H0⟩ := H.lt g1
  have hz : zLt b E (zBl b E P) ≠ zBl b E P := by
    intro q
    rw [t10, t12, q] at h2
    exact h2 rfl
  have hd := zLt_ne hz
  obtain ⟨rfl, u0, v0⟩ := H0.wd t12 g3 qsi_50 (by decide)
  have e0 := (u0 h4).2
  have hp : gPart b E (zBl b E P) = .inl (zBl b E (zLt b E (zBl b E P)), [(0, 0)]) := gPart_w hd (by simp only [tws, e0])
  obtain ⟨f1, -, H1⟩ := g27 W b _ E D l H0
  refine ⟨f0.tr f1, ?_⟩
  rw [hp]
  exact ⟨by decide, _, H0.le.1, rfl, H1 0 0 rfl rfl⟩
theorem sp_222_eft (a0 : Nat) (σ : zSg) (τ1 : zSg) (τ29 : zSg) (r29 : Int32) (τ30 : zSg) (g1 : p_203 a0 σ τ1) (h2 : (q_i (τ1.1 a0 10)).toInt = (q_i (τ1.1 a0 12)).toInt) (g29 : p_207 a0 (Int32.ofInt (0)) (Int32.ofInt (999)) τ1 r29 τ29) (g30 : p_221 a0 (Int32.ofInt (8)) r29 τ29 τ30) (h31 : r29.toInt < (0 : Int)) :
    p_222 (a0) σ (Int32.ofInt (0)) τ30 := by
  intro W b P E D l H
  obtain ⟨f0, t12, t10, H0⟩ := H.lt g1
  have hB := H.bl
  have hE := H.le.2
  have hz : zLt b E (zBl b E P) = zBl b E P := by
    rw [t10, t12] at h2
    have h9 : (Int32.ofNat (zLt b E (zBl b E P))).toInt = (Int32.ofNat (zBl b E P)).toInt := h2
    have := zRn_le (b := b) (lo := 97) (hi := 122) hB
    have e9 : zLt b E (zBl b E P) = zRn b E 97 122 (zBl b E P) := rfl
    rw [o32 (by omega), o32 (by omega)] at h9
    omega
  have g9 := g29 _ E H0.1
  rw [H0.2.1, hz, zBl_bl] at g9
  obtain ⟨g8, rfl⟩ := g9
  have c9 : (Int32.ofInt 999).toInt = 999 := rfl
  have c0 : (Int32.ofInt 0).toInt = 0 := rfl
  rw [c0, c9] at g8
  have H1 := H0.rs (K := zDe b E (zBl b E P)) (Q := zBl b E P) (zRn_le hB)
  obtain ⟨f1, s12, K1⟩ := g30 W b _ E D l H1
  refine ⟨(f0.tr rF.rs).tr f1, ?_⟩
  by_cases hd : zBl b E P < E ∧ 48 ≤ b (zBl b E P) ∧ b (zBl b E P) ≤ 57
  · have hn : tn b E 0 999 (zBl b E P) = none := by
      unfold tn
      rw [if_neg (by omega)]
    have hp : gPart b E (zBl b E P) = .inr (zBl b E P) := by
      unfold gPart
      rw [if_pos hd, hn]
    rw [hp]
    exact ⟨rfl, s12.trans q_rs_12⟩
  · have hp : gPart b E (zBl b E P) = .inr (zBl b E P) := gPart_n hd (by simp only [tws, tw_0 hz (show 0 < wFamily.length by decide), tw_0 hz (show 0 < wHour.length by decide), tw_0 hz (show 0 < wHeat.length by decide), tw_0 hz (show 0 < wDirt.length by decide), tw_0 hz (show 0 < wQuarrel.length by decide), tw_0 hz (show 0 < wLeft.length by decide)])
    rw [hp]
    exact ⟨rfl, s12.trans q_rs_12⟩
theorem sp_222_eff (a0 : Nat) (σ : zSg) (τ1 : zSg) (τ29 : zSg) (r29 : Int32) (τ30 : zSg) (g1 : p_203 a0 σ τ1) (h2 : (q_i (τ1.1 a0 10)).toInt = (q_i (τ1.1 a0 12)).toInt) (g29 : p_207 a0 (Int32.ofInt (0)) (Int32.ofInt (999)) τ1 r29 τ29) (g30 : p_221 a0 (Int32.ofInt (8)) r29 τ29 τ30) (h31 : r29.toInt ≥ (0 : Int)) :
    p_222 (a0) σ (Int32.ofInt (1)) τ30 := by
  intro W b P E D l H
  obtain ⟨f0, t12, t10, H0⟩ := H.lt g1
  have hB := H.bl
  have hE := H.le.2
  have hz : zLt b E (zBl b E P) = zBl b E P := by
    rw [t10, t12] at h2
    have h9 : (Int32.ofNat (zLt b E (zBl b E P))).toInt = (Int32.ofNat (zBl b E P)).toInt := h2
    have := zRn_le (b := b) (lo := 97) (hi := 122) hB
    have e9 : zLt b E (zBl b E P) = zRn b E 97 122 (zBl b E P) := rfl
    rw [o32 (by omega), o32 (by omega)] at h9
    omega
  have g9 := g29 _ E H0.1
  rw [H0.2.1, hz, zBl_bl] at g9
  obtain ⟨g8, rfl⟩ := g9
  have c9 : (Int32.ofInt 999).toInt = 999 := rfl
  have c0 : (Int32.ofInt 0).toInt = 0 := rfl
  rw [c0, c9] at g8
  have H1 := H0.rs (K := zDe b E (zBl b E P)) (Q := zBl b E P) (zRn_le hB)
  obtain ⟨f1, s12, K1⟩ := g30 W b _ E D l H1
  refine ⟨(f0.tr rF.rs).tr f1, ?_⟩
  by_cases hd : zBl b E P < E ∧ 48 ≤ b (zBl b E P) ∧ b (zBl b E P) ≤ 57
  · have hv := zNm_ge (b := b) (E := E) (lo := 0) (hi := 999) (A := zBl b E P) (by omega)
    have h999 : zNm b E 0 999 (zBl b E P) ≤ 999 := by
      unfold zNm
      split <;> omega
    have hn : tn b E 0 999 (zBl b E P) = some (zBl b E (zDe b E (zBl b E P)), (zNm b E 0 999 (zBl b E P)).toNat) := by
      unfold tn
      rw [if_pos (by omega)]
    have hp : gPart b E (zBl b E P) = .inl (zBl b E (zDe b E (zBl b E P)), [(8, (zNm b E 0 999 (zBl b E P)).toNat)]) := by
      unfold gPart
      rw [if_pos hd, hn]
    rw [hp]
    refine ⟨by decide, _, zRn_le hB, rfl, K1 8 _ rfl ?_⟩
    refine Int32.toInt_inj.mp ?_
    rw [o32 (by omega)]
    omega
  · rw [zDe_0 hd] at g8
    omega
noncomputable def qP_222 : zPp := fun as σ o σ' => match as with
  | [a0] => ∃ r, o = .inl (some (.int r)) ∧ p_222 (q_r a0) σ r σ'
  | _ => True
set_option maxRecDepth 100000 in
theorem sp_222 {sx : zX} (S203 : zEe sx 203 1 qP_203) (S204 : zEe sx 204 2 qP_204) (S221 : zEe sx 221 3 qP_221) (S207 : zEe sx 207 3 qP_207) : zEe sx 222 1 qP_222 := by
  refine zfle zJ_222 (sps := [(203, 1, qP_203), (204, 2, qP_204), (221, 3, qP_221), (207, 3, qP_207)]) (fun q hq => by
    simp only [List.mem_cons, List.not_mem_nil, or_false] at hq
    rcases hq with rfl | rfl | rfl | rfl
    · exact S203
    · exact S204
    · exact S221
    · exact S207) (fun as σ hl => ?_)
  match as, hl with
  | [a0], _ =>
  refine ⟨[], 400, ?_, ?_⟩
  · exact fun q hq => absurd hq List.not_mem_nil
  · refine fun o1 τ1 g1 => ?_
    obtain ⟨rfl, g1⟩ := g1
    refine And.intro (fun h2 => ?_) (fun h2 => ?_)
    · refine fun o3 τ3 g3 => ?_
      obtain ⟨r3, rfl, g3⟩ := g3
      refine And.intro (fun h4 => ?_) (fun h4 => ?_)
      · refine fun o5 τ5 g5 => ?_
        obtain ⟨r5, rfl, g5⟩ := g5
        refine And.intro (fun h6 => ?_) (fun h6 => ?_)
        · refine fun o7 τ7 g7 => ?_
          obtain ⟨r7, rfl, g7⟩ := g7
          refine And.intro (fun h8 => ?_) (fun h8 => ?_)
          · refine fun o9 τ9 g9 => ?_
            obtain ⟨r9, rfl, g9⟩ := g9
            refine And.intro (fun h10 => ?_) (fun h10 => ?_)
            · refine fun o11 τ11 g11 => ?_
              obtain ⟨r11, rfl, g11⟩ := g11
              refine And.intro (fun h12 => ?_) (fun h12 => ?_)
              · refine fun o13 τ13 g13 => ?_
                obtain ⟨r13, rfl, g13⟩ := g13
                refine And.intro (fun h14 => ?_) (fun h14 => ?_)
                · refine fun o15 τ15 g15 => ?_
                  obtain ⟨rfl, g15⟩ := g15
                  refine And.intro (fun _ => ?_) (fun h16 => absurd (show z_cmp 2 (Int32.ofInt (-1)) 0 = false from h16) (by decide))
                  exact ⟨_, rfl, sp_222_ettttttt (q_r a0) σ τ1 τ3 r3 τ5 r5 τ7 r7 τ9 r9 τ11 r11 τ13 r13 τ15 g1 (cm1t h2) g3 (cm0t h4) g5 (cm0t h6) g7 (cm0t h8) g9 (cm0t h10) g11 (cm0t h12) g13 (cm0t h14) g15⟩
                · refine fun o17 τ17 g17 => ?_
                  obtain ⟨rfl, g17⟩ := g17
                  refine And.intro (fun h18 => absurd (show z_cmp 2 (Int32.ofInt (5)) 0 = true from h18) (by decide)) (fun _ => ?_)
                  exact ⟨_, rfl, sp_222_ettttttf (q_r a0) σ τ1 τ3 r3 τ5 r5 τ7 r7 τ9 r9 τ11 r11 τ13 r13 τ17 g1 (cm1t h2) g3 (cm0t h4) g5 (cm0t h6) g7 (cm0t h8) g9 (cm0t h10) g11 (cm0t h12) g13 (cm0f h14) g17⟩
              · refine fun o19 τ19 g19 => ?_
                obtain ⟨rfl, g19⟩ := g19
                refine And.intro (fun h20 => absurd (show z_cmp 2 (Int32.ofInt (4)) 0 = true from h20) (by decide)) (fun _ => ?_)
                exact ⟨_, rfl, sp_222_etttttf (q_r a0) σ τ1 τ3 r3 τ5 r5 τ7 r7 τ9 r9 τ11 r11 τ19 g1 (cm1t h2) g3 (cm0t h4) g5 (cm0t h6) g7 (cm0t h8) g9 (cm0t h10) g11 (cm0f h12) g19⟩
            · refine fun o21 τ21 g21 => ?_
              obtain ⟨rfl, g21⟩ := g21
              refine And.intro (fun h22 => absurd (show z_cmp 2 (Int32.ofInt (3)) 0 = true from h22) (by decide)) (fun _ => ?_)
              exact ⟨_, rfl, sp_222_ettttf (q_r a0) σ τ1 τ3 r3 τ5 r5 τ7 r7 τ9 r9 τ21 g1 (cm1t h2) g3 (cm0t h4) g5 (cm0t h6) g7 (cm0t h8) g9 (cm0f h10) g21⟩
          · refine fun o23 τ23 g23 => ?_
            obtain ⟨rfl, g23⟩ := g23
            refine And.intro (fun h24 => absurd (show z_cmp 2 (Int32.ofInt (2)) 0 = true from h24) (by decide)) (fun _ => ?_)
            exact ⟨_, rfl, sp_222_etttf (q_r a0) σ τ1 τ3 r3 τ5 r5 τ7 r7 τ23 g1 (cm1t h2) g3 (cm0t h4) g5 (cm0t h6) g7 (cm0f h8) g23⟩
        · refine fun o25 τ25 g25 => ?_
          obtain ⟨rfl, g25⟩ := g25
          refine And.intro (fun h26 => absurd (show z_cmp 2 (Int32.ofInt (1)) 0 = true from h26) (by decide)) (fun _ => ?_)
          exact ⟨_, rfl, sp_222_ettf (q_r a0) σ τ1 τ3 r3 τ5 r5 τ25 g1 (cm1t h2) g3 (cm0t h4) g5 (cm0f h6) g25⟩
      · refine fun o27 τ27 g27 => ?_
        obtain ⟨rfl, g27⟩ := g27
        refine And.intro (fun h28 => absurd (show z_cmp 2 (Int32.ofInt (0)) 0 = true from h28) (by decide)) (fun _ => ?_)
        exact ⟨_, rfl, sp_222_etf (q_r a0) σ τ1 τ3 r3 τ27 g1 (cm1t h2) g3 (cm0f h4) g27⟩
    · refine fun o29 τ29 g29 => ?_
      obtain ⟨r29, rfl, g29⟩ := g29
      refine fun o30 τ30 g30 => ?_
      obtain ⟨rfl, g30⟩ := g30
      refine And.intro (fun h31 => ?_) (fun h31 => ?_)
      · exact ⟨_, rfl, sp_222_eft (q_r a0) σ τ1 τ29 r29 τ30 g1 (cm1f h2) g29 g30 (cm2t h31)⟩
      · exact ⟨_, rfl, sp_222_eff (q_r a0) σ τ1 τ29 r29 τ30 g1 (cm1f h2) g29 g30 (cm2f h31)⟩
noncomputable def p_223 (a : Nat) (σ : zSg) (r : Int32) (σ' : zSg) : Prop := ∀ W b P E D l, rG σ a W b P E D l → rF σ σ' a W ∧ ∃ R, GS b E (zBl b E P) R ∧ rO σ' a W b E D l r R
noncomputable def i_223 (a : Nat) (σ : zSg) (l0 : Nat) (τ : zSg) : Prop := l0 = a ∧ ∀ W b P E D l, rG σ a W b P E D l → rF σ τ a W ∧ ∃ P1 m, rG τ a W b P1 E D (l ++ m) ∧ ∀ R, GSL b E (zBl b E P1) m R → GS b E (zBl b E P) R
theorem sp_223_et (a0 : Nat) (σ : zSg) (τ1 : zSg) (r1 : Int32) (g1 : p_222 a0 σ r1 τ1) (h2 : r1.toInt ≠ (0 : Int)) :
    i_223 a0 σ a0 τ1 := by
  refine ⟨rfl, fun W b P E D l H => ?_⟩
  obtain ⟨f1, g2⟩ := g1 W b P E D l H
  refine ⟨f1, ?_⟩
  cases hp : gPart b E (zBl b E P) with
  | inr F => rw [hp] at g2; exact absurd g2.1 h2
  | inl q =>
    obtain ⟨A1, m⟩ := q
    rw [hp] at g2
    obtain ⟨-, P1, p1, rfl, H1⟩ := g2
    exact ⟨P1, m, H1, fun R hR => GS.go hp hR⟩
theorem sp_223_ef (a0 : Nat) (σ : zSg) (τ1 : zSg) (r1 : Int32) (g1 : p_222 a0 σ r1 τ1) (h2 : r1.toInt = (0 : Int)) :
    p_223 (a0) σ (Int32.ofInt (0)) τ1 := by
  intro W b P E D l H
  obtain ⟨f1, g2⟩ := g1 W b P E D l H
  refine ⟨f1, ?_⟩
  cases hp : gPart b E (zBl b E P) with
  | inr F => rw [hp] at g2; exact ⟨_, GS.wrong hp, rfl, g2.2⟩
  | inl q =>
    rw [hp] at g2
    exact absurd h2 g2.1
theorem sp_223_c5_t (a0 : Nat) (σ : zSg) (l0 : Nat) (τ : zSg) (τ3 : zSg) (r3 : Int32) (hI : i_223 a0 σ l0 τ) (g3 : p_206 l0 (Int32.ofInt (43)) τ r3 τ3) (h4 : r3.toInt = (0 : Int)) :
    p_223 (a0) σ (Int32.ofInt (1)) τ3 := by
  obtain ⟨rfl, G⟩ := hI
  intro W b P E D l H
  obtain ⟨f1, P1, m, H1, hR⟩ := G W b P E D l H
  obtain ⟨f2, -, -, q2⟩ := H1.sg g3
  obtain ⟨e1, H2⟩ := q2 h4
  exact ⟨f1.tr f2, _, hR _ (GSL.stop e1), by decide, _, H1.bl, zBl_bl, H2⟩
theorem sp_223_c5_ft (a0 : Nat) (σ : zSg) (l0 : Nat) (τ : zSg) (τ3 : zSg) (r3 : Int32) (τ5 : zSg) (r5 : Int32) (τ7 : zSg) (hI : i_223 a0 σ l0 τ) (g3 : p_206 l0 (Int32.ofInt (43)) τ r3 τ3) (h4 : r3.toInt ≠ (0 : Int)) (g5 : p_222 l0 τ3 r5 τ5) (h6 : r5.toInt ≠ (0 : Int)) (g7 : p_221 l0 (Int32.ofInt (9)) (Int32.ofInt (0)) τ5 τ7) :
    i_223 a0 σ l0 τ7 := by
  obtain ⟨rfl, G⟩ := hI
  refine ⟨rfl, fun W b P E D l H => ?_⟩
  obtain ⟨f1, P1, m, H1, hR⟩ := G W b P E D l H
  obtain ⟨f2, -, q1, -⟩ := H1.sg g3
  obtain ⟨e1, H5⟩ := q1 h4
  obtain ⟨f3, g2⟩ := g5 W b _ E D _ H5
  cases hp : gPart b E (zBl b E (zBl b E P1 + 1)) with
  | inr F => rw [hp] at g2; exact absurd g2.1 h6
  | inl q =>
    obtain ⟨A1, m2⟩ := q
    rw [hp] at g2
    obtain ⟨-, P2, p2, rfl, H6⟩ := g2
    obtain ⟨f4, -, H7⟩ := g7 W b _ E D _ H6
    have H8 := H7 9 0 rfl rfl
    refine ⟨((f1.tr f2).tr f3).tr f4, P2, m ++ m2 ++ [(9, 0)], ?_, fun R h9 => hR R (GSL.step e1 hp h9)⟩
    rw [show l ++ (m ++ m2 ++ [(9, 0)]) = l ++ m ++ m2 ++ [(9, 0)] by simp only [List.append_assoc]]
    exact H8
theorem sp_223_c5_ff (a0 : Nat) (σ : zSg) (l0 : Nat) (τ : zSg) (τ3 : zSg) (r3 : Int32) (τ5 : zSg) (r5 : Int32) (hI : i_223 a0 σ l0 τ) (g3 : p_206 l0 (Int32.ofInt (43)) τ r3 τ3) (h4 : r3.toInt ≠ (0 : Int)) (g5 : p_222 l0 τ3 r5 τ5) (h6 : r5.toInt = (0 : Int)) :
    p_223 (a0) σ (Int32.ofInt (0)) τ5 := by
  obtain ⟨rfl, G⟩ := hI
  intro W b P E D l H
  obtain ⟨f1, P1, m, H1, hR⟩ := G W b P E D l H
  obtain ⟨f2, -, q1, -⟩ := H1.sg g3
  obtain ⟨e1, H5⟩ := q1 h4
  obtain ⟨f3, g2⟩ := g5 W b _ E D _ H5
  refine ⟨(f1.tr f2).tr f3, ?_⟩
  cases hp : gPart b E (zBl b E (zBl b E P1 + 1)) with
  | inl q => rw [hp] at g2; exact absurd h6 g2.1
  | inr F =>
    rw [hp] at g2
    exact ⟨_, hR _ (GSL.wrong e1 hp), rfl, g2.2⟩
noncomputable def qP_223 : zPp := fun as σ o σ' => match as with
  | [a0] => ∃ r, o = .inl (some (.int r)) ∧ p_223 (q_r a0) σ r σ'
  | _ => True
set_option maxRecDepth 100000 in
theorem sp_223 {sx : zX} (S222 : zEe sx 222 1 qP_222) (S206 : zEe sx 206 2 qP_206) (S221 : zEe sx 221 3 qP_221) : zEe sx 223 1 qP_223 := by
  refine zfle zJ_223 (sps := [(222, 1, qP_222), (206, 2, qP_206), (221, 3, qP_221)]) (fun q hq => by
    simp only [List.mem_cons, List.not_mem_nil, or_false] at hq
    rcases hq with rfl | rfl | rfl
    · exact S222
    · exact S206
    · exact S221) (fun as σ hl => ?_)
  match as, hl with
  | [a0], _ =>
  refine ⟨[(5, fun lo st τ => st = [] ∧ i_223 (q_r a0) σ (q_r (lo 0)) τ)], 400, ?_, ?_⟩
  · intro q hq
    simp only [List.mem_cons, List.not_mem_nil, or_false] at hq
    rcases hq with rfl
    · rintro lo st τ ⟨rfl, hI⟩
      refine ⟨400, ?_⟩
      refine fun o3 τ3 g3 => ?_
      obtain ⟨r3, rfl, g3⟩ := g3
      refine And.intro (fun h4 => ?_) (fun h4 => ?_)
      · exact ⟨_, rfl, sp_223_c5_t (q_r a0) σ (q_r (lo 0)) τ τ3 r3 hI g3 (cm0t h4)⟩
      · refine fun o5 τ5 g5 => ?_
        obtain ⟨r5, rfl, g5⟩ := g5
        refine And.intro (fun h6 => ?_) (fun h6 => ?_)
        · refine fun o7 τ7 g7 => ?_
          obtain ⟨rfl, g7⟩ := g7
          exact ⟨rfl, sp_223_c5_ft (q_r a0) σ (q_r (lo 0)) τ τ3 r3 τ5 r5 τ7 hI g3 (cm0f h4) g5 (cm1t h6) g7⟩
        · exact ⟨_, rfl, sp_223_c5_ff (q_r a0) σ (q_r (lo 0)) τ τ3 r3 τ5 r5 hI g3 (cm0f h4) g5 (cm1f h6)⟩
  · refine fun o1 τ1 g1 => ?_
    obtain ⟨r1, rfl, g1⟩ := g1
    refine And.intro (fun h2 => ?_) (fun h2 => ?_)
    · exact ⟨rfl, sp_223_et (q_r a0) σ τ1 r1 g1 (cm1t h2)⟩
    · exact ⟨_, rfl, sp_223_ef (q_r a0) σ τ1 r1 g1 (cm1f h2)⟩
noncomputable def p_224 (a : Nat) (σ : zSg) (r : Int32) (σ' : zSg) : Prop := ∀ W b P E D l, rG σ a W b P E D l → rF σ σ' a W ∧ ((r.toInt ≠ 0 ∧ ∃ R, GB b E (zBl b E P) R ∧ rO σ' a W b E D l r R) ∨ (r.toInt = 0 ∧ tw b E wNight (zBl b E P) = none ∧ tw b E wWished (zBl b E P) = none ∧ rG σ' a W b (zBl b E P) E D l))
theorem sp_224_ett (a0 : Nat) (σ : zSg) (τ1 : zSg) (τ2 : zSg) (r2 : Int32) (τ4 : zSg) (r4 : Int32) (g1 : p_203 a0 σ τ1) (g2 : p_204 a0 (zB + 61) τ1 r2 τ2) (h3 : r2.toInt = (0 : Int)) (g4 : p_204 a0 (zB + 62) τ2 r4 τ4) (h5 : r4.toInt = (0 : Int)) :
    p_224 (a0) σ (Int32.ofInt (0)) (q_w τ4 a0 10 (.int (q_i (τ4.1 a0 12)))) := by
  intro W b P E D l H
  obtain ⟨f0, t12, t10, H0⟩ := H.lt g1
  obtain ⟨rfl, -, v0⟩ := H0.wd t12 g2 qsi_61 (by decide)
  obtain ⟨rfl, -, v1⟩ := H0.wd t12 g4 qsi_62 (by decide)
  refine ⟨f0.tr (rF.w (by omega)), Or.inr ⟨rfl, v0 h3, v1 h5, ?_⟩⟩
  rw [t12]
  exact H0.pt H.bl
theorem sp_224_etf (a0 : Nat) (σ : zSg) (τ1 : zSg) (τ2 : zSg) (r2 : Int32) (τ4 : zSg) (r4 : Int32) (τ9 : zSg) (g1 : p_203 a0 σ τ1) (g2 : p_204 a0 (zB + 61) τ1 r2 τ2) (h3 : r2.toInt = (0 : Int)) (g4 : p_204 a0 (zB + 62) τ2 r4 τ4) (h5 : r4.toInt ≠ (0 : Int)) (g9 : p_221 a0 (Int32.ofInt (7)) (Int32.ofInt (0)) τ4 τ9) :
    p_224 (a0) σ (Int32.ofInt (1)) τ9 := by
  intro W b P E D l H
  obtain ⟨f0, t12, t10, H0⟩ := H.lt g1
  obtain ⟨rfl, -, v0⟩ := H0.wd t12 g2 qsi_61 (by decide)
  obtain ⟨rfl, u1, -⟩ := H0.wd t12 g4 qsi_62 (by decide)
  obtain ⟨f1, -, H1⟩ := g9 W b _ E D l H0
  exact ⟨f0.tr f1, Or.inl ⟨by decide, _, GB.wished (v0 h3) (u1 h5).2, by decide, _, H0.le.1, rfl, H1 7 0 rfl rfl⟩⟩
theorem sp_224_ef (a0 : Nat) (σ : zSg) (τ1 : zSg) (τ2 : zSg) (r2 : Int32) (τ12 : zSg) (g1 : p_203 a0 σ τ1) (g2 : p_204 a0 (zB + 61) τ1 r2 τ2) (h3 : r2.toInt ≠ (0 : Int)) (g12 : p_221 a0 (Int32.ofInt (6)) (Int32.ofInt (0)) τ2 τ12) :
    p_224 (a0) σ (Int32.ofInt (1)) τ12 := by
  intro W b P E D l H
  obtain ⟨f0, t12, t10, H0⟩ := H.lt g1
  obtain ⟨rfl, u0, -⟩ := H0.wd t12 g2 qsi_61 (by decide)
  obtain ⟨f1, -, H1⟩ := g12 W b _ E D l H0
  exact ⟨f0.tr f1, Or.inl ⟨by decide, _, GB.night (u0 h3).2, by decide, _, H0.le.1, rfl, H1 6 0 rfl rfl⟩⟩
noncomputable def qP_224 : zPp := fun as σ o σ' => match as with
  | [a0] => ∃ r, o = .inl (some (.int r)) ∧ p_224 (q_r a0) σ r σ'
  | _ => True
set_option maxRecDepth 100000 in
theorem sp_224 {sx : zX} (S203 : zEe sx 203 1 qP_203) (S204 : zEe sx 204 2 qP_204) (S221 : zEe sx 221 3 qP_221) : zEe sx 224 1 qP_224 := by
  refine zfle zJ_224 (sps := [(203, 1, qP_203), (204, 2, qP_204), (221, 3, qP_221)]) (fun q hq => by
    simp only [List.mem_cons, List.not_mem_nil, or_false] at hq
    rcases hq with rfl | rfl | rfl
    · exact S203
    · exact S204
    · exact S221) (fun as σ hl => ?_)
  match as, hl with
  | [a0], _ =>
  refine ⟨[], 400, ?_, ?_⟩
  · exact fun q hq => absurd hq List.not_mem_nil
  · refine fun o1 τ1 g1 => ?_
    obtain ⟨rfl, g1⟩ := g1
    refine fun o2 τ2 g2 => ?_
    obtain ⟨r2, rfl, g2⟩ := g2
    refine And.intro (fun h3 => ?_) (fun h3 => ?_)
    · refine fun o4 τ4 g4 => ?_
      obtain ⟨r4, rfl, g4⟩ := g4
      refine And.intro (fun h5 => ?_) (fun h5 => ?_)
      · refine And.intro (fun _ => ?_) (fun h6 => absurd (show z_cmp 2 (Int32.ofInt (-1)) 0 = false from h6) (by decide))
        refine And.intro (fun _ => ?_) (fun h7 => absurd (show z_cmp 2 (Int32.ofInt (-1)) 0 = false from h7) (by decide))
        exact ⟨_, rfl, sp_224_ett (q_r a0) σ τ1 τ2 r2 τ4 r4 g1 g2 (cm0t h3) g4 (cm0t h5)⟩
      · refine And.intro (fun h8 => absurd (show z_cmp 2 (Int32.ofInt (7)) 0 = true from h8) (by decide)) (fun _ => ?_)
        refine fun o9 τ9 g9 => ?_
        obtain ⟨rfl, g9⟩ := g9
        refine And.intro (fun h10 => absurd (show z_cmp 2 (Int32.ofInt (7)) 0 = true from h10) (by decide)) (fun _ => ?_)
        exact ⟨_, rfl, sp_224_etf (q_r a0) σ τ1 τ2 r2 τ4 r4 τ9 g1 g2 (cm0t h3) g4 (cm0f h5) g9⟩
    · refine And.intro (fun h11 => absurd (show z_cmp 2 (Int32.ofInt (6)) 0 = true from h11) (by decide)) (fun _ => ?_)
      refine fun o12 τ12 g12 => ?_
      obtain ⟨rfl, g12⟩ := g12
      refine And.intro (fun h13 => absurd (show z_cmp 2 (Int32.ofInt (6)) 0 = true from h13) (by decide)) (fun _ => ?_)
      exact ⟨_, rfl, sp_224_ef (q_r a0) σ τ1 τ2 r2 τ12 g1 g2 (cm0f h3) g12⟩
noncomputable def p_225 (a : Nat) (σ : zSg) (r : Int32) (σ' : zSg) : Prop := ∀ W b P E D l, rG σ a W b P E D l → rF σ σ' a W ∧ ∃ R, GA b E D (zBl b E P) R ∧ rO σ' a W b E D l r R
noncomputable def p_226 (a : Nat) (σ : zSg) (r : Int32) (σ' : zSg) : Prop := ∀ W b P E D l, rG σ a W b P E D l → rF σ σ' a W ∧ ∃ R, GW b E D (zBl b E P) R ∧ rO σ' a W b E D l r R
noncomputable def p_227 (a : Nat) (σ : zSg) (r : Int32) (σ' : zSg) : Prop := ∀ W b P E D l, rG σ a W b P E D l → rF σ σ' a W ∧ ∃ R, GC b E D (zBl b E P) R ∧ rO σ' a W b E D l r R
noncomputable def i_226 (a : Nat) (σ : zSg) (l0 : Nat) (τ : zSg) : Prop := l0 = a ∧ ∀ W b P E D l, rG σ a W b P E D l → rF σ τ a W ∧ ∃ P1 m, rG τ a W b P1 E D (l ++ m) ∧ ∀ R, GN b E D (zBl b E P1) m R → GW b E D (zBl b E P) R
noncomputable def i_227 (a : Nat) (σ : zSg) (l0 : Nat) (τ : zSg) : Prop := l0 = a ∧ ∀ W b P E D l, rG σ a W b P E D l → rF σ τ a W ∧ ∃ P1 m, rG τ a W b P1 E D (l ++ m) ∧ ∀ R, GO b E D (zBl b E P1) m R → GC b E D (zBl b E P) R
noncomputable def qP_225 : zPp := fun as σ o σ' => match as with
  | [a0] => ∃ r, o = .inl (some (.int r)) ∧ p_225 (q_r a0) σ r σ'
  | _ => True
noncomputable def qP_226 : zPp := fun as σ o σ' => match as with
  | [a0] => ∃ r, o = .inl (some (.int r)) ∧ p_226 (q_r a0) σ r σ'
  | _ => True
noncomputable def qP_227 : zPp := fun as σ o σ' => match as with
  | [a0] => ∃ r, o = .inl (some (.int r)) ∧ p_227 (q_r a0) σ r σ'
  | _ => True
theorem sp_226_et (a0 : Nat) (σ : zSg) (τ1 : zSg) (r1 : Int32) (g1 : p_225 a0 σ r1 τ1) (h2 : r1.toInt ≠ (0 : Int)) :
    i_226 a0 σ a0 τ1 := by
  refine ⟨rfl, fun W b P E D l H => ?_⟩
  obtain ⟨f1, R, g1, g2⟩ := g1 W b P E D l H
  refine ⟨f1, ?_⟩
  cases R with
  | inr F => exact absurd g2.1 h2
  | inl q =>
    obtain ⟨A1, m⟩ := q
    obtain ⟨-, P1, p1, rfl, H1⟩ := g2
    exact ⟨P1, m, H1, fun R hR => GW.go g1 hR⟩
theorem sp_226_ef (a0 : Nat) (σ : zSg) (τ1 : zSg) (r1 : Int32) (g1 : p_225 a0 σ r1 τ1) (h2 : r1.toInt = (0 : Int)) :
    p_226 (a0) σ (Int32.ofInt (0)) τ1 := by
  intro W b P E D l H
  obtain ⟨f1, R, g1, g2⟩ := g1 W b P E D l H
  refine ⟨f1, ?_⟩
  cases R with
  | inr F => exact ⟨_, GW.wrong g1, rfl, g2.2⟩
  | inl q => exact absurd h2 g2.1
theorem sp_226_c5_t (a0 : Nat) (σ : zSg) (l0 : Nat) (τ : zSg) (τ3 : zSg) (r3 : Int32) (hI : i_226 a0 σ l0 τ) (g3 : p_205 l0 (zB + 64) τ r3 τ3) (h4 : r3.toInt = (0 : Int)) :
    p_226 (a0) σ (Int32.ofInt (1)) τ3 := by
  obtain ⟨rfl, G⟩ := hI
  intro W b P E D l H
  obtain ⟨f1, P1, m, H1, hR⟩ := G W b P E D l H
  obtain ⟨f2, -, -, q2⟩ := H1.ps g3 qsi_64 (by decide)
  obtain ⟨e1, H2⟩ := q2 h4
  exact ⟨f1.tr f2, _, hR _ (GN.stop e1), by decide, _, H1.bl, zBl_bl, H2⟩
theorem sp_226_c5_ft (a0 : Nat) (σ : zSg) (l0 : Nat) (τ : zSg) (τ3 : zSg) (r3 : Int32) (τ5 : zSg) (r5 : Int32) (τ7 : zSg) (hI : i_226 a0 σ l0 τ) (g3 : p_205 l0 (zB + 64) τ r3 τ3) (h4 : r3.toInt ≠ (0 : Int)) (g5 : p_225 l0 τ3 r5 τ5) (h6 : r5.toInt ≠ (0 : Int)) (g7 : p_221 l0 (Int32.ofInt (13)) (Int32.ofInt (0)) τ5 τ7) :
    i_226 a0 σ l0 τ7 := by
  obtain ⟨rfl, G⟩ := hI
  refine ⟨rfl, fun W b P E D l H => ?_⟩
  obtain ⟨f1, P1, m, H1, hR⟩ := G W b P E D l H
  obtain ⟨f2, -, q1, -⟩ := H1.ps g3 qsi_64 (by decide)
  obtain ⟨e1, H5⟩ := q1 h4
  obtain ⟨f3, R, g1, g2⟩ := g5 W b _ E D _ H5
  cases R with
  | inr F => exact absurd g2.1 h6
  | inl q =>
    obtain ⟨A1, m2⟩ := q
    obtain ⟨-, P2, p2, rfl, H6⟩ := g2
    obtain ⟨f4, -, H7⟩ := g7 W b _ E D _ H6
    have H8 := H7 13 0 rfl rfl
    refine ⟨((f1.tr f2).tr f3).tr f4, P2, m ++ m2 ++ [(13, 0)], ?_, fun R h9 => hR R (GN.step e1 g1 h9)⟩
    rw [show l ++ (m ++ m2 ++ [(13, 0)]) = l ++ m ++ m2 ++ [(13, 0)] by simp only [List.append_assoc]]
    exact H8
theorem sp_226_c5_ff (a0 : Nat) (σ : zSg) (l0 : Nat) (τ : zSg) (τ3 : zSg) (r3 : Int32) (τ5 : zSg) (r5 : Int32) (hI : i_226 a0 σ l0 τ) (g3 : p_205 l0 (zB + 64) τ r3 τ3) (h4 : r3.toInt ≠ (0 : Int)) (g5 : p_225 l0 τ3 r5 τ5) (h6 : r5.toInt = (0 : Int)) :
    p_226 (a0) σ (Int32.ofInt (0)) τ5 := by
  obtain ⟨rfl, G⟩ := hI
  intro W b P E D l H
  obtain ⟨f1, P1, m, H1, hR⟩ := G W b P E D l H
  obtain ⟨f2, -, q1, -⟩ := H1.ps g3 qsi_64 (by decide)
  obtain ⟨e1, H5⟩ := q1 h4
  obtain ⟨f3, R, g1, g2⟩ := g5 W b _ E D _ H5
  refine ⟨(f1.tr f2).tr f3, ?_⟩
  cases R with
  | inl q => exact absurd h6 g2.1
  | inr F => exact ⟨_, hR _ (GN.wrong e1 g1), rfl, g2.2⟩
set_option maxRecDepth 100000 in
theorem sp_226 {sx : zX} {m : Nat} (S205 : zEe sx 205 2 qP_205) (S221 : zEe sx 221 3 qP_221) (S225 : zMt sx m 225 1 qP_225) : zMt sx (m + 1) 226 1 qP_226 := by
  refine zfl zJ_226 (sps := [(225, 1, qP_225), (205, 2, qP_205), (221, 3, qP_221)]) (fun q hq => by
    simp only [List.mem_cons, List.not_mem_nil, or_false] at hq
    rcases hq with rfl | rfl | rfl
    · exact S225
    · exact S205 m
    · exact S221 m) (fun as σ hl => ?_)
  match as, hl with
  | [a0], _ =>
  refine ⟨[(5, fun lo st τ => st = [] ∧ i_226 (q_r a0) σ (q_r (lo 0)) τ)], 400, ?_, ?_⟩
  · intro q hq
    simp only [List.mem_cons, List.not_mem_nil, or_false] at hq
    rcases hq with rfl
    · rintro lo st τ ⟨rfl, hI⟩
      refine ⟨400, ?_⟩
      refine fun o3 τ3 g3 => ?_
      obtain ⟨r3, rfl, g3⟩ := g3
      refine And.intro (fun h4 => ?_) (fun h4 => ?_)
      · exact ⟨_, rfl, sp_226_c5_t (q_r a0) σ (q_r (lo 0)) τ τ3 r3 hI g3 (cm0t h4)⟩
      · refine fun o5 τ5 g5 => ?_
        obtain ⟨r5, rfl, g5⟩ := g5
        refine And.intro (fun h6 => ?_) (fun h6 => ?_)
        · refine fun o7 τ7 g7 => ?_
          obtain ⟨rfl, g7⟩ := g7
          exact ⟨rfl, sp_226_c5_ft (q_r a0) σ (q_r (lo 0)) τ τ3 r3 τ5 r5 τ7 hI g3 (cm0f h4) g5 (cm1t h6) g7⟩
        · exact ⟨_, rfl, sp_226_c5_ff (q_r a0) σ (q_r (lo 0)) τ τ3 r3 τ5 r5 hI g3 (cm0f h4) g5 (cm1f h6)⟩
  · refine fun o1 τ1 g1 => ?_
    obtain ⟨r1, rfl, g1⟩ := g1
    refine And.intro (fun h2 => ?_) (fun h2 => ?_)
    · exact ⟨rfl, sp_226_et (q_r a0) σ τ1 r1 g1 (cm1t h2)⟩
    · exact ⟨_, rfl, sp_226_ef (q_r a0) σ τ1 r1 g1 (cm1f h2)⟩
theorem sp_227_et (a0 : Nat) (σ : zSg) (τ1 : zSg) (r1 : Int32) (g1 : p_226 a0 σ r1 τ1) (h2 : r1.toInt ≠ (0 : Int)) :
    i_227 a0 σ a0 τ1 := by
  refine ⟨rfl, fun W b P E D l H => ?_⟩
  obtain ⟨f1, R, g1, g2⟩ := g1 W b P E D l H
  refine ⟨f1, ?_⟩
  cases R with
  | inr F => exact absurd g2.1 h2
  | inl q =>
    obtain ⟨A1, m⟩ := q
    obtain ⟨-, P1, p1, rfl, H1⟩ := g2
    exact ⟨P1, m, H1, fun R hR => GC.nest1 g1 hR⟩
theorem sp_227_ef (a0 : Nat) (σ : zSg) (τ1 : zSg) (r1 : Int32) (g1 : p_226 a0 σ r1 τ1) (h2 : r1.toInt = (0 : Int)) :
    p_227 (a0) σ (Int32.ofInt (0)) τ1 := by
  intro W b P E D l H
  obtain ⟨f1, R, g1, g2⟩ := g1 W b P E D l H
  refine ⟨f1, ?_⟩
  cases R with
  | inr F => exact ⟨_, GC.nest0 g1, rfl, g2.2⟩
  | inl q => exact absurd h2 g2.1
theorem sp_227_c5_t (a0 : Nat) (σ : zSg) (l0 : Nat) (τ : zSg) (τ3 : zSg) (r3 : Int32) (hI : i_227 a0 σ l0 τ) (g3 : p_205 l0 (zB + 65) τ r3 τ3) (h4 : r3.toInt = (0 : Int)) :
    p_227 (a0) σ (Int32.ofInt (1)) τ3 := by
  obtain ⟨rfl, G⟩ := hI
  intro W b P E D l H
  obtain ⟨f1, P1, m, H1, hR⟩ := G W b P E D l H
  obtain ⟨f2, -, -, q2⟩ := H1.ps g3 qsi_65 (by decide)
  obtain ⟨e1, H2⟩ := q2 h4
  exact ⟨f1.tr f2, _, hR _ (GO.stop e1), by decide, _, H1.bl, zBl_bl, H2⟩
theorem sp_227_c5_ft (a0 : Nat) (σ : zSg) (l0 : Nat) (τ : zSg) (τ3 : zSg) (r3 : Int32) (τ5 : zSg) (r5 : Int32) (τ7 : zSg) (hI : i_227 a0 σ l0 τ) (g3 : p_205 l0 (zB + 65) τ r3 τ3) (h4 : r3.toInt ≠ (0 : Int)) (g5 : p_226 l0 τ3 r5 τ5) (h6 : r5.toInt ≠ (0 : Int)) (g7 : p_221 l0 (Int32.ofInt (14)) (Int32.ofInt (0)) τ5 τ7) :
    i_227 a0 σ l0 τ7 := by
  obtain ⟨rfl, G⟩ := hI
  refine ⟨rfl, fun W b P E D l H => ?_⟩
  obtain ⟨f1, P1, m, H1, hR⟩ := G W b P E D l H
  obtain ⟨f2, -, q1, -⟩ := H1.ps g3 qsi_65 (by decide)
  obtain ⟨e1, H5⟩ := q1 h4
  obtain ⟨f3, R, g1, g2⟩ := g5 W b _ E D _ H5
  cases R with
  | inr F => exact absurd g2.1 h6
  | inl q =>
    obtain ⟨A1, m2⟩ := q
    obtain ⟨-, P2, p2, rfl, H6⟩ := g2
    obtain ⟨f4, -, H7⟩ := g7 W b _ E D _ H6
    have H8 := H7 14 0 rfl rfl
    refine ⟨((f1.tr f2).tr f3).tr f4, P2, m ++ m2 ++ [(14, 0)], ?_, fun R h9 => hR R (GO.step e1 g1 h9)⟩
    rw [show l ++ (m ++ m2 ++ [(14, 0)]) = l ++ m ++ m2 ++ [(14, 0)] by simp only [List.append_assoc]]
    exact H8
theorem sp_227_c5_ff (a0 : Nat) (σ : zSg) (l0 : Nat) (τ : zSg) (τ3 : zSg) (r3 : Int32) (τ5 : zSg) (r5 : Int32) (hI : i_227 a0 σ l0 τ) (g3 : p_205 l0 (zB + 65) τ r3 τ3) (h4 : r3.toInt ≠ (0 : Int)) (g5 : p_226 l0 τ3 r5 τ5) (h6 : r5.toInt = (0 : Int)) :
    p_227 (a0) σ (Int32.ofInt (0)) τ5 := by
  obtain ⟨rfl, G⟩ := hI
  intro W b P E D l H
  obtain ⟨f1, P1, m, H1, hR⟩ := G W b P E D l H
  obtain ⟨f2, -, q1, -⟩ := H1.ps g3 qsi_65 (by decide)
  obtain ⟨e1, H5⟩ := q1 h4
  obtain ⟨f3, R, g1, g2⟩ := g5 W b _ E D _ H5
  refine ⟨(f1.tr f2).tr f3, ?_⟩
  cases R with
  | inl q => exact absurd h6 g2.1
  | inr F => exact ⟨_, hR _ (GO.wrong e1 g1), rfl, g2.2⟩
set_option maxRecDepth 100000 in
theorem sp_227 {sx : zX} {m : Nat} (S205 : zEe sx 205 2 qP_205) (S221 : zEe sx 221 3 qP_221) (S226 : zMt sx m 226 1 qP_226) : zMt sx (m + 1) 227 1 qP_227 := by
  refine zfl zJ_227 (sps := [(226, 1, qP_226), (205, 2, qP_205), (221, 3, qP_221)]) (fun q hq => by
    simp only [List.mem_cons, List.not_mem_nil, or_false] at hq
    rcases hq with rfl | rfl | rfl
    · exact S226
    · exact S205 m
    · exact S221 m) (fun as σ hl => ?_)
  match as, hl with
  | [a0], _ =>
  refine ⟨[(5, fun lo st τ => st = [] ∧ i_227 (q_r a0) σ (q_r (lo 0)) τ)], 400, ?_, ?_⟩
  · intro q hq
    simp only [List.mem_cons, List.not_mem_nil, or_false] at hq
    rcases hq with rfl
    · rintro lo st τ ⟨rfl, hI⟩
      refine ⟨400, ?_⟩
      refine fun o3 τ3 g3 => ?_
      obtain ⟨r3, rfl, g3⟩ := g3
      refine And.intro (fun h4 => ?_) (fun h4 => ?_)
      · exact ⟨_, rfl, sp_227_c5_t (q_r a0) σ (q_r (lo 0)) τ τ3 r3 hI g3 (cm0t h4)⟩
      · refine fun o5 τ5 g5 => ?_
        obtain ⟨r5, rfl, g5⟩ := g5
        refine And.intro (fun h6 => ?_) (fun h6 => ?_)
        · refine fun o7 τ7 g7 => ?_
          obtain ⟨rfl, g7⟩ := g7
          exact ⟨rfl, sp_227_c5_ft (q_r a0) σ (q_r (lo 0)) τ τ3 r3 τ5 r5 τ7 hI g3 (cm0f h4) g5 (cm1t h6) g7⟩
        · exact ⟨_, rfl, sp_227_c5_ff (q_r a0) σ (q_r (lo 0)) τ τ3 r3 τ5 r5 hI g3 (cm0f h4) g5 (cm1f h6)⟩
  · refine fun o1 τ1 g1 => ?_
    obtain ⟨r1, rfl, g1⟩ := g1
    refine And.intro (fun h2 => ?_) (fun h2 => ?_)
    · exact ⟨rfl, sp_227_et (q_r a0) σ τ1 r1 g1 (cm1t h2)⟩
    · exact ⟨_, rfl, sp_227_ef (q_r a0) σ τ1 r1 g1 (cm1f h2)⟩
theorem sp_225_ettttttt (a0 : Nat) (σ : zSg) (τ1 : zSg) (r1 : Int32) (τ3 : zSg) (r3 : Int32) (τ5 : zSg) (r5 : Int32) (τ7 : zSg) (r7 : Int32) (τ9 : zSg) (r9 : Int32) (τ11 : zSg) (r11 : Int32) (τ14 : zSg) (g1 : p_206 a0 (Int32.ofInt (40)) σ r1 τ1) (h2 : r1.toInt = (0 : Int)) (g3 : p_205 a0 (zB + 63) τ1 r3 τ3) (h4 : r3.toInt = (0 : Int)) (g5 : p_224 a0 τ3 r5 τ5) (h6 : r5.toInt = (0 : Int)) (g7 : p_223 a0 τ5 r7 τ7) (h8 : r7.toInt ≠ (0 : Int)) (g9 : p_206 a0 (Int32.ofInt (60)) τ7 r9 τ9) (h10 : r9.toInt ≠ (0 : Int)) (g11 : p_223 a0 τ9 r11 τ11) (h12 : r11.toInt ≠ (0 : Int)) (h13 : r9.toInt = (0 : Int)) (g14 : p_221 a0 (Int32.ofInt (11)) (Int32.ofInt (0)) τ11 τ14) :
    p_225 (a0) σ (Int32.ofInt (1)) τ14 := by
  exact absurd h13 h10
theorem sp_225_ettttttf (a0 : Nat) (σ : zSg) (τ1 : zSg) (r1 : Int32) (τ3 : zSg) (r3 : Int32) (τ5 : zSg) (r5 : Int32) (τ7 : zSg) (r7 : Int32) (τ9 : zSg) (r9 : Int32) (τ11 : zSg) (r11 : Int32) (τ15 : zSg) (g1 : p_206 a0 (Int32.ofInt (40)) σ r1 τ1) (h2 : r1.toInt = (0 : Int)) (g3 : p_205 a0 (zB + 63) τ1 r3 τ3) (h4 : r3.toInt = (0 : Int)) (g5 : p_224 a0 τ3 r5 τ5) (h6 : r5.toInt = (0 : Int)) (g7 : p_223 a0 τ5 r7 τ7) (h8 : r7.toInt ≠ (0 : Int)) (g9 : p_206 a0 (Int32.ofInt (60)) τ7 r9 τ9) (h10 : r9.toInt ≠ (0 : Int)) (g11 : p_223 a0 τ9 r11 τ11) (h12 : r11.toInt ≠ (0 : Int)) (h13 : r9.toInt ≠ (0 : Int)) (g15 : p_221 a0 (Int32.ofInt (10)) (Int32.ofInt (0)) τ11 τ15) :
    p_225 (a0) σ (Int32.ofInt (1)) τ15 := by
  intro W b P E D l H
  obtain ⟨f1, -, -, q1⟩ := H.sg g1
  obtain ⟨e1, H1⟩ := q1 h2
  obtain ⟨f2, -, q3, q2⟩ := H1.ps g3 qsi_63 (by decide)
  rw [zBl_bl] at q2 q3
  obtain ⟨e2, H2x⟩ := q2 h4
  obtain ⟨f3, q4⟩ := g5 W b _ E D l H2x
  rw [zBl_bl] at q4
  rcases q4 with ⟨q5, -⟩ | ⟨-, e3, e4, H3x⟩
  · exact absurd h6 q5
  obtain ⟨f4, R, g1, g2⟩ := g7 W b _ E D l H3x
  rw [zBl_bl] at g1
  cases R with
  | inr F => exact absurd g2.1 h8
  | inl q =>
  obtain ⟨A1, m1⟩ := q
  obtain ⟨-, P4, p4, rfl, H4x⟩ := g2
  obtain ⟨f5, s5, q6, q7⟩ := H4x.sg g9
  obtain ⟨e5, H5x⟩ := q6 h10
  obtain ⟨f6, r9, g3, g4⟩ := g11 W b _ E D _ H5x
  cases r9 with
  | inr F => exact absurd g4.1 h12
  | inl q =>
  obtain ⟨A2, m2⟩ := q
  obtain ⟨-, P6, p6, rfl, H6x⟩ := g4
  obtain ⟨f7, -, h2⟩ := g15 W b _ E D _ H6x
  have H8 := h2 10 0 rfl rfl
  refine ⟨((((f1.tr f2).tr f3).tr f4).tr f5).tr (f6.tr f7), _, GA.base e1 e2 (GB.less e3 e4 g1 e5 g3), by decide, P6, p6, rfl, ?_⟩
  rw [show l ++ (m1 ++ m2 ++ [(10, 0)]) = l ++ m1 ++ m2 ++ [(10, 0)] by simp only [List.append_assoc]]
  exact H8
theorem sp_225_etttttf (a0 : Nat) (σ : zSg) (τ1 : zSg) (r1 : Int32) (τ3 : zSg) (r3 : Int32) (τ5 : zSg) (r5 : Int32) (τ7 : zSg) (r7 : Int32) (τ9 : zSg) (r9 : Int32) (τ11 : zSg) (r11 : Int32) (g1 : p_206 a0 (Int32.ofInt (40)) σ r1 τ1) (h2 : r1.toInt = (0 : Int)) (g3 : p_205 a0 (zB + 63) τ1 r3 τ3) (h4 : r3.toInt = (0 : Int)) (g5 : p_224 a0 τ3 r5 τ5) (h6 : r5.toInt = (0 : Int)) (g7 : p_223 a0 τ5 r7 τ7) (h8 : r7.toInt ≠ (0 : Int)) (g9 : p_206 a0 (Int32.ofInt (60)) τ7 r9 τ9) (h10 : r9.toInt ≠ (0 : Int)) (g11 : p_223 a0 τ9 r11 τ11) (h12 : r11.toInt = (0 : Int)) :
    p_225 (a0) σ (Int32.ofInt (0)) τ11 := by
  intro W b P E D l H
  obtain ⟨f1, -, -, q1⟩ := H.sg g1
  obtain ⟨e1, H1⟩ := q1 h2
  obtain ⟨f2, -, q3, q2⟩ := H1.ps g3 qsi_63 (by decide)
  rw [zBl_bl] at q2 q3
  obtain ⟨e2, H2x⟩ := q2 h4
  obtain ⟨f3, q4⟩ := g5 W b _ E D l H2x
  rw [zBl_bl] at q4
  rcases q4 with ⟨q5, -⟩ | ⟨-, e3, e4, H3x⟩
  · exact absurd h6 q5
  obtain ⟨f4, R, g1, g2⟩ := g7 W b _ E D l H3x
  rw [zBl_bl] at g1
  cases R with
  | inr F => exact absurd g2.1 h8
  | inl q =>
  obtain ⟨A1, m1⟩ := q
  obtain ⟨-, P4, p4, rfl, H4x⟩ := g2
  obtain ⟨f5, s5, q6, q7⟩ := H4x.sg g9
  obtain ⟨e5, H5x⟩ := q6 h10
  obtain ⟨f6, r9, g3, g4⟩ := g11 W b _ E D _ H5x
  cases r9 with
  | inl q => exact absurd h12 g4.1
  | inr F => exact ⟨((((f1.tr f2).tr f3).tr f4).tr f5).tr f6, _, GA.base e1 e2 (GB.less e3 e4 g1 e5 g3), rfl, g4.2⟩
theorem sp_225_ettttft (a0 : Nat) (σ : zSg) (τ1 : zSg) (r1 : Int32) (τ3 : zSg) (r3 : Int32) (τ5 : zSg) (r5 : Int32) (τ7 : zSg) (r7 : Int32) (τ9 : zSg) (r9 : Int32) (τ16 : zSg) (r16 : Int32) (g1 : p_206 a0 (Int32.ofInt (40)) σ r1 τ1) (h2 : r1.toInt = (0 : Int)) (g3 : p_205 a0 (zB + 63) τ1 r3 τ3) (h4 : r3.toInt = (0 : Int)) (g5 : p_224 a0 τ3 r5 τ5) (h6 : r5.toInt = (0 : Int)) (g7 : p_223 a0 τ5 r7 τ7) (h8 : r7.toInt ≠ (0 : Int)) (g9 : p_206 a0 (Int32.ofInt (60)) τ7 r9 τ9) (h10 : r9.toInt = (0 : Int)) (g16 : p_206 a0 (Int32.ofInt (62)) τ9 r16 τ16) (h17 : r16.toInt = (0 : Int)) :
    p_225 (a0) σ (Int32.ofInt (0)) τ16 := by
  intro W b P E D l H
  obtain ⟨f1, -, -, q1⟩ := H.sg g1
  obtain ⟨e1, H1⟩ := q1 h2
  obtain ⟨f2, -, q3, q2⟩ := H1.ps g3 qsi_63 (by decide)
  rw [zBl_bl] at q2 q3
  obtain ⟨e2, H2x⟩ := q2 h4
  obtain ⟨f3, q4⟩ := g5 W b _ E D l H2x
  rw [zBl_bl] at q4
  rcases q4 with ⟨q5, -⟩ | ⟨-, e3, e4, H3x⟩
  · exact absurd h6 q5
  obtain ⟨f4, R, g1, g2⟩ := g7 W b _ E D l H3x
  rw [zBl_bl] at g1
  cases R with
  | inr F => exact absurd g2.1 h8
  | inl q =>
  obtain ⟨A1, m1⟩ := q
  obtain ⟨-, P4, p4, rfl, H4x⟩ := g2
  obtain ⟨f5, s5, q6, q7⟩ := H4x.sg g9
  obtain ⟨e5, H5x⟩ := q7 h10
  obtain ⟨f6, s6, -, q8⟩ := H5x.sg g16
  rw [zBl_bl] at q8 s6
  obtain ⟨e6, H6x⟩ := q8 h17
  exact ⟨((((f1.tr f2).tr f3).tr f4).tr f5).tr f6, _, GA.base e1 e2 (GB.wrong2 e3 e4 g1 e5 e6), rfl, s6⟩
theorem sp_225_ettttfftt (a0 : Nat) (σ : zSg) (τ1 : zSg) (r1 : Int32) (τ3 : zSg) (r3 : Int32) (τ5 : zSg) (r5 : Int32) (τ7 : zSg) (r7 : Int32) (τ9 : zSg) (r9 : Int32) (τ16 : zSg) (r16 : Int32) (τ18 : zSg) (r18 : Int32) (τ21 : zSg) (g1 : p_206 a0 (Int32.ofInt (40)) σ r1 τ1) (h2 : r1.toInt = (0 : Int)) (g3 : p_205 a0 (zB + 63) τ1 r3 τ3) (h4 : r3.toInt = (0 : Int)) (g5 : p_224 a0 τ3 r5 τ5) (h6 : r5.toInt = (0 : Int)) (g7 : p_223 a0 τ5 r7 τ7) (h8 : r7.toInt ≠ (0 : Int)) (g9 : p_206 a0 (Int32.ofInt (60)) τ7 r9 τ9) (h10 : r9.toInt = (0 : Int)) (g16 : p_206 a0 (Int32.ofInt (62)) τ9 r16 τ16) (h17 : r16.toInt ≠ (0 : Int)) (g18 : p_223 a0 τ16 r18 τ18) (h19 : r18.toInt ≠ (0 : Int)) (h20 : r9.toInt = (0 : Int)) (g21 : p_221 a0 (Int32.ofInt (11)) (Int32.ofInt (0)) τ18 τ21) :
    p_225 (a0) σ (Int32.ofInt (1)) τ21 := by
  intro W b P E D l H
  obtain ⟨f1, -, -, q1⟩ := H.sg g1
  obtain ⟨e1, H1⟩ := q1 h2
  obtain ⟨f2, -, q3, q2⟩ := H1.ps g3 qsi_63 (by decide)
  rw [zBl_bl] at q2 q3
  obtain ⟨e2, H2x⟩ := q2 h4
  obtain ⟨f3, q4⟩ := g5 W b _ E D l H2x
  rw [zBl_bl] at q4
  rcases q4 with ⟨q5, -⟩ | ⟨-, e3, e4, H3x⟩
  · exact absurd h6 q5
  obtain ⟨f4, R, g1, g2⟩ := g7 W b _ E D l H3x
  rw [zBl_bl] at g1
  cases R with
  | inr F => exact absurd g2.1 h8
  | inl q =>
  obtain ⟨A1, m1⟩ := q
  obtain ⟨-, P4, p4, rfl, H4x⟩ := g2
  obtain ⟨f5, s5, q6, q7⟩ := H4x.sg g9
  obtain ⟨e5, H5x⟩ := q7 h10
  obtain ⟨f6, s6, q8, -⟩ := H5x.sg g16
  rw [zBl_bl] at q8
  obtain ⟨e6, H6x⟩ := q8 h17
  obtain ⟨f7, r16, g3, g4⟩ := g18 W b _ E D _ H6x
  cases r16 with
  | inr F => exact absurd g4.1 h19
  | inl q =>
  obtain ⟨A2, m2⟩ := q
  obtain ⟨-, P6, p6, rfl, H7x⟩ := g4
  obtain ⟨f8, -, h4⟩ := g21 W b _ E D _ H7x
  have h2 := h4 11 0 rfl rfl
  refine ⟨((((f1.tr f2).tr f3).tr f4).tr f5).tr ((f6.tr f7).tr f8), _, GA.base e1 e2 (GB.more e3 e4 g1 e5 e6 g3), by decide, P6, p6, rfl, ?_⟩
  rw [show l ++ (m1 ++ m2 ++ [(11, 0)]) = l ++ m1 ++ m2 ++ [(11, 0)] by simp only [List.append_assoc]]
  exact h2
theorem sp_225_ettttfftf (a0 : Nat) (σ : zSg) (τ1 : zSg) (r1 : Int32) (τ3 : zSg) (r3 : Int32) (τ5 : zSg) (r5 : Int32) (τ7 : zSg) (r7 : Int32) (τ9 : zSg) (r9 : Int32) (τ16 : zSg) (r16 : Int32) (τ18 : zSg) (r18 : Int32) (τ22 : zSg) (g1 : p_206 a0 (Int32.ofInt (40)) σ r1 τ1) (h2 : r1.toInt = (0 : Int)) (g3 : p_205 a0 (zB + 63) τ1 r3 τ3) (h4 : r3.toInt = (0 : Int)) (g5 : p_224 a0 τ3 r5 τ5) (h6 : r5.toInt = (0 : Int)) (g7 : p_223 a0 τ5 r7 τ7) (h8 : r7.toInt ≠ (0 : Int)) (g9 : p_206 a0 (Int32.ofInt (60)) τ7 r9 τ9) (h10 : r9.toInt = (0 : Int)) (g16 : p_206 a0 (Int32.ofInt (62)) τ9 r16 τ16) (h17 : r16.toInt ≠ (0 : Int)) (g18 : p_223 a0 τ16 r18 τ18) (h19 : r18.toInt ≠ (0 : Int)) (h20 : r9.toInt ≠ (0 : Int)) (g22 : p_221 a0 (Int32.ofInt (10)) (Int32.ofInt (0)) τ18 τ22) :
    p_225 (a0) σ (Int32.ofInt (1)) τ22 := by
  exact absurd h10 h20
theorem sp_225_ettttfff (a0 : Nat) (σ : zSg) (τ1 : zSg) (r1 : Int32) (τ3 : zSg) (r3 : Int32) (τ5 : zSg) (r5 : Int32) (τ7 : zSg) (r7 : Int32) (τ9 : zSg) (r9 : Int32) (τ16 : zSg) (r16 : Int32) (τ18 : zSg) (r18 : Int32) (g1 : p_206 a0 (Int32.ofInt (40)) σ r1 τ1) (h2 : r1.toInt = (0 : Int)) (g3 : p_205 a0 (zB + 63) τ1 r3 τ3) (h4 : r3.toInt = (0 : Int)) (g5 : p_224 a0 τ3 r5 τ5) (h6 : r5.toInt = (0 : Int)) (g7 : p_223 a0 τ5 r7 τ7) (h8 : r7.toInt ≠ (0 : Int)) (g9 : p_206 a0 (Int32.ofInt (60)) τ7 r9 τ9) (h10 : r9.toInt = (0 : Int)) (g16 : p_206 a0 (Int32.ofInt (62)) τ9 r16 τ16) (h17 : r16.toInt ≠ (0 : Int)) (g18 : p_223 a0 τ16 r18 τ18) (h19 : r18.toInt = (0 : Int)) :
    p_225 (a0) σ (Int32.ofInt (0)) τ18 := by
  intro W b P E D l H
  obtain ⟨f1, -, -, q1⟩ := H.sg g1
  obtain ⟨e1, H1⟩ := q1 h2
  obtain ⟨f2, -, q3, q2⟩ := H1.ps g3 qsi_63 (by decide)
  rw [zBl_bl] at q2 q3
  obtain ⟨e2, H2x⟩ := q2 h4
  obtain ⟨f3, q4⟩ := g5 W b _ E D l H2x
  rw [zBl_bl] at q4
  rcases q4 with ⟨q5, -⟩ | ⟨-, e3, e4, H3x⟩
  · exact absurd h6 q5
  obtain ⟨f4, R, g1, g2⟩ := g7 W b _ E D l H3x
  rw [zBl_bl] at g1
  cases R with
  | inr F => exact absurd g2.1 h8
  | inl q =>
  obtain ⟨A1, m1⟩ := q
  obtain ⟨-, P4, p4, rfl, H4x⟩ := g2
  obtain ⟨f5, s5, q6, q7⟩ := H4x.sg g9
  obtain ⟨e5, H5x⟩ := q7 h10
  obtain ⟨f6, s6, q8, -⟩ := H5x.sg g16
  rw [zBl_bl] at q8
  obtain ⟨e6, H6x⟩ := q8 h17
  obtain ⟨f7, r16, g3, g4⟩ := g18 W b _ E D _ H6x
  cases r16 with
  | inl q => exact absurd h19 g4.1
  | inr F => exact ⟨((((f1.tr f2).tr f3).tr f4).tr f5).tr (f6.tr f7), _, GA.base e1 e2 (GB.more e3 e4 g1 e5 e6 g3), rfl, g4.2⟩
theorem sp_225_etttf (a0 : Nat) (σ : zSg) (τ1 : zSg) (r1 : Int32) (τ3 : zSg) (r3 : Int32) (τ5 : zSg) (r5 : Int32) (τ7 : zSg) (r7 : Int32) (g1 : p_206 a0 (Int32.ofInt (40)) σ r1 τ1) (h2 : r1.toInt = (0 : Int)) (g3 : p_205 a0 (zB + 63) τ1 r3 τ3) (h4 : r3.toInt = (0 : Int)) (g5 : p_224 a0 τ3 r5 τ5) (h6 : r5.toInt = (0 : Int)) (g7 : p_223 a0 τ5 r7 τ7) (h8 : r7.toInt = (0 : Int)) :
    p_225 (a0) σ (Int32.ofInt (0)) τ7 := by
  intro W b P E D l H
  obtain ⟨f1, -, -, q1⟩ := H.sg g1
  obtain ⟨e1, H1⟩ := q1 h2
  obtain ⟨f2, -, q3, q2⟩ := H1.ps g3 qsi_63 (by decide)
  rw [zBl_bl] at q2 q3
  obtain ⟨e2, H2x⟩ := q2 h4
  obtain ⟨f3, q4⟩ := g5 W b _ E D l H2x
  rw [zBl_bl] at q4
  rcases q4 with ⟨q5, -⟩ | ⟨-, e3, e4, H3x⟩
  · exact absurd h6 q5
  obtain ⟨f4, R, g1, g2⟩ := g7 W b _ E D l H3x
  rw [zBl_bl] at g1
  refine ⟨((f1.tr f2).tr f3).tr f4, ?_⟩
  cases R with
  | inl q => exact absurd h8 g2.1
  | inr F => exact ⟨_, GA.base e1 e2 (GB.wrong1 e3 e4 g1), rfl, g2.2⟩
theorem sp_225_ettf (a0 : Nat) (σ : zSg) (τ1 : zSg) (r1 : Int32) (τ3 : zSg) (r3 : Int32) (τ5 : zSg) (r5 : Int32) (g1 : p_206 a0 (Int32.ofInt (40)) σ r1 τ1) (h2 : r1.toInt = (0 : Int)) (g3 : p_205 a0 (zB + 63) τ1 r3 τ3) (h4 : r3.toInt = (0 : Int)) (g5 : p_224 a0 τ3 r5 τ5) (h6 : r5.toInt ≠ (0 : Int)) :
    p_225 (a0) σ (Int32.ofInt (1)) τ5 := by
  intro W b P E D l H
  obtain ⟨f1, -, -, q1⟩ := H.sg g1
  obtain ⟨e1, H1⟩ := q1 h2
  obtain ⟨f2, -, q3, q2⟩ := H1.ps g3 qsi_63 (by decide)
  rw [zBl_bl] at q2 q3
  obtain ⟨e2, H2x⟩ := q2 h4
  obtain ⟨f3, q4⟩ := g5 W b _ E D l H2x
  rw [zBl_bl] at q4
  refine ⟨(f1.tr f2).tr f3, ?_⟩
  rcases q4 with ⟨-, R, g1, g2⟩ | ⟨q5, -⟩
  · cases R with
    | inr F => exact absurd g2.1 h6
    | inl q =>
      obtain ⟨A1, m⟩ := q
      exact ⟨_, GA.base e1 e2 g1, by decide, g2.2⟩
  · exact absurd q5 h6
theorem sp_225_etftt (a0 : Nat) (σ : zSg) (τ1 : zSg) (r1 : Int32) (τ3 : zSg) (r3 : Int32) (τ24 : zSg) (r24 : Int32) (τ26 : zSg) (g1 : p_206 a0 (Int32.ofInt (40)) σ r1 τ1) (h2 : r1.toInt = (0 : Int)) (g3 : p_205 a0 (zB + 63) τ1 r3 τ3) (h4 : r3.toInt ≠ (0 : Int)) (h23 : (q_i (τ3.1 a0 13)).toInt ≠ (6 : Int)) (g24 : p_225 a0 (q_w τ3 a0 13 (.int ((q_i (τ3.1 a0 13)) + (Int32.ofInt (1))))) r24 τ24) (h25 : r24.toInt ≠ (0 : Int)) (g26 : p_221 a0 (Int32.ofInt (12)) (Int32.ofInt (0)) (q_w τ24 a0 13 (.int ((q_i (τ24.1 a0 13)) - (Int32.ofInt (1))))) τ26) :
    p_225 (a0) σ (Int32.ofInt (1)) τ26 := by
  intro W b P E D l H
  obtain ⟨f1, -, -, q1⟩ := H.sg g1
  obtain ⟨e1, H1⟩ := q1 h2
  obtain ⟨f2, -, q3, q2⟩ := H1.ps g3 qsi_63 (by decide)
  rw [zBl_bl] at q2 q3
  obtain ⟨e2, H2x⟩ := q3 h4
  have hD := H2x.2.2.2.2.2.2.2.1
  rw [H2x.nodp] at h23
  have hd : q_i (τ3.1 a0 13) + Int32.ofInt 1 = Int32.ofNat (D + 1) := by
    rw [H2x.2.2.2.2.2.2.1]
    exact o32i (by omega)
  rw [hd] at g24
  obtain ⟨f3, R, g1, g2⟩ := g24 W b _ E _ l (H2x.dp (by omega))
  cases R with
  | inr F => exact absurd g2.1 h25
  | inl q =>
  obtain ⟨A1, m⟩ := q
  obtain ⟨-, P3, p3, rfl, H3x⟩ := g2
  have hd2 : q_i (τ24.1 a0 13) - Int32.ofInt 1 = Int32.ofNat D := by
    rw [H3x.2.2.2.2.2.2.1]
    refine Int32.toInt_inj.mp ?_
    have h9 : (Int32.ofNat (D + 1) - Int32.ofInt 1).toInt = ((D + 1 : Nat) : Int) - 1 := zI_sub (o32 (by omega)) (zI_c (by omega) (by omega)) (by omega) (by omega)
    rw [o32 (by omega)]
    exact h9.trans (by omega)
  rw [hd2] at g26
  obtain ⟨f4, -, H4x⟩ := g26 W b _ E _ _ (H3x.dp (K := D) (by omega))
  have H5 := H4x 12 0 rfl rfl
  refine ⟨(((f1.tr f2).tr (rF.w (by omega))).tr f3).tr ((rF.w (by omega)).tr f4), _, GA.not (by omega) e1 e2 g1, by decide, P3, p3, rfl, ?_⟩
  rw [show l ++ (m ++ [(12, 0)]) = l ++ m ++ [(12, 0)] by simp only [List.append_assoc]]
  exact H5
theorem sp_225_etftf (a0 : Nat) (σ : zSg) (τ1 : zSg) (r1 : Int32) (τ3 : zSg) (r3 : Int32) (τ24 : zSg) (r24 : Int32) (g1 : p_206 a0 (Int32.ofInt (40)) σ r1 τ1) (h2 : r1.toInt = (0 : Int)) (g3 : p_205 a0 (zB + 63) τ1 r3 τ3) (h4 : r3.toInt ≠ (0 : Int)) (h23 : (q_i (τ3.1 a0 13)).toInt ≠ (6 : Int)) (g24 : p_225 a0 (q_w τ3 a0 13 (.int ((q_i (τ3.1 a0 13)) + (Int32.ofInt (1))))) r24 τ24) (h25 : r24.toInt = (0 : Int)) :
    p_225 (a0) σ (Int32.ofInt (0)) τ24 := by
  intro W b P E D l H
  obtain ⟨f1, -, -, q1⟩ := H.sg g1
  obtain ⟨e1, H1⟩ := q1 h2
  obtain ⟨f2, -, q3, q2⟩ := H1.ps g3 qsi_63 (by decide)
  rw [zBl_bl] at q2 q3
  obtain ⟨e2, H2x⟩ := q3 h4
  have hD := H2x.2.2.2.2.2.2.2.1
  rw [H2x.nodp] at h23
  have hd : q_i (τ3.1 a0 13) + Int32.ofInt 1 = Int32.ofNat (D + 1) := by
    rw [H2x.2.2.2.2.2.2.1]
    exact o32i (by omega)
  rw [hd] at g24
  obtain ⟨f3, R, g1, g2⟩ := g24 W b _ E _ l (H2x.dp (by omega))
  cases R with
  | inl q => exact absurd h25 g2.1
  | inr F => exact ⟨((f1.tr f2).tr (rF.w (by omega))).tr f3, _, GA.not (by omega) e1 e2 g1, rfl, g2.2⟩
theorem sp_225_etff (a0 : Nat) (σ : zSg) (τ1 : zSg) (r1 : Int32) (τ3 : zSg) (r3 : Int32) (g1 : p_206 a0 (Int32.ofInt (40)) σ r1 τ1) (h2 : r1.toInt = (0 : Int)) (g3 : p_205 a0 (zB + 63) τ1 r3 τ3) (h4 : r3.toInt ≠ (0 : Int)) (h23 : (q_i (τ3.1 a0 13)).toInt = (6 : Int)) :
    p_225 (a0) σ (Int32.ofInt (0)) τ3 := by
  intro W b P E D l H
  obtain ⟨f1, -, -, q1⟩ := H.sg g1
  obtain ⟨e1, H1⟩ := q1 h2
  obtain ⟨f2, s2, q3, q2⟩ := H1.ps g3 qsi_63 (by decide)
  rw [zBl_bl] at q2 q3 s2
  obtain ⟨e2, H2x⟩ := q3 h4
  rw [H2x.nodp] at h23
  have hD : D = 6 := by omega
  subst hD
  exact ⟨f1.tr f2, _, GA.deep2 e1 e2, rfl, s2⟩
theorem sp_225_eftt (a0 : Nat) (σ : zSg) (τ1 : zSg) (r1 : Int32) (τ28 : zSg) (r28 : Int32) (τ30 : zSg) (r30 : Int32) (g1 : p_206 a0 (Int32.ofInt (40)) σ r1 τ1) (h2 : r1.toInt ≠ (0 : Int)) (h27 : (q_i (τ1.1 a0 13)).toInt ≠ (6 : Int)) (g28 : p_227 a0 (q_w τ1 a0 13 (.int ((q_i (τ1.1 a0 13)) + (Int32.ofInt (1))))) r28 τ28) (h29 : r28.toInt ≠ (0 : Int)) (g30 : p_206 a0 (Int32.ofInt (41)) (q_w τ28 a0 13 (.int ((q_i (τ28.1 a0 13)) - (Int32.ofInt (1))))) r30 τ30) :
    p_225 (a0) σ r30 τ30 := by
  intro W b P E D l H
  obtain ⟨f1, -, q1, -⟩ := H.sg g1
  obtain ⟨e1, H1x⟩ := q1 h2
  have hD := H1x.2.2.2.2.2.2.2.1
  rw [H1x.nodp] at h27
  have hd : q_i (τ1.1 a0 13) + Int32.ofInt 1 = Int32.ofNat (D + 1) := by
    rw [H1x.2.2.2.2.2.2.1]
    exact o32i (by omega)
  rw [hd] at g28
  obtain ⟨f3, R, g1, g2⟩ := g28 W b _ E _ l (H1x.dp (by omega))
  cases R with
  | inr F => exact absurd g2.1 h29
  | inl q =>
  obtain ⟨A1, m⟩ := q
  obtain ⟨-, P3, p3, rfl, H3x⟩ := g2
  have hd2 : q_i (τ28.1 a0 13) - Int32.ofInt 1 = Int32.ofNat D := by
    rw [H3x.2.2.2.2.2.2.1]
    refine Int32.toInt_inj.mp ?_
    have h9 : (Int32.ofNat (D + 1) - Int32.ofInt 1).toInt = ((D + 1 : Nat) : Int) - 1 := zI_sub (o32 (by omega)) (zI_c (by omega) (by omega)) (by omega) (by omega)
    rw [o32 (by omega)]
    exact h9.trans (by omega)
  rw [hd2] at g30
  have H4x := H3x.dp (K := D) (by omega)
  obtain ⟨f4, s4, q5, q6⟩ := H4x.sg g30
  refine ⟨((f1.tr (rF.w (by omega))).tr f3).tr ((rF.w (by omega)).tr f4), _, GA.par (by omega) e1 g1, ?_⟩
  by_cases hr : r30.toInt = 0
  · obtain ⟨e5, H5x⟩ := q6 hr
    have e5x : ts b E 41 (zBl b E P3) = none := e5
    dsimp only
    rw [e5x]
    exact ⟨hr, s4⟩
  · obtain ⟨e5, H5x⟩ := q5 hr
    have e5x : ts b E 41 (zBl b E P3) = some (zBl b E (zBl b E P3 + 1)) := e5
    dsimp only
    rw [e5x]
    exact ⟨hr, _, H5x.le.1, rfl, H5x⟩
theorem sp_225_eftf (a0 : Nat) (σ : zSg) (τ1 : zSg) (r1 : Int32) (τ28 : zSg) (r28 : Int32) (g1 : p_206 a0 (Int32.ofInt (40)) σ r1 τ1) (h2 : r1.toInt ≠ (0 : Int)) (h27 : (q_i (τ1.1 a0 13)).toInt ≠ (6 : Int)) (g28 : p_227 a0 (q_w τ1 a0 13 (.int ((q_i (τ1.1 a0 13)) + (Int32.ofInt (1))))) r28 τ28) (h29 : r28.toInt = (0 : Int)) :
    p_225 (a0) σ (Int32.ofInt (0)) τ28 := by
  intro W b P E D l H
  obtain ⟨f1, -, q1, -⟩ := H.sg g1
  obtain ⟨e1, H1x⟩ := q1 h2
  have hD := H1x.2.2.2.2.2.2.2.1
  rw [H1x.nodp] at h27
  have hd : q_i (τ1.1 a0 13) + Int32.ofInt 1 = Int32.ofNat (D + 1) := by
    rw [H1x.2.2.2.2.2.2.1]
    exact o32i (by omega)
  rw [hd] at g28
  obtain ⟨f3, R, g1, g2⟩ := g28 W b _ E _ l (H1x.dp (by omega))
  cases R with
  | inl q => exact absurd h29 g2.1
  | inr F => exact ⟨(f1.tr (rF.w (by omega))).tr f3, _, GA.par (by omega) e1 g1, rfl, g2.2⟩
theorem sp_225_eff (a0 : Nat) (σ : zSg) (τ1 : zSg) (r1 : Int32) (g1 : p_206 a0 (Int32.ofInt (40)) σ r1 τ1) (h2 : r1.toInt ≠ (0 : Int)) (h27 : (q_i (τ1.1 a0 13)).toInt = (6 : Int)) :
    p_225 (a0) σ (Int32.ofInt (0)) τ1 := by
  intro W b P E D l H
  obtain ⟨f1, s1, q1, -⟩ := H.sg g1
  obtain ⟨e1, H1x⟩ := q1 h2
  rw [H1x.nodp] at h27
  have hD : D = 6 := by omega
  subst hD
  exact ⟨f1, _, GA.deep1 e1, rfl, s1⟩
set_option maxRecDepth 100000 in
theorem sp_225 {sx : zX} {m : Nat} (S206 : zEe sx 206 2 qP_206) (S205 : zEe sx 205 2 qP_205) (S224 : zEe sx 224 1 qP_224) (S223 : zEe sx 223 1 qP_223) (S221 : zEe sx 221 3 qP_221) (S225 : zMt sx m 225 1 qP_225) (S227 : zMt sx m 227 1 qP_227) : zMt sx (m + 1) 225 1 qP_225 := by
  refine zfl zJ_225 (sps := [(206, 2, qP_206), (205, 2, qP_205), (224, 1, qP_224), (223, 1, qP_223), (221, 3, qP_221), (225, 1, qP_225), (227, 1, qP_227)]) (fun q hq => by
    simp only [List.mem_cons, List.not_mem_nil, or_false] at hq
    rcases hq with rfl | rfl | rfl | rfl | rfl | rfl | rfl
    · exact S206 m
    · exact S205 m
    · exact S224 m
    · exact S223 m
    · exact S221 m
    · exact S225
    · exact S227) (fun as σ hl => ?_)
  match as, hl with
  | [a0], _ =>
  refine ⟨[], 400, ?_, ?_⟩
  · exact fun q hq => absurd hq List.not_mem_nil
  · refine fun o1 τ1 g1 => ?_
    obtain ⟨r1, rfl, g1⟩ := g1
    refine And.intro (fun h2 => ?_) (fun h2 => ?_)
    · refine fun o3 τ3 g3 => ?_
      obtain ⟨r3, rfl, g3⟩ := g3
      refine And.intro (fun h4 => ?_) (fun h4 => ?_)
      · refine fun o5 τ5 g5 => ?_
        obtain ⟨r5, rfl, g5⟩ := g5
        refine And.intro (fun h6 => ?_) (fun h6 => ?_)
        · refine fun o7 τ7 g7 => ?_
          obtain ⟨r7, rfl, g7⟩ := g7
          refine And.intro (fun h8 => ?_) (fun h8 => ?_)
          · refine fun o9 τ9 g9 => ?_
            obtain ⟨r9, rfl, g9⟩ := g9
            refine And.intro (fun h10 => ?_) (fun h10 => ?_)
            · refine fun o11 τ11 g11 => ?_
              obtain ⟨r11, rfl, g11⟩ := g11
              refine And.intro (fun h12 => ?_) (fun h12 => ?_)
              · refine And.intro (fun h13 => ?_) (fun h13 => ?_)
                · refine fun o14 τ14 g14 => ?_
                  obtain ⟨rfl, g14⟩ := g14
                  exact ⟨_, rfl, sp_225_ettttttt (q_r a0) σ τ1 r1 τ3 r3 τ5 r5 τ7 r7 τ9 r9 τ11 r11 τ14 g1 (cm0t h2) g3 (cm0t h4) g5 (cm0t h6) g7 (cm1t h8) g9 (cm1t h10) g11 (cm1t h12) (cm0t h13) g14⟩
                · refine fun o15 τ15 g15 => ?_
                  obtain ⟨rfl, g15⟩ := g15
                  exact ⟨_, rfl, sp_225_ettttttf (q_r a0) σ τ1 r1 τ3 r3 τ5 r5 τ7 r7 τ9 r9 τ11 r11 τ15 g1 (cm0t h2) g3 (cm0t h4) g5 (cm0t h6) g7 (cm1t h8) g9 (cm1t h10) g11 (cm1t h12) (cm0f h13) g15⟩
              · exact ⟨_, rfl, sp_225_etttttf (q_r a0) σ τ1 r1 τ3 r3 τ5 r5 τ7 r7 τ9 r9 τ11 r11 g1 (cm0t h2) g3 (cm0t h4) g5 (cm0t h6) g7 (cm1t h8) g9 (cm1t h10) g11 (cm1f h12)⟩
            · refine fun o16 τ16 g16 => ?_
              obtain ⟨r16, rfl, g16⟩ := g16
              refine And.intro (fun h17 => ?_) (fun h17 => ?_)
              · exact ⟨_, rfl, sp_225_ettttft (q_r a0) σ τ1 r1 τ3 r3 τ5 r5 τ7 r7 τ9 r9 τ16 r16 g1 (cm0t h2) g3 (cm0t h4) g5 (cm0t h6) g7 (cm1t h8) g9 (cm1f h10) g16 (cm0t h17)⟩
              · refine fun o18 τ18 g18 => ?_
                obtain ⟨r18, rfl, g18⟩ := g18
                refine And.intro (fun h19 => ?_) (fun h19 => ?_)
                · refine And.intro (fun h20 => ?_) (fun h20 => ?_)
                  · refine fun o21 τ21 g21 => ?_
                    obtain ⟨rfl, g21⟩ := g21
                    exact ⟨_, rfl, sp_225_ettttfftt (q_r a0) σ τ1 r1 τ3 r3 τ5 r5 τ7 r7 τ9 r9 τ16 r16 τ18 r18 τ21 g1 (cm0t h2) g3 (cm0t h4) g5 (cm0t h6) g7 (cm1t h8) g9 (cm1f h10) g16 (cm0f h17) g18 (cm1t h19) (cm0t h20) g21⟩
                  · refine fun o22 τ22 g22 => ?_
                    obtain ⟨rfl, g22⟩ := g22
                    exact ⟨_, rfl, sp_225_ettttfftf (q_r a0) σ τ1 r1 τ3 r3 τ5 r5 τ7 r7 τ9 r9 τ16 r16 τ18 r18 τ22 g1 (cm0t h2) g3 (cm0t h4) g5 (cm0t h6) g7 (cm1t h8) g9 (cm1f h10) g16 (cm0f h17) g18 (cm1t h19) (cm0f h20) g22⟩
                · exact ⟨_, rfl, sp_225_ettttfff (q_r a0) σ τ1 r1 τ3 r3 τ5 r5 τ7 r7 τ9 r9 τ16 r16 τ18 r18 g1 (cm0t h2) g3 (cm0t h4) g5 (cm0t h6) g7 (cm1t h8) g9 (cm1f h10) g16 (cm0f h17) g18 (cm1f h19)⟩
          · exact ⟨_, rfl, sp_225_etttf (q_r a0) σ τ1 r1 τ3 r3 τ5 r5 τ7 r7 g1 (cm0t h2) g3 (cm0t h4) g5 (cm0t h6) g7 (cm1f h8)⟩
        · exact ⟨_, rfl, sp_225_ettf (q_r a0) σ τ1 r1 τ3 r3 τ5 r5 g1 (cm0t h2) g3 (cm0t h4) g5 (cm0f h6)⟩
      · refine And.intro (fun h23 => ?_) (fun h23 => ?_)
        · refine fun o24 τ24 g24 => ?_
          obtain ⟨r24, rfl, g24⟩ := g24
          refine And.intro (fun h25 => ?_) (fun h25 => ?_)
          · refine fun o26 τ26 g26 => ?_
            obtain ⟨rfl, g26⟩ := g26
            exact ⟨_, rfl, sp_225_etftt (q_r a0) σ τ1 r1 τ3 r3 τ24 r24 τ26 g1 (cm0t h2) g3 (cm0f h4) (cm1t h23) g24 (cm1t h25) g26⟩
          · exact ⟨_, rfl, sp_225_etftf (q_r a0) σ τ1 r1 τ3 r3 τ24 r24 g1 (cm0t h2) g3 (cm0f h4) (cm1t h23) g24 (cm1f h25)⟩
        · exact ⟨_, rfl, sp_225_etff (q_r a0) σ τ1 r1 τ3 r3 g1 (cm0t h2) g3 (cm0f h4) (cm1f h23)⟩
    · refine And.intro (fun h27 => ?_) (fun h27 => ?_)
      · refine fun o28 τ28 g28 => ?_
        obtain ⟨r28, rfl, g28⟩ := g28
        refine And.intro (fun h29 => ?_) (fun h29 => ?_)
        · refine fun o30 τ30 g30 => ?_
          obtain ⟨r30, rfl, g30⟩ := g30
          exact ⟨_, rfl, sp_225_eftt (q_r a0) σ τ1 r1 τ28 r28 τ30 r30 g1 (cm0f h2) (cm1t h27) g28 (cm1t h29) g30⟩
        · exact ⟨_, rfl, sp_225_eftf (q_r a0) σ τ1 r1 τ28 r28 g1 (cm0f h2) (cm1t h27) g28 (cm1f h29)⟩
      · exact ⟨_, rfl, sp_225_eff (q_r a0) σ τ1 r1 g1 (cm0f h2) (cm1f h27)⟩
theorem sp_atom {sx : zX} (S206 : zEe sx 206 2 qP_206) (S205 : zEe sx 205 2 qP_205) (S224 : zEe sx 224 1 qP_224) (S223 : zEe sx 223 1 qP_223) (S221 : zEe sx 221 3 qP_221) : ∀ m, zMt sx m 225 1 qP_225 ∧ zMt sx m 226 1 qP_226 ∧ zMt sx m 227 1 qP_227
  | 0 => ⟨zMt0, zMt0, zMt0⟩
  | m + 1 => by
    obtain ⟨h1, h2, h3⟩ := sp_atom S206 S205 S224 S223 S221 m
    exact ⟨sp_225 (m := m) S206 S205 S224 S223 S221 h1 h3, sp_226 (m := m) S205 S221 h1, sp_227 (m := m) S205 S221 h2⟩
end
