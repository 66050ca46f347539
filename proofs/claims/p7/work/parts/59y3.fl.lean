/-! PARTIAL CORRECTNESS: whatever a run ends with. The state as functions of places (za), each step a transformer of what is owed (qts), cut points with what holds there (zfl); nothing of safety is asked: that a run ends is proved elsewhere. Printed with wip/gen/gen_fl.py -/
abbrev zLf : Type := Nat → Value
abbrev zSg : Type := (Nat → Nat → Value) × (Nat → Nat) × Nat
abbrev zKo : Type := Nat → zLf → List Value → zSg → Prop
abbrev zTr : Type := zX → Nat → Nat → Int → Nat → zLf → List Value → zSg → zKo → Prop
abbrev zPp : Type := List Value → zSg → zO → zSg → Prop
noncomputable def q_i (v : Value) : Int32 := match v with
  | .int x => x
  | _ => 0
noncomputable def q_l (v : Value) : Int64 := match v with
  | .long x => x
  | _ => 0
noncomputable def q_r (v : Value) : Nat := match v with
  | .ref i => i
  | _ => 0
noncomputable def q_st (lo : zLf) (a : Nat) (v : Value) : zLf := fun i => bif Nat.beq i a then v else lo i
noncomputable def q_up (s : Nat → Nat → Value) (c k : Nat) (v : Value) : Nat → Nat → Value := fun c' k' => if c' = c ∧ k' = k then v else s c' k'
noncomputable def q_w (σ : zSg) (c k : Nat) (v : Value) : zSg := (q_up σ.1 c k v, σ.2)
noncomputable def q_nw (σ : zSg) (f : Nat → Value) (n : Nat) : zSg := (fun c k => if c = σ.2.2 then f k else σ.1 c k, fun c => if c = σ.2.2 then n else σ.2.1 c, σ.2.2 + 1)
noncomputable def q_cp (σ : zSg) (i0 i1 sp dp n : Nat) : zSg := (fun c k => if c = i1 ∧ dp ≤ k ∧ k < dp + n then σ.1 i0 (sp + (k - dp)) else σ.1 c k, σ.2)
noncomputable def q_so (o : Option (String × Nat × String × List Int32)) : List Int32 := match o with
  | some q => q.2.2.2
  | none => []
noncomputable def q_s (i : Nat) : List Int32 := q_so z_strs[i - zB]?
/-- what a place of an object holds: 0 an int, 1 a cell, 2 a cell or nothing -/
noncomputable def q_kd (c b : Nat) : Nat := match (z_df.getD c []).getD b .null with
  | .int _ => 0
  | _ => bif Nat.beq c 2 || (Nat.beq c 1 && Nat.beq b 5) then 2 else 1
noncomputable def q_ld (k : Nat) (v : Value) : Value := match k with
  | 0 => .int (q_i v)
  | 1 => .ref (q_r v)
  | _ => v
noncomputable def q_pk (c : Int) (k : Nat) : Bool := (Nat.beq k 0 && (decide (c = 0) || decide (c = 1))) || (Nat.beq k 2 && decide (c = 2))
/-- a heap as functions -/
noncomputable def zv (h : zH) (c k : Nat) : Value := match h[c]? with
  | some e => (z_rd e k).getD .null
  | none => .null
noncomputable def zvl (h : zH) (c : Nat) : Nat := match h[c]? with
  | some (.inl (_, (n, _))) => n
  | _ => 0
noncomputable def q_n (e : zE) : Nat := match e with
  | .inl (_, (n, _)) => n
  | _ => 0
noncomputable def za (h : zH) : zSg := (zv h, zvl h, h.length)
noncomputable def zKh (h : zH) : Prop := (∀ (i c : Nat) (fs : List Value) (b : Nat) (v : Value), h[i]? = some (.inr (c, fs)) → fs[b]? = some v → q_ld (q_kd c b) v = v) ∧ ∀ (i n : Nat) (f : Nat → Option Nat), h[i]? = some (.inl (3, (n, .inr (.inr (.inr (.inr f)))))) → ∀ j, j < n → ∃ r, f j = some r
noncomputable def zLr (l : zL) (lo : zLf) : Prop := ∀ q ∈ l, lo q.1 = q.2
theorem zLr.get {l : zL} {lo : zLf} {i : Nat} {v : Value} (H : zLr l lo) (h : z_get l i = some v) : lo i = v := H _ (z_get_mem h)
theorem q_st_eq (lo : zLf) (a : Nat) (v : Value) : q_st lo a v a = v := by
  unfold q_st
  rw [Nat.beq_refl]
  rfl
theorem q_st_ne {lo : zLf} {a i : Nat} {v : Value} (h : i ≠ a) : q_st lo a v i = lo i := by
  unfold q_st
  have : Nat.beq i a = false := by
    cases hb : Nat.beq i a with
    | false => rfl
    | true => exact absurd (Nat.eq_of_beq_eq_true hb) h
  rw [this]
  rfl
theorem zLr.set1 {l : zL} {lo : zLf} {a : Nat} {v : Value} (H : zLr l lo) : zLr (z_set1 l a v) (q_st lo a v) := by
  intro q hq
  rcases List.mem_cons.mp hq with e | e
  · rw [e]; exact q_st_eq lo a v
  · obtain ⟨h1, h2⟩ := List.mem_filter.mp e
    rw [Bool.and_eq_true] at h2
    have : q.1 ≠ a := by simpa using h2.1
    rw [q_st_ne this]
    exact H q h1
theorem zLr.set2 {l : zL} {lo : zLf} {a : Nat} {v : Value} (H : zLr l lo) : zLr (z_set2 l a v) (q_st lo a v) := by
  intro q hq
  rcases List.mem_cons.mp hq with e | e
  · rw [e]; exact q_st_eq lo a v
  · obtain ⟨h1, h2⟩ := List.mem_filter.mp e
    rw [Bool.and_eq_true] at h2
    have : q.1 ≠ a := by simpa using h2.1
    rw [q_st_ne this]
    exact H q h1
theorem zLr.drop {l : zL} {lo : zLf} {x : Nat} (H : zLr l lo) : zLr (z_drop l x) lo := fun q hq => H q (List.mem_filter.mp hq).1
theorem zLr.args : ∀ (as : List Value) (n : Nat) (lo : zLf), (∀ v ∈ as, v.category = 1) → (∀ i, lo (n + i) = as.getD i .null) → zLr (lv_args n as) lo
  | [], n, lo, hc, hl => fun q hq => by cases hq
  | v :: vs, n, lo, hc, hl => by
    intro q hq
    have hv : ¬ v.category = 2 := by rw [hc v List.mem_cons_self]; decide
    unfold lv_args at hq
    rw [if_neg hv] at hq
    rcases List.mem_cons.mp hq with e | e
    · rw [e]
      exact hl 0
    · exact zLr.args vs (n + 1) lo (fun w hw => hc w (List.mem_cons_of_mem _ hw)) (fun i => by
        have := hl (i + 1)
        rw [show n + 1 + i = n + (i + 1) by omega, this]
        rfl) q e
/-! what a place holds behind a write -/
theorem zv_at {h : zH} {c k : Nat} {e : zE} (he : h[c]? = some e) : zv h c k = (z_rd e k).getD .null := by
  unfold zv
  rw [he]
theorem zv_set {h : zH} {c : Nat} {e e' : zE} {b : Nat} {v : Value} (he : h[c]? = some e) (hr : ∀ j, z_rd e' j = if j = b then some v else z_rd e j) : zv (h.set c e') = q_up (zv h) c b v := by
  have hl := (List.getElem?_eq_some_iff.mp he).1
  funext c' k'
  unfold q_up
  by_cases hc : c' = c
  · subst hc
    rw [zv_at (List.getElem?_set_self hl), hr k']
    by_cases hk : k' = b
    · rw [if_pos hk, if_pos ⟨rfl, hk⟩]
      rfl
    · rw [if_neg hk, if_neg (fun q => hk q.2), zv_at he]
  · rw [if_neg (fun q => hc q.1)]
    unfold zv
    rw [List.getElem?_set_ne (fun q => hc q.symm)]
theorem zvl_set {h : zH} {c : Nat} {e e' : zE} (he : h[c]? = some e) (hn : q_n e' = q_n e) : zvl (h.set c e') = zvl h := by
  have hl := (List.getElem?_eq_some_iff.mp he).1
  funext c'
  unfold zvl
  by_cases hc : c' = c
  · subst hc
    rw [List.getElem?_set_self hl, he]
    obtain ⟨t, n, x⟩ | ⟨c, fs⟩ := e <;> obtain ⟨t', n', x'⟩ | ⟨c', fs'⟩ := e' <;> exact hn
  · rw [List.getElem?_set_ne (fun q => hc q.symm)]
theorem za_set {h : zH} {c : Nat} {e e' : zE} {b : Nat} {v : Value} (he : h[c]? = some e) (hr : ∀ j, z_rd e' j = if j = b then some v else z_rd e j) (hn : q_n e' = q_n e) : za (h.set c e') = q_w (za h) c b v := by
  unfold za q_w
  rw [zv_set he hr, zvl_set he hn, List.length_set]
theorem za_push {h : zH} {e : zE} {f : Nat → Value} {n : Nat} (hf : ∀ k, (z_rd e k).getD .null = f k) (hn : q_n e = n) : za (h ++ [e]) = q_nw (za h) f n := by
  unfold za q_nw
  refine Prod.ext ?_ (Prod.ext ?_ ?_)
  · funext c k
    show zv (h ++ [e]) c k = if c = h.length then f k else zv h c k
    by_cases hc : c = h.length
    · subst hc
      rw [if_pos rfl, zv_at (e := e) (by simp), hf]
    · rw [if_neg hc]
      unfold zv
      by_cases hl : c < h.length
      · rw [List.getElem?_append_left hl]
      · rw [List.getElem?_eq_none (by rw [List.length_append, List.length_singleton]; omega), List.getElem?_eq_none (by omega)]
  · funext c
    show zvl (h ++ [e]) c = if c = h.length then n else zvl h c
    by_cases hc : c = h.length
    · subst hc
      rw [if_pos rfl]
      unfold zvl
      rw [show (h ++ [e])[h.length]? = some e by simp]
      obtain ⟨t, m, x⟩ | ⟨c, fs⟩ := e <;> exact hn
    · rw [if_neg hc]
      unfold zvl
      by_cases hl : c < h.length
      · rw [List.getElem?_append_left hl]
      · rw [List.getElem?_eq_none (by rw [List.length_append, List.length_singleton]; omega), List.getElem?_eq_none (by omega)]
  · show (h ++ [e]).length = h.length + 1
    rw [List.length_append, List.length_singleton]
theorem zKh.arr {h : zH} {c t n : Nat} {x y : (Nat → Int32) ⊕ (Nat → Int64) ⊕ (Nat → UInt32) ⊕ (Nat → UInt64) ⊕ (Nat → Option Nat)} (H : zKh h) (ht : t ≠ 3) : zKh (h.set c (.inl (t, (n, y)))) := by
  refine ⟨fun i c' fs b v he hv => ?_, fun i m f he j hj => ?_⟩
  · by_cases hi : i = c
    · subst hi
      by_cases hl : i < h.length
      · rw [List.getElem?_set_self hl] at he; cases he
      · rw [List.getElem?_eq_none (by rw [List.length_set]; omega)] at he; cases he
    · rw [List.getElem?_set_ne (fun q => hi q.symm)] at he
      exact H.1 i c' fs b v he hv
  · by_cases hi : i = c
    · subst hi
      by_cases hl : i < h.length
      · rw [List.getElem?_set_self hl] at he
        simp only [Option.some.injEq, Sum.inl.injEq, Prod.mk.injEq] at he
        exact absurd he.1 ht
      · rw [List.getElem?_eq_none (by rw [List.length_set]; omega)] at he; cases he
    · rw [List.getElem?_set_ne (fun q => hi q.symm)] at he
      exact H.2 i m f he j hj
theorem zKh.obj {h : zH} {a c b : Nat} {fs : List Value} {v : Value} (H : zKh h) (he : h[a]? = some (.inr (c, fs))) (hv : q_ld (q_kd c b) v = v) : zKh (h.set a (.inr (c, fs.set b v))) := by
  have hl := (List.getElem?_eq_some_iff.mp he).1
  refine ⟨fun i c' fs' b' w hi hw => ?_, fun i m f hi j hj => ?_⟩
  · by_cases hia : i = a
    · subst hia
      rw [List.getElem?_set_self hl] at hi
      cases hi
      by_cases hb : b' = b
      · subst hb
        by_cases hbl : b' < fs.length
        · rw [List.getElem?_set_self hbl] at hw
          cases hw
          exact hv
        · rw [List.getElem?_eq_none (by rw [List.length_set]; omega)] at hw; cases hw
      · rw [List.getElem?_set_ne (fun q => hb q.symm)] at hw
        exact H.1 i c fs b' w he hw
    · rw [List.getElem?_set_ne (fun q => hia q.symm)] at hi
      exact H.1 i c' fs' b' w hi hw
  · by_cases hia : i = a
    · subst hia
      rw [List.getElem?_set_self hl] at hi; cases hi
    · rw [List.getElem?_set_ne (fun q => hia q.symm)] at hi
      exact H.2 i m f hi j hj
theorem zKh.push {h : zH} {e : zE} (H : zKh h) (h1 : ∀ (c : Nat) (fs : List Value) (b : Nat) (v : Value), e = .inr (c, fs) → fs[b]? = some v → q_ld (q_kd c b) v = v) (h2 : ∀ (n : Nat) (f : Nat → Option Nat), e ≠ .inl (3, (n, .inr (.inr (.inr (.inr f)))))) : zKh (h ++ [e]) := by
  refine ⟨fun i c fs b v hi hv => ?_, fun i m f hi j hj => ?_⟩
  · by_cases hl : i < h.length
    · rw [List.getElem?_append_left hl] at hi
      exact H.1 i c fs b v hi hv
    · rw [List.getElem?_append_right (by omega)] at hi
      cases hd : i - h.length with
      | zero =>
        rw [hd] at hi
        simp only [List.getElem?_cons_zero, Option.some.injEq] at hi
        exact h1 c fs b v hi hv
      | succ n => rw [hd] at hi; simp at hi
  · by_cases hl : i < h.length
    · rw [List.getElem?_append_left hl] at hi
      exact H.2 i m f hi j hj
    · rw [List.getElem?_append_right (by omega)] at hi
      cases hd : i - h.length with
      | zero =>
        rw [hd] at hi
        simp only [List.getElem?_cons_zero, Option.some.injEq] at hi
        exact absurd hi (h2 m f)
      | succ n => rw [hd] at hi; simp at hi
/-! the steps -/
noncomputable def zSo (o : zNop) (t : zTr) : Prop := ∀ (sx : zX) (d a b : Nat) (c : Int) (k : Nat) (l : zL) (st : List Value) (h : zH) (k' : Nat) (l' : zL) (st' : List Value) (h' : zH) (x y : Nat) (lo : zLf) (K : zKo), zKh h → zLr l lo → o sx d a b c k l st h = some (k', l', st', h', x, y) → t sx a b c k lo st (za h) K → zKh h' ∧ ∃ lo', zLr l' lo' ∧ K k' lo' st' (za h')
noncomputable def qt_no : zTr := fun _ _ _ _ _ _ _ _ _ => False
theorem qs_no {o : zNop} : zSo o qt_no := fun _ _ _ _ _ _ _ _ _ _ _ _ _ _ _ _ _ _ _ _ h => h.elim
noncomputable def q_p1 (f : Value → Value) : zTr := fun _ _ _ _ k lo st σ K => match st with
  | v :: r => K (k + 1) lo (f v :: r) σ
  | _ => True
noncomputable def q_p2 (f : Value → Value → Value) : zTr := fun _ _ _ _ k lo st σ K => match st with
  | y :: x :: r => K (k + 1) lo (f x y :: r) σ
  | _ => True
noncomputable def qt_const : zTr := fun _ _ _ c k lo st σ K => K (k + 1) lo (.int (Int32.ofInt c) :: st) σ
noncomputable def qt_lconst : zTr := fun _ _ _ c k lo st σ K => K (k + 1) lo (.long (Int64.ofInt c) :: st) σ
noncomputable def qt_null : zTr := fun _ _ _ _ k lo st σ K => K (k + 1) lo (.null :: st) σ
noncomputable def qt_ldcs : zTr := fun _ a _ _ k lo st σ K => K (k + 1) lo (.ref (zB + a) :: st) σ
noncomputable def qt_goto : zTr := fun _ a _ _ _ lo st σ K => K a lo st σ
theorem qs_const : zSo zo_const qt_const := by
  intro sx d a b c k l st h k' l' st' h' x9 y9 lo K hK hL e H
  unfold zo_const at e
  obtain ⟨rfl, rfl, rfl, rfl, rfl, rfl⟩ := zn_inj e
  exact ⟨hK, lo, hL, H⟩
theorem qs_lconst : zSo zo_lconst qt_lconst := by
  intro sx d a b c k l st h k' l' st' h' x9 y9 lo K hK hL e H
  unfold zo_lconst at e
  obtain ⟨rfl, rfl, rfl, rfl, rfl, rfl⟩ := zn_inj e
  exact ⟨hK, lo, hL, H⟩
theorem qs_null : zSo zo_null qt_null := by
  intro sx d a b c k l st h k' l' st' h' x9 y9 lo K hK hL e H
  unfold zo_null at e
  obtain ⟨rfl, rfl, rfl, rfl, rfl, rfl⟩ := zn_inj e
  exact ⟨hK, lo, hL, H⟩
theorem qs_goto : zSo zo_goto qt_goto := by
  intro sx d a b c k l st h k' l' st' h' x9 y9 lo K hK hL e H
  unfold zo_goto at e
  obtain ⟨rfl, rfl, rfl, rfl, rfl, rfl⟩ := zn_inj e
  exact ⟨hK, lo, hL, H⟩
theorem qs_ldcs : zSo zo_ldcs qt_ldcs := by
  intro sx d a b c k l st h k' l' st' h' x9 y9 lo K hK hL e H
  unfold zo_ldcs at e
  repeat' split at e
  all_goals first
    | cases e; done
    | obtain ⟨rfl, rfl, rfl, rfl, rfl, rfl⟩ := zn_inj e
      exact ⟨hK, lo, hL, H⟩
noncomputable def qt_iload : zTr := fun _ a _ _ k lo st σ K => K (k + 1) lo (.int (q_i (lo a)) :: st) σ
theorem qs_iload : zSo zo_iload qt_iload := by
  intro sx d a b c k l st h k' l' st' h' x9 y9 lo K hK hL e H
  unfold zo_iload at e
  split at e
  case h_2 => cases e
  next x hx =>
  obtain ⟨rfl, rfl, rfl, rfl, rfl, rfl⟩ := zn_inj e
  refine ⟨hK, lo, hL, ?_⟩
  have H1 : K (k + 1) lo (.int (q_i (lo a)) :: st) (za h') := H
  rw [hL.get hx] at H1
  exact H1
noncomputable def qt_aload : zTr := fun _ a _ _ k lo st σ K => K (k + 1) lo (.ref (q_r (lo a)) :: st) σ
theorem qs_aload : zSo zo_aload qt_aload := by
  intro sx d a b c k l st h k' l' st' h' x9 y9 lo K hK hL e H
  unfold zo_aload at e
  split at e
  case h_2 => cases e
  next x hx =>
  obtain ⟨rfl, rfl, rfl, rfl, rfl, rfl⟩ := zn_inj e
  refine ⟨hK, lo, hL, ?_⟩
  have H1 : K (k + 1) lo (.ref (q_r (lo a)) :: st) (za h') := H
  rw [hL.get hx] at H1
  exact H1
noncomputable def qt_lload : zTr := fun _ a _ _ k lo st σ K => K (k + 1) lo (.long (q_l (lo a)) :: st) σ
theorem qs_lload : zSo zo_lload qt_lload := by
  intro sx d a b c k l st h k' l' st' h' x9 y9 lo K hK hL e H
  unfold zo_lload at e
  split at e
  case h_2 => cases e
  next x hx =>
  obtain ⟨rfl, rfl, rfl, rfl, rfl, rfl⟩ := zn_inj e
  refine ⟨hK, lo, hL, ?_⟩
  have H1 : K (k + 1) lo (.long (q_l (lo a)) :: st) (za h') := H
  rw [hL.get hx] at H1
  exact H1
noncomputable def qt_istore : zTr := fun _ a _ _ k lo st σ K => match st with
  | v :: r => K (k + 1) (q_st lo a (.int (q_i v))) r σ
  | _ => True
theorem qs_istore : zSo zo_istore qt_istore := by
  intro sx d a b c k l st h k' l' st' h' x9 y9 lo K hK hL e H
  unfold zo_istore at e
  repeat' split at e
  all_goals first
    | cases e; done
    | obtain ⟨rfl, rfl, rfl, rfl, rfl, rfl⟩ := zn_inj e
      exact ⟨hK, _, hL.set1, H⟩
noncomputable def qt_astore : zTr := fun _ a _ _ k lo st σ K => match st with
  | v :: r => K (k + 1) (q_st lo a (.ref (q_r v))) r σ
  | _ => True
theorem qs_astore : zSo zo_astore qt_astore := by
  intro sx d a b c k l st h k' l' st' h' x9 y9 lo K hK hL e H
  unfold zo_astore at e
  repeat' split at e
  all_goals first
    | cases e; done
    | obtain ⟨rfl, rfl, rfl, rfl, rfl, rfl⟩ := zn_inj e
      exact ⟨hK, _, hL.set1, H⟩
noncomputable def qt_lstore : zTr := fun _ a _ _ k lo st σ K => match st with
  | v :: r => K (k + 1) (q_st lo a (.long (q_l v))) r σ
  | _ => True
theorem qs_lstore : zSo zo_lstore qt_lstore := by
  intro sx d a b c k l st h k' l' st' h' x9 y9 lo K hK hL e H
  unfold zo_lstore at e
  repeat' split at e
  all_goals first
    | cases e; done
    | obtain ⟨rfl, rfl, rfl, rfl, rfl, rfl⟩ := zn_inj e
      exact ⟨hK, _, hL.set2, H⟩
noncomputable def qt_iinc : zTr := fun _ a _ c k lo st σ K => K (k + 1) (q_st lo a (.int (q_i (lo a) + Int32.ofInt c))) st σ
theorem qs_iinc : zSo zo_iinc qt_iinc := by
  intro sx d a b c k l st h k' l' st' h' x9 y9 lo K hK hL e H
  unfold zo_iinc at e
  split at e
  case h_2 => cases e
  next x hx =>
  obtain ⟨rfl, rfl, rfl, rfl, rfl, rfl⟩ := zn_inj e
  refine ⟨hK, _, hL.set1, ?_⟩
  have H1 : K (k + 1) (q_st lo a (.int (q_i (lo a) + Int32.ofInt c))) st' (za h') := H
  rw [hL.get hx] at H1
  exact H1
theorem qs_iadd : zSo zo_iadd (q_p2 (fun x y => .int ((fun x y : Int32 => x + y) (q_i x) (q_i y)))) := by
  intro sx d a b c k l st h k' l' st' h' x9 y9 lo K hK hL e H
  unfold zo_iadd at e
  repeat' split at e
  all_goals first
    | cases e; done
    | obtain ⟨rfl, rfl, rfl, rfl, rfl, rfl⟩ := zn_inj e
      exact ⟨hK, lo, hL, H⟩
theorem qs_isub : zSo zo_isub (q_p2 (fun x y => .int ((fun x y : Int32 => x - y) (q_i x) (q_i y)))) := by
  intro sx d a b c k l st h k' l' st' h' x9 y9 lo K hK hL e H
  unfold zo_isub at e
  repeat' split at e
  all_goals first
    | cases e; done
    | obtain ⟨rfl, rfl, rfl, rfl, rfl, rfl⟩ := zn_inj e
      exact ⟨hK, lo, hL, H⟩
theorem qs_imul : zSo zo_imul (q_p2 (fun x y => .int ((fun x y : Int32 => x * y) (q_i x) (q_i y)))) := by
  intro sx d a b c k l st h k' l' st' h' x9 y9 lo K hK hL e H
  unfold zo_imul at e
  repeat' split at e
  all_goals first
    | cases e; done
    | obtain ⟨rfl, rfl, rfl, rfl, rfl, rfl⟩ := zn_inj e
      exact ⟨hK, lo, hL, H⟩
theorem qs_idiv : zSo zo_idiv (q_p2 (fun x y => .int ((fun x y : Int32 => x / y) (q_i x) (q_i y)))) := by
  intro sx d a b c k l st h k' l' st' h' x9 y9 lo K hK hL e H
  unfold zo_idiv at e
  repeat' split at e
  all_goals first
    | cases e; done
    | obtain ⟨rfl, rfl, rfl, rfl, rfl, rfl⟩ := zn_inj e
      exact ⟨hK, lo, hL, H⟩
theorem qs_irem : zSo zo_irem (q_p2 (fun x y => .int ((fun x y : Int32 => x - x / y * y) (q_i x) (q_i y)))) := by
  intro sx d a b c k l st h k' l' st' h' x9 y9 lo K hK hL e H
  unfold zo_irem at e
  repeat' split at e
  all_goals first
    | cases e; done
    | obtain ⟨rfl, rfl, rfl, rfl, rfl, rfl⟩ := zn_inj e
      exact ⟨hK, lo, hL, H⟩
theorem qs_ishl : zSo zo_ishl (q_p2 (fun x y => .int ((fun x y : Int32 => x <<< (y &&& 31)) (q_i x) (q_i y)))) := by
  intro sx d a b c k l st h k' l' st' h' x9 y9 lo K hK hL e H
  unfold zo_ishl at e
  repeat' split at e
  all_goals first
    | cases e; done
    | obtain ⟨rfl, rfl, rfl, rfl, rfl, rfl⟩ := zn_inj e
      exact ⟨hK, lo, hL, H⟩
theorem qs_ishr : zSo zo_ishr (q_p2 (fun x y => .int ((fun x y : Int32 => x >>> (y &&& 31)) (q_i x) (q_i y)))) := by
  intro sx d a b c k l st h k' l' st' h' x9 y9 lo K hK hL e H
  unfold zo_ishr at e
  repeat' split at e
  all_goals first
    | cases e; done
    | obtain ⟨rfl, rfl, rfl, rfl, rfl, rfl⟩ := zn_inj e
      exact ⟨hK, lo, hL, H⟩
theorem qs_iushr : zSo zo_iushr (q_p2 (fun x y => .int ((fun x y : Int32 => (x.toUInt32 >>> (y.toUInt32 &&& Int32.toUInt32 31)).toInt32) (q_i x) (q_i y)))) := by
  intro sx d a b c k l st h k' l' st' h' x9 y9 lo K hK hL e H
  unfold zo_iushr at e
  repeat' split at e
  all_goals first
    | cases e; done
    | obtain ⟨rfl, rfl, rfl, rfl, rfl, rfl⟩ := zn_inj e
      exact ⟨hK, lo, hL, H⟩
theorem qs_iand : zSo zo_iand (q_p2 (fun x y => .int ((fun x y : Int32 => x &&& y) (q_i x) (q_i y)))) := by
  intro sx d a b c k l st h k' l' st' h' x9 y9 lo K hK hL e H
  unfold zo_iand at e
  repeat' split at e
  all_goals first
    | cases e; done
    | obtain ⟨rfl, rfl, rfl, rfl, rfl, rfl⟩ := zn_inj e
      exact ⟨hK, lo, hL, H⟩
theorem qs_ior : zSo zo_ior (q_p2 (fun x y => .int ((fun x y : Int32 => x ||| y) (q_i x) (q_i y)))) := by
  intro sx d a b c k l st h k' l' st' h' x9 y9 lo K hK hL e H
  unfold zo_ior at e
  repeat' split at e
  all_goals first
    | cases e; done
    | obtain ⟨rfl, rfl, rfl, rfl, rfl, rfl⟩ := zn_inj e
      exact ⟨hK, lo, hL, H⟩
theorem qs_ixor : zSo zo_ixor (q_p2 (fun x y => .int ((fun x y : Int32 => x ^^^ y) (q_i x) (q_i y)))) := by
  intro sx d a b c k l st h k' l' st' h' x9 y9 lo K hK hL e H
  unfold zo_ixor at e
  repeat' split at e
  all_goals first
    | cases e; done
    | obtain ⟨rfl, rfl, rfl, rfl, rfl, rfl⟩ := zn_inj e
      exact ⟨hK, lo, hL, H⟩
theorem qs_ladd : zSo zo_ladd (q_p2 (fun x y => .long ((fun x y : Int64 => x + y) (q_l x) (q_l y)))) := by
  intro sx d a b c k l st h k' l' st' h' x9 y9 lo K hK hL e H
  unfold zo_ladd at e
  repeat' split at e
  all_goals first
    | cases e; done
    | obtain ⟨rfl, rfl, rfl, rfl, rfl, rfl⟩ := zn_inj e
      exact ⟨hK, lo, hL, H⟩
theorem qs_lmul : zSo zo_lmul (q_p2 (fun x y => .long ((fun x y : Int64 => x * y) (q_l x) (q_l y)))) := by
  intro sx d a b c k l st h k' l' st' h' x9 y9 lo K hK hL e H
  unfold zo_lmul at e
  repeat' split at e
  all_goals first
    | cases e; done
    | obtain ⟨rfl, rfl, rfl, rfl, rfl, rfl⟩ := zn_inj e
      exact ⟨hK, lo, hL, H⟩
theorem qs_ldiv : zSo zo_ldiv (q_p2 (fun x y => .long ((fun x y : Int64 => x / y) (q_l x) (q_l y)))) := by
  intro sx d a b c k l st h k' l' st' h' x9 y9 lo K hK hL e H
  unfold zo_ldiv at e
  repeat' split at e
  all_goals first
    | cases e; done
    | obtain ⟨rfl, rfl, rfl, rfl, rfl, rfl⟩ := zn_inj e
      exact ⟨hK, lo, hL, H⟩
theorem qs_lcmp : zSo zo_lcmp (q_p2 (fun x y => .int (lg_cmp (q_l x) (q_l y)))) := by
  intro sx d a b c k l st h k' l' st' h' x9 y9 lo K hK hL e H
  unfold zo_lcmp at e
  repeat' split at e
  all_goals first
    | cases e; done
    | obtain ⟨rfl, rfl, rfl, rfl, rfl, rfl⟩ := zn_inj e
      exact ⟨hK, lo, hL, H⟩
theorem qs_i2l : zSo zo_i2l (q_p1 (fun x => .long (q_i x).toInt64)) := by
  intro sx d a b c k l st h k' l' st' h' x9 y9 lo K hK hL e H
  unfold zo_i2l at e
  repeat' split at e
  all_goals first
    | cases e; done
    | obtain ⟨rfl, rfl, rfl, rfl, rfl, rfl⟩ := zn_inj e
      exact ⟨hK, lo, hL, H⟩
theorem qs_l2i : zSo zo_l2i (q_p1 (fun x => .int (q_l x).toInt32)) := by
  intro sx d a b c k l st h k' l' st' h' x9 y9 lo K hK hL e H
  unfold zo_l2i at e
  repeat' split at e
  all_goals first
    | cases e; done
    | obtain ⟨rfl, rfl, rfl, rfl, rfl, rfl⟩ := zn_inj e
      exact ⟨hK, lo, hL, H⟩
theorem qs_i2b : zSo zo_i2b (q_p1 (fun x => .int (q_i x).toInt8.toInt32)) := by
  intro sx d a b c k l st h k' l' st' h' x9 y9 lo K hK hL e H
  unfold zo_i2b at e
  repeat' split at e
  all_goals first
    | cases e; done
    | obtain ⟨rfl, rfl, rfl, rfl, rfl, rfl⟩ := zn_inj e
      exact ⟨hK, lo, hL, H⟩
noncomputable def qt_dup : zTr := fun _ _ _ _ k lo st σ K => match st with
  | v :: r => K (k + 1) lo (v :: v :: r) σ
  | _ => True
noncomputable def qt_dup2 : zTr := fun _ _ _ _ k lo st σ K => match st with
  | v :: w :: r => K (k + 1) lo (v :: w :: v :: w :: r) σ
  | _ => True
noncomputable def qt_pop : zTr := fun _ _ _ _ k lo st σ K => match st with
  | _ :: r => K (k + 1) lo r σ
  | _ => True
theorem qs_dup : zSo zo_dup qt_dup := by
  intro sx d a b c k l st h k' l' st' h' x9 y9 lo K hK hL e H
  unfold zo_dup at e
  repeat' split at e
  all_goals first
    | cases e; done
    | obtain ⟨rfl, rfl, rfl, rfl, rfl, rfl⟩ := zn_inj e
      exact ⟨hK, lo, hL, H⟩
theorem qs_dup2 : zSo zo_dup2 qt_dup2 := by
  intro sx d a b c k l st h k' l' st' h' x9 y9 lo K hK hL e H
  unfold zo_dup2 at e
  repeat' split at e
  all_goals first
    | cases e; done
    | obtain ⟨rfl, rfl, rfl, rfl, rfl, rfl⟩ := zn_inj e
      exact ⟨hK, lo, hL, H⟩
theorem qs_pop : zSo zo_pop qt_pop := by
  intro sx d a b c k l st h k' l' st' h' x9 y9 lo K hK hL e H
  unfold zo_pop at e
  repeat' split at e
  all_goals first
    | cases e; done
    | obtain ⟨rfl, rfl, rfl, rfl, rfl, rfl⟩ := zn_inj e
      exact ⟨hK, lo, hL, H⟩
noncomputable def qt_if : zTr := fun _ a b _ k lo st σ K => match st with
  | v :: r => (z_cmp b (q_i v) 0 = true → K a lo r σ) ∧ (z_cmp b (q_i v) 0 = false → K (k + 1) lo r σ)
  | _ => True
noncomputable def qt_icmp : zTr := fun _ a b _ k lo st σ K => match st with
  | y :: x :: r => (z_cmp b (q_i x) (q_i y) = true → K a lo r σ) ∧ (z_cmp b (q_i x) (q_i y) = false → K (k + 1) lo r σ)
  | _ => True
noncomputable def qt_ifnn : zTr := fun _ a _ _ k lo st σ K => match st with
  | v :: r => (v ≠ .null → K a lo r σ) ∧ (v = .null → K (k + 1) lo r σ)
  | _ => True
theorem qs_if : zSo zo_if qt_if := by
  intro sx d a b c k l st h k' l' st' h' x9 y9 lo K hK hL e H
  unfold zo_if at e
  split at e
  case h_2 => cases e
  next x r =>
  obtain ⟨rfl, rfl, rfl, rfl, rfl, rfl⟩ := zn_inj e
  refine ⟨hK, lo, hL, ?_⟩
  have H1 : (z_cmp b x 0 = true → K a lo st' (za h')) ∧ (z_cmp b x 0 = false → K (k + 1) lo st' (za h')) := H
  cases hc : z_cmp b x 0 with
  | true => exact H1.1 hc
  | false => exact H1.2 hc
theorem qs_icmp : zSo zo_icmp qt_icmp := by
  intro sx d a b c k l st h k' l' st' h' x9 y9 lo K hK hL e H
  unfold zo_icmp at e
  split at e
  case h_2 => cases e
  next y x r =>
  obtain ⟨rfl, rfl, rfl, rfl, rfl, rfl⟩ := zn_inj e
  refine ⟨hK, lo, hL, ?_⟩
  have H1 : (z_cmp b x y = true → K a lo st' (za h')) ∧ (z_cmp b x y = false → K (k + 1) lo st' (za h')) := H
  cases hc : z_cmp b x y with
  | true => exact H1.1 hc
  | false => exact H1.2 hc
theorem qs_ifnn : zSo zo_ifnn qt_ifnn := by
  intro sx d a b c k l st h k' l' st' h' x9 y9 lo K hK hL e H
  unfold zo_ifnn at e
  split at e
  · obtain ⟨rfl, rfl, rfl, rfl, rfl, rfl⟩ := zn_inj e
    exact ⟨hK, lo, hL, H.1 (fun q => by cases q)⟩
  · obtain ⟨rfl, rfl, rfl, rfl, rfl, rfl⟩ := zn_inj e
    exact ⟨hK, lo, hL, H.2 rfl⟩
  · cases e
noncomputable def q_sw (K : Nat → Prop) (d : Nat) (x : Int) : List (Int × Nat) → Prop
  | [] => K d
  | (v, t) :: r => (x = v → K t) ∧ (x ≠ v → q_sw K d x r)
noncomputable def q_sw2 (K : Nat → Prop) (d : Nat) (x : Int) : Int → List Nat → Prop
  | _, [] => K d
  | v, t :: r => (x = v → K t) ∧ (x ≠ v → q_sw2 K d x (v + 1) r)
theorem q_sw_ok {K : Nat → Prop} {d : Nat} {x : Int} : ∀ l : List (Int × Nat), q_sw K d x l → K (z_lkr l d x)
  | [], H => H
  | (v, t) :: r, H => by
    unfold z_lkr
    by_cases hv : v = x
    · rw [if_pos hv]; exact H.1 hv.symm
    · rw [if_neg hv]; exact q_sw_ok r (H.2 (fun q => hv q.symm))
theorem q_sw2_ok {K : Nat → Prop} {d : Nat} {x : Int} : ∀ (l : List Nat) (v : Int), q_sw2 K d x v l → K (if x < v then d else (l[(x - v).toNat]?).getD d)
  | [], v, H => by
    have : (if x < v then d else (([] : List Nat)[(x - v).toNat]?).getD d) = d := by split <;> simp
    rw [this]
    exact H
  | t :: r, v, H => by
    by_cases hv : x = v
    · rw [if_neg (by omega), show (x - v).toNat = 0 by omega]
      exact H.1 hv
    · have h9 := q_sw2_ok r (v + 1) (H.2 hv)
      by_cases hx : x < v
      · rw [if_pos hx]
        rw [if_pos (by omega)] at h9
        exact h9
      · rw [if_neg hx, show (x - v).toNat = (x - (v + 1)).toNat + 1 by omega, List.getElem?_cons_succ]
        rw [if_neg (by omega)] at h9
        exact h9
noncomputable def qt_tsw : zTr := fun _ a _ _ _ lo st σ K => match st with
  | v :: r => (match z_sw[a]? with
    | some t => q_sw2 (fun k' => K k' lo r σ) t.2.2 (q_i v).toInt t.1 t.2.1
    | none => True)
  | _ => True
noncomputable def qt_lsw2 : zTr := fun _ a _ _ _ lo st σ K => match st with
  | v :: r => (match z_lk[a]? with
    | some t => q_sw (fun k' => K k' lo r σ) t.2 (q_i v).toInt t.1
    | none => True)
  | _ => True
theorem qs_tsw : zSo zo_tsw qt_tsw := by
  intro sx d a b c k l st h k' l' st' h' x9 y9 lo K hK hL e H
  unfold zo_tsw at e
  split at e
  case h_2 => cases e
  next x r =>
  unfold qt_tsw at H
  dsimp only at H
  cases ht : z_sw[a]? with
  | none => rw [ht] at e; cases e
  | some t =>
  rw [ht] at e H
  dsimp only at e H
  obtain ⟨rfl, rfl, rfl, rfl, rfl, rfl⟩ := zn_inj e
  exact ⟨hK, lo, hL, q_sw2_ok _ _ H⟩
theorem qs_lsw2 : zSo zo_lsw2 qt_lsw2 := by
  intro sx d a b c k l st h k' l' st' h' x9 y9 lo K hK hL e H
  unfold zo_lsw2 at e
  split at e
  case h_2 => cases e
  next x r =>
  unfold qt_lsw2 at H
  dsimp only at H
  cases ht : z_lk[a]? with
  | none => rw [ht] at e; cases e
  | some t =>
  rw [ht] at e H
  dsimp only at e H
  obtain ⟨rfl, rfl, rfl, rfl, rfl, rfl⟩ := zn_inj e
  exact ⟨hK, lo, hL, q_sw_ok _ H⟩
noncomputable def qt_get : zTr := fun _ a b _ k lo st σ K => match st with
  | v :: r => K (k + 1) lo (q_ld (q_kd a b) (σ.1 (q_r v) b) :: r) σ
  | _ => True
noncomputable def qt_put : zTr := fun _ a b c k lo st σ K => match st with
  | v :: w :: r => bif q_pk c (q_kd a b) then K (k + 1) lo r (q_w σ (q_r w) b v) else False
  | _ => True
theorem qs_get : zSo zo_get qt_get := by
  intro sx d a b c k l st h k' l' st' h' x9 y9 lo K hK hL e H
  unfold zo_get at e
  split at e
  case h_2 => cases e
  next i r =>
  split at e
  case h_2 => cases e
  next c' fs he =>
  by_cases hc : c' = a
  case neg => rw [if_neg hc] at e; cases e
  rw [if_pos hc] at e
  subst hc
  split at e
  case h_2 => cases e
  next v hv =>
  obtain ⟨rfl, rfl, rfl, rfl, rfl, rfl⟩ := zn_inj e
  refine ⟨hK, lo, hL, ?_⟩
  have H1 : K (k + 1) lo (q_ld (q_kd c' b) (zv h' i b) :: r) (za h') := H
  rw [zv_at he, show z_rd (.inr (c', fs)) b = fs[b]? from rfl, hv, Option.getD_some, hK.1 i c' fs b v he hv] at H1
  exact H1
theorem q_pk_ok {c : Int} {n : Nat} {v : Value} (h1 : q_pk c n = true) (h2 : z_fit c v = true) : q_ld n v = v := by
  unfold q_pk at h1
  rw [Bool.or_eq_true, Bool.and_eq_true, Bool.and_eq_true, Bool.or_eq_true, decide_eq_true_eq, decide_eq_true_eq, decide_eq_true_eq] at h1
  rcases h1 with ⟨h1, h3⟩ | ⟨h1, h3⟩
  · rw [Nat.eq_of_beq_eq_true h1]
    cases v with
    | int x => rfl
    | ref i => simp only [z_fit, decide_eq_true_eq] at h2; omega
    | null => simp only [z_fit, decide_eq_true_eq] at h2; omega
    | _ => simp [z_fit] at h2
  · rw [Nat.eq_of_beq_eq_true h1]
    rfl
theorem qs_put : zSo zo_put qt_put := by
  intro sx d a b c k l st h k' l' st' h' x9 y9 lo K hK hL e H
  unfold zo_put at e
  split at e
  case h_2 => cases e
  next v i r =>
  split at e
  case h_2 => cases e
  next c' fs he =>
  by_cases hc : c' = a ∧ b < fs.length ∧ z_fit c v = true
  case neg => rw [if_neg hc] at e; cases e
  rw [if_pos hc] at e
  obtain ⟨hc, hb, hf⟩ := hc
  subst hc
  obtain ⟨rfl, rfl, rfl, rfl, rfl, rfl⟩ := zn_inj e
  have H1 : bif q_pk c (q_kd c' b) then K (k + 1) lo st' (q_w (za h) i b v) else False := H
  cases hp : q_pk c (q_kd c' b) with
  | false => rw [hp] at H1; exact H1.elim
  | true =>
  rw [hp] at H1
  refine ⟨hK.obj he (q_pk_ok hp hf), lo, hL, ?_⟩
  rw [za_set he (z_rd_obj hb) rfl]
  exact H1
theorem z_inp {j : Int32} {n : Nat} (h : z_in j n = true) : j.toNatClampNeg < n := by
  unfold z_in at h
  rw [Bool.not_eq_true', Bool.or_eq_false_iff, decide_eq_false_iff_not, decide_eq_false_iff_not] at h
  omega
theorem zvl_at {h : zH} {c t n : Nat} {x : (Nat → Int32) ⊕ (Nat → Int64) ⊕ (Nat → UInt32) ⊕ (Nat → UInt64) ⊕ (Nat → Option Nat)} (he : h[c]? = some (.inl (t, (n, x)))) : zvl h c = n := by
  unfold zvl
  rw [he]
noncomputable def qt_iald : zTr := fun _ _ _ _ k lo st σ K => match st with
  | j :: w :: r => z_in (q_i j) (σ.2.1 (q_r w)) = true → K (k + 1) lo (.int (q_i (σ.1 (q_r w) (q_i j).toNatClampNeg)) :: r) σ
  | _ => True
noncomputable def qt_lald : zTr := fun _ _ _ _ k lo st σ K => match st with
  | j :: w :: r => z_in (q_i j) (σ.2.1 (q_r w)) = true → K (k + 1) lo (.long (q_l (σ.1 (q_r w) (q_i j).toNatClampNeg)) :: r) σ
  | _ => True
noncomputable def qt_aald : zTr := fun _ _ _ _ k lo st σ K => match st with
  | j :: w :: r => z_in (q_i j) (σ.2.1 (q_r w)) = true → K (k + 1) lo (.ref (q_r (σ.1 (q_r w) (q_i j).toNatClampNeg)) :: r) σ
  | _ => True
noncomputable def qt_iast : zTr := fun _ _ _ _ k lo st σ K => match st with
  | v :: j :: w :: r => z_in (q_i j) (σ.2.1 (q_r w)) = true → K (k + 1) lo r (q_w σ (q_r w) (q_i j).toNatClampNeg (.int (q_i v)))
  | _ => True
noncomputable def qt_bast : zTr := fun _ _ _ _ k lo st σ K => match st with
  | v :: j :: w :: r => z_in (q_i j) (σ.2.1 (q_r w)) = true → K (k + 1) lo r (q_w σ (q_r w) (q_i j).toNatClampNeg (.int (vp_nar .byte (q_i v))))
  | _ => True
noncomputable def qt_last : zTr := fun _ _ _ _ k lo st σ K => match st with
  | v :: j :: w :: r => z_in (q_i j) (σ.2.1 (q_r w)) = true → K (k + 1) lo r (q_w σ (q_r w) (q_i j).toNatClampNeg (.long (q_l v)))
  | _ => True
noncomputable def qt_alen : zTr := fun _ _ _ _ k lo st σ K => match st with
  | w :: r => K (k + 1) lo (.int (Int32.ofNat (σ.2.1 (q_r w))) :: r) σ
  | _ => True
theorem qs_iald : zSo zo_iald qt_iald := by
  intro sx d a b c k l st h k' l' st' h' x9 y9 lo K hK hL e H
  unfold zo_iald at e
  split at e
  case h_2 => cases e
  next j i r =>
  split at e
  case h_2 => cases e
  next n f he =>
  by_cases hz : z_in j n = true
  case neg => rw [if_neg hz] at e; cases e
  rw [if_pos hz] at e
  obtain ⟨rfl, rfl, rfl, rfl, rfl, rfl⟩ := zn_inj e
  refine ⟨hK, lo, hL, ?_⟩
  have H1 : z_in j (zvl h' i) = true → K (k + 1) lo (.int (q_i (zv h' i j.toNatClampNeg)) :: r) (za h') := H
  rw [zvl_at he, zv_at he, z_rd0, if_pos (z_inp hz)] at H1
  exact H1 hz
theorem qs_bald : zSo zo_bald qt_iald := by
  intro sx d a b c k l st h k' l' st' h' x9 y9 lo K hK hL e H
  unfold zo_bald at e
  split at e
  case h_2 => cases e
  next j i r =>
  split at e
  case h_2 => cases e
  next n f he =>
  by_cases hz : z_in j n = true
  case neg => rw [if_neg hz] at e; cases e
  rw [if_pos hz] at e
  obtain ⟨rfl, rfl, rfl, rfl, rfl, rfl⟩ := zn_inj e
  refine ⟨hK, lo, hL, ?_⟩
  have H1 : z_in j (zvl h' i) = true → K (k + 1) lo (.int (q_i (zv h' i j.toNatClampNeg)) :: r) (za h') := H
  rw [zvl_at he, zv_at he, z_rd1, if_pos (z_inp hz)] at H1
  exact H1 hz
theorem qs_lald : zSo zo_lald qt_lald := by
  intro sx d a b c k l st h k' l' st' h' x9 y9 lo K hK hL e H
  unfold zo_lald at e
  split at e
  case h_2 => cases e
  next j i r =>
  split at e
  case h_2 => cases e
  next n f he =>
  by_cases hz : z_in j n = true
  case neg => rw [if_neg hz] at e; cases e
  rw [if_pos hz] at e
  obtain ⟨rfl, rfl, rfl, rfl, rfl, rfl⟩ := zn_inj e
  refine ⟨hK, lo, hL, ?_⟩
  have H1 : z_in j (zvl h' i) = true → K (k + 1) lo (.long (q_l (zv h' i j.toNatClampNeg)) :: r) (za h') := H
  rw [zvl_at he, zv_at he, z_rd2, if_pos (z_inp hz)] at H1
  exact H1 hz
theorem qs_aald : zSo zo_aald qt_aald := by
  intro sx d a b c k l st h k' l' st' h' x9 y9 lo K hK hL e H
  unfold zo_aald at e
  split at e
  case h_2 => cases e
  next j i r =>
  split at e
  case h_2 => cases e
  next n f he =>
  by_cases hz : z_in j n = true
  case neg => rw [if_neg hz] at e; cases e
  rw [if_pos hz] at e
  obtain ⟨rfl, rfl, rfl, rfl, rfl, rfl⟩ := zn_inj e
  refine ⟨hK, lo, hL, ?_⟩
  have H1 : z_in j (zvl h' i) = true → K (k + 1) lo (.ref (q_r (zv h' i j.toNatClampNeg)) :: r) (za h') := H
  obtain ⟨r9, hr9⟩ := hK.2 i n f he _ (z_inp hz)
  rw [zvl_at he, zv_at he, z_rd3, if_pos (z_inp hz), hr9] at H1
  rw [hr9]
  exact H1 hz
theorem qs_iast : zSo zo_iast qt_iast := by
  intro sx d a b c k l st h k' l' st' h' x9 y9 lo K hK hL e H
  unfold zo_iast at e
  split at e
  case h_2 => cases e
  next v j i r =>
  split at e
  case h_2 => cases e
  next n f he =>
  by_cases hz : z_in j n = true
  case neg => rw [if_neg hz] at e; cases e
  rw [if_pos hz] at e
  obtain ⟨rfl, rfl, rfl, rfl, rfl, rfl⟩ := zn_inj e
  refine ⟨hK.arr (x := .inl f) (by decide), lo, hL, ?_⟩
  have H1 : z_in j (zvl h i) = true → K (k + 1) lo st' (q_w (za h) i j.toNatClampNeg (.int (v))) := H
  rw [zvl_at he] at H1
  rw [za_set he (z_rd_int (z_inp hz)) rfl]
  exact H1 hz
theorem qs_bast : zSo zo_bast qt_bast := by
  intro sx d a b c k l st h k' l' st' h' x9 y9 lo K hK hL e H
  unfold zo_bast at e
  split at e
  case h_2 => cases e
  next v j i r =>
  split at e
  case h_2 => cases e
  next n f he =>
  by_cases hz : z_in j n = true
  case neg => rw [if_neg hz] at e; cases e
  rw [if_pos hz] at e
  obtain ⟨rfl, rfl, rfl, rfl, rfl, rfl⟩ := zn_inj e
  refine ⟨hK.arr (x := .inl f) (by decide), lo, hL, ?_⟩
  have H1 : z_in j (zvl h i) = true → K (k + 1) lo st' (q_w (za h) i j.toNatClampNeg (.int (vp_nar .byte v))) := H
  rw [zvl_at he] at H1
  rw [za_set he (z_rd_byte (z_inp hz)) rfl]
  exact H1 hz
theorem qs_last : zSo zo_last qt_last := by
  intro sx d a b c k l st h k' l' st' h' x9 y9 lo K hK hL e H
  unfold zo_last at e
  split at e
  case h_2 => cases e
  next v j i r =>
  split at e
  case h_2 => cases e
  next n f he =>
  by_cases hz : z_in j n = true
  case neg => rw [if_neg hz] at e; cases e
  rw [if_pos hz] at e
  obtain ⟨rfl, rfl, rfl, rfl, rfl, rfl⟩ := zn_inj e
  refine ⟨hK.arr (x := .inr (.inl f)) (by decide), lo, hL, ?_⟩
  have H1 : z_in j (zvl h i) = true → K (k + 1) lo st' (q_w (za h) i j.toNatClampNeg (.long v)) := H
  rw [zvl_at he] at H1
  rw [za_set he (z_rd_long (z_inp hz)) rfl]
  exact H1 hz
theorem qs_alen : zSo zo_alen qt_alen := by
  intro sx d a b c k l st h k' l' st' h' x9 y9 lo K hK hL e H
  unfold zo_alen at e
  split at e
  case h_2 => cases e
  next i r =>
  split at e
  case h_2 => cases e
  next t n x he =>
  by_cases hz : t < 4
  case neg => rw [if_neg hz] at e; cases e
  rw [if_pos hz] at e
  obtain ⟨rfl, rfl, rfl, rfl, rfl, rfl⟩ := zn_inj e
  refine ⟨hK, lo, hL, ?_⟩
  have H1 : K (k + 1) lo (.int (Int32.ofNat (zvl h' i)) :: r) (za h') := H
  rw [zvl_at he] at H1
  exact H1
theorem q_s_at {i : Nat} {q : String × Nat × String × List Int32} (h : z_strs[i - zB]? = some q) : q_s i = q.2.2.2 := congrArg q_so h
noncomputable def qt_newa : zTr := fun _ a _ _ k lo st σ K => match st with
  | n :: r => ¬ q_i n < 0 → K (k + 1) lo (.ref σ.2.2 :: r) (q_nw σ (fun j => (z_rd (z_new a (q_i n).toNatClampNeg) j).getD .null) (q_i n).toNatClampNeg)
  | _ => True
noncomputable def qt_new : zTr := fun _ a _ _ k lo st σ K => bif Nat.beq a 2 then K (k + 1) lo (.ref σ.2.2 :: st) (q_nw σ (fun j => ((z_df.getD a [])[j]?).getD .null) 0) else False
noncomputable def qt_clone : zTr := fun _ _ _ _ k lo st σ K => match st with
  | w :: r => K (k + 1) lo (.ref σ.2.2 :: r) (q_nw σ (σ.1 (q_r w)) (σ.2.1 (q_r w)))
  | _ => True
noncomputable def qt_cast : zTr := fun _ _ _ _ k lo st σ K => match st with
  | w :: r => K (k + 1) lo (.ref (q_r w) :: r) σ
  | _ => True
noncomputable def qt_acopy : zTr := fun _ _ _ _ k lo st σ K => match st with
  | n :: dp :: w1 :: sp :: w0 :: r => K (k + 1) lo r (q_cp σ (q_r w0) (q_r w1) (q_i sp).toNatClampNeg (q_i dp).toNatClampNeg (q_i n).toNatClampNeg)
  | _ => True
noncomputable def qt_slength : zTr := fun _ _ _ _ k lo st σ K => match st with
  | w :: r => K (k + 1) lo (.int (Int32.ofNat (q_s (q_r w)).length) :: r) σ
  | _ => True
noncomputable def qt_scharAt : zTr := fun _ _ _ _ k lo st σ K => match st with
  | j :: w :: r => z_in (q_i j) (q_s (q_r w)).length = true → K (k + 1) lo (.int (((q_s (q_r w)).getD (q_i j).toNatClampNeg 0) &&& 255) :: r) σ
  | _ => True
noncomputable def qt_oinit : zTr := qt_pop
noncomputable def qt_min : zTr := q_p2 (fun x y => .int (if q_i y < q_i x then q_i y else q_i x))
noncomputable def qt_max : zTr := q_p2 (fun x y => .int (if q_i x < q_i y then q_i y else q_i x))
noncomputable def qt_sald : zTr := fun sx _ _ _ k lo st σ K => match st with
  | j :: _ :: r => z_in (q_i j) sx.1 = true → K (k + 1) lo (.int (sx.2 (q_i j).toNatClampNeg) :: r) σ
  | _ => True
noncomputable def qt_slen : zTr := fun sx _ _ _ k lo st σ K => match st with
  | _ :: r => K (k + 1) lo (.int (Int32.ofNat sx.1) :: r) σ
  | _ => True
theorem qs_oinit : zSo zo_oinit qt_oinit := by
  intro sx d a b c k l st h k' l' st' h' x9 y9 lo K hK hL e H
  unfold zo_oinit at e
  repeat' split at e
  all_goals first
    | cases e; done
    | obtain ⟨rfl, rfl, rfl, rfl, rfl, rfl⟩ := zn_inj e
      exact ⟨hK, lo, hL, H⟩
theorem qs_slen : zSo zo_slen qt_slen := by
  intro sx d a b c k l st h k' l' st' h' x9 y9 lo K hK hL e H
  unfold zo_slen at e
  repeat' split at e
  all_goals first
    | cases e; done
    | obtain ⟨rfl, rfl, rfl, rfl, rfl, rfl⟩ := zn_inj e
      exact ⟨hK, lo, hL, H⟩
theorem qs_min : zSo zo_min qt_min := by
  intro sx d a b c k l st h k' l' st' h' x9 y9 lo K hK hL e H
  unfold zo_min at e
  split at e
  case h_2 => cases e
  next y x r =>
  by_cases hz : 6 ≤ d ∧ z_cat r ≤ 8
  case neg => rw [if_neg hz] at e; cases e
  rw [if_pos hz] at e
  obtain ⟨rfl, rfl, rfl, rfl, rfl, rfl⟩ := zn_inj e
  exact ⟨hK, lo, hL, H⟩
theorem qs_max : zSo zo_max qt_max := by
  intro sx d a b c k l st h k' l' st' h' x9 y9 lo K hK hL e H
  unfold zo_max at e
  split at e
  case h_2 => cases e
  next y x r =>
  by_cases hz : 6 ≤ d ∧ z_cat r ≤ 8
  case neg => rw [if_neg hz] at e; cases e
  rw [if_pos hz] at e
  obtain ⟨rfl, rfl, rfl, rfl, rfl, rfl⟩ := zn_inj e
  exact ⟨hK, lo, hL, H⟩
theorem qs_sald : zSo zo_sald qt_sald := by
  intro sx d a b c k l st h k' l' st' h' x9 y9 lo K hK hL e H
  unfold zo_sald at e
  split at e
  case h_2 => cases e
  next j i r =>
  by_cases hz : i = zS ∧ z_in j sx.1 = true
  case neg => rw [if_neg hz] at e; cases e
  rw [if_pos hz] at e
  obtain ⟨rfl, rfl, rfl, rfl, rfl, rfl⟩ := zn_inj e
  exact ⟨hK, lo, hL, H hz.2⟩
theorem qs_cast : zSo zo_cast qt_cast := by
  intro sx d a b c k l st h k' l' st' h' x9 y9 lo K hK hL e H
  unfold zo_cast at e
  repeat' split at e
  all_goals first
    | cases e; done
    | obtain ⟨rfl, rfl, rfl, rfl, rfl, rfl⟩ := zn_inj e
      exact ⟨hK, lo, hL, H⟩
theorem qs_newa : zSo zo_newa qt_newa := by
  intro sx d a b c k l st h k' l' st' h' x9 y9 lo K hK hL e H
  unfold zo_newa at e
  split at e
  case h_2 => cases e
  next n r =>
  by_cases hz : ¬ n < 0 ∧ n.toNatClampNeg ≤ 65536 ∧ h.length < zB ∧ a < 3
  case neg => rw [if_neg hz] at e; cases e
  rw [if_pos hz] at e
  simp only [Option.some.injEq, Prod.mk.injEq] at e
  obtain ⟨rfl, rfl, rfl, rfl, -, -⟩ := e
  have hne : ∀ (m : Nat) (f : Nat → Option Nat), z_new a n.toNatClampNeg ≠ .inl (3, (m, .inr (.inr (.inr (.inr f))))) := by
    intro m f q
    unfold z_new at q
    split at q <;> simp at q
  have hno : ∀ (c : Nat) (fs : List Value) (b : Nat) (v : Value), z_new a n.toNatClampNeg = .inr (c, fs) → fs[b]? = some v → q_ld (q_kd c b) v = v := by
    intro c fs b v q
    unfold z_new at q
    split at q <;> simp at q
  refine ⟨hK.push hno hne, lo, hL, ?_⟩
  rw [za_push (f := fun j => (z_rd (z_new a n.toNatClampNeg) j).getD .null) (n := n.toNatClampNeg) (fun j => rfl) (by unfold z_new; split <;> rfl)]
  exact H hz.1
theorem qs_new : zSo zo_new qt_new := by
  intro sx d a b c k l st h k' l' st' h' x9 y9 lo K hK hL e H
  unfold zo_new at e
  by_cases hz : h.length < zB
  case neg => rw [if_neg hz] at e; cases e
  rw [if_pos hz] at e
  split at e
  case h_2 => cases e
  next q hq =>
  simp only [Option.some.injEq, Prod.mk.injEq] at e
  obtain ⟨rfl, rfl, rfl, rfl, -, -⟩ := e
  unfold qt_new at H
  cases ha : Nat.beq a 2 with
  | false => rw [ha] at H; exact H.elim
  | true =>
  rw [ha] at H
  have ha2 := Nat.eq_of_beq_eq_true ha
  subst ha2
  refine ⟨hK.push (fun c fs b v q hv => ?_) (fun m f q => by cases q), lo, hL, ?_⟩
  · cases q
    match b, hv with
    | 0, hv => cases hv; rfl
    | 1, hv => cases hv; rfl
    | 2, hv => cases hv; rfl
    | 3, hv => cases hv; rfl
    | 4, hv => cases hv; rfl
    | 5, hv => cases hv; rfl
    | b + 6, hv => simp [z_df] at hv
  · rw [za_push (f := fun j => ((z_df.getD 2 [])[j]?).getD .null) (n := 0) (fun j => rfl) rfl]
    exact H
theorem qs_clone : zSo zo_clone qt_clone := by
  intro sx d a b c k l st h k' l' st' h' x9 y9 lo K hK hL e H
  unfold zo_clone at e
  split at e
  case h_2 => cases e
  next i r =>
  split at e
  case h_2 => cases e
  next n f he =>
  by_cases hz : 6 ≤ d ∧ z_cat r ≤ 8 ∧ h.length < zB
  case neg => rw [if_neg hz] at e; cases e
  rw [if_pos hz] at e
  simp only [Option.some.injEq, Prod.mk.injEq] at e
  obtain ⟨rfl, rfl, rfl, rfl, -, -⟩ := e
  refine ⟨hK.push (fun c fs b v q => by cases q) (fun m f q => by cases q), lo, hL, ?_⟩
  rw [za_push (f := zv h i) (n := zvl h i) (fun j => (zv_at he).symm) (zvl_at he).symm]
  exact H
theorem qs_acopy : zSo zo_acopy qt_acopy := by
  intro sx d a b c k l st h k' l' st' h' x9 y9 lo K hK hL e H
  unfold zo_acopy at e
  split at e
  case h_2 => cases e
  next n dp i1 sp i0 r =>
  split at e
  case h_2 => cases e
  next n0 f n1 g h0 h1 =>
  by_cases hz : 6 ≤ d ∧ z_cat r ≤ 8 ∧ ¬ sp < 0 ∧ ¬ dp < 0 ∧ ¬ n < 0 ∧ sp.toNatClampNeg + n.toNatClampNeg ≤ n0 ∧ dp.toNatClampNeg + n.toNatClampNeg ≤ n1
  case neg => rw [if_neg hz] at e; cases e
  rw [if_pos hz] at e
  obtain ⟨rfl, rfl, rfl, rfl, rfl, rfl⟩ := zn_inj e
  refine ⟨hK.arr (x := .inl f) (by decide), lo, hL, ?_⟩
  have hl := (List.getElem?_eq_some_iff.mp h1).1
  have e1 : za (h.set i1 (.inl (0, (n1, .inl (va_cpy f g sp.toNatClampNeg dp.toNatClampNeg n.toNatClampNeg))))) = q_cp (za h) i0 i1 sp.toNatClampNeg dp.toNatClampNeg n.toNatClampNeg := by
    refine Prod.ext ?_ (Prod.ext ?_ ?_)
    · funext c k'
      show zv (h.set i1 _) c k' = if c = i1 ∧ dp.toNatClampNeg ≤ k' ∧ k' < dp.toNatClampNeg + n.toNatClampNeg then zv h i0 (sp.toNatClampNeg + (k' - dp.toNatClampNeg)) else zv h c k'
      by_cases hc : c = i1
      · subst hc
        rw [zv_at (List.getElem?_set_self hl), z_rd0]
        unfold va_cpy
        by_cases hk : dp.toNatClampNeg ≤ k' ∧ k' < dp.toNatClampNeg + n.toNatClampNeg
        · rw [if_pos (by omega), if_pos hk, if_pos ⟨rfl, hk⟩, zv_at h0, z_rd0, if_pos (by omega)]
        · have hk2 : ¬ (c = c ∧ dp.toNatClampNeg ≤ k' ∧ k' < dp.toNatClampNeg + n.toNatClampNeg) := fun q => hk q.2
          rw [if_neg hk, if_neg hk2, zv_at h1, z_rd0]
      · rw [if_neg (fun q => hc q.1)]
        unfold zv
        rw [List.getElem?_set_ne (fun q => hc q.symm)]
    · exact zvl_set h1 rfl
    · exact List.length_set
  rw [e1]
  exact H
theorem qs_slength : zSo zo_slength qt_slength := by
  intro sx d a b c k l st h k' l' st' h' x9 y9 lo K hK hL e H
  unfold zo_slength at e
  split at e
  case h_2 => cases e
  next i r =>
  split at e
  case isFalse => cases e
  split at e
  case h_2 => cases e
  next q hq =>
  obtain ⟨rfl, rfl, rfl, rfl, rfl, rfl⟩ := zn_inj e
  refine ⟨hK, lo, hL, ?_⟩
  unfold qt_slength at H
  dsimp only at H
  rw [show q_r (.ref i) = i from rfl, q_s_at hq] at H
  exact H
theorem qs_scharAt : zSo zo_scharAt qt_scharAt := by
  intro sx d a b c k l st h k' l' st' h' x9 y9 lo K hK hL e H
  unfold zo_scharAt at e
  split at e
  case h_2 => cases e
  next j i r =>
  split at e
  case isFalse => cases e
  split at e
  case h_2 => cases e
  next q hq =>
  by_cases hz : z_in j q.2.2.2.length = true
  case neg => rw [if_neg hz] at e; cases e
  rw [if_pos hz] at e
  obtain ⟨rfl, rfl, rfl, rfl, rfl, rfl⟩ := zn_inj e
  refine ⟨hK, lo, hL, ?_⟩
  unfold qt_scharAt at H
  dsimp only at H
  rw [show q_r (.ref i) = i from rfl, show q_i (.int j) = j from rfl, q_s_at hq] at H
  exact H hz
noncomputable def qts : List zTr := [qt_const, qt_iload, qt_aload, qt_lload, qt_istore, qt_astore, qt_lstore, qt_iinc, q_p2 (fun x y => .int ((fun x y : Int32 => x + y) (q_i x) (q_i y))), q_p2 (fun x y => .int ((fun x y : Int32 => x - y) (q_i x) (q_i y))), q_p2 (fun x y => .int ((fun x y : Int32 => x * y) (q_i x) (q_i y))), q_p2 (fun x y => .int ((fun x y : Int32 => x / y) (q_i x) (q_i y))), q_p2 (fun x y => .int ((fun x y : Int32 => x - x / y * y) (q_i x) (q_i y))), q_p2 (fun x y => .int ((fun x y : Int32 => x <<< (y &&& 31)) (q_i x) (q_i y))), q_p2 (fun x y => .int ((fun x y : Int32 => x >>> (y &&& 31)) (q_i x) (q_i y))), q_p2 (fun x y => .int ((fun x y : Int32 => (x.toUInt32 >>> (y.toUInt32 &&& Int32.toUInt32 31)).toInt32) (q_i x) (q_i y))), q_p2 (fun x y => .int ((fun x y : Int32 => x &&& y) (q_i x) (q_i y))), q_p2 (fun x y => .int ((fun x y : Int32 => x ||| y) (q_i x) (q_i y))), q_p2 (fun x y => .int ((fun x y : Int32 => x ^^^ y) (q_i x) (q_i y))), q_p1 (fun x => .long (q_i x).toInt64), q_p1 (fun x => .int (q_l x).toInt32), q_p1 (fun x => .int (q_i x).toInt8.toInt32), q_p2 (fun x y => .long ((fun x y : Int64 => x + y) (q_l x) (q_l y))), q_p2 (fun x y => .long ((fun x y : Int64 => x * y) (q_l x) (q_l y))), q_p2 (fun x y => .long ((fun x y : Int64 => x / y) (q_l x) (q_l y))), qt_lconst, q_p2 (fun x y => .int (lg_cmp (q_l x) (q_l y))), qt_dup, qt_dup2, qt_pop, qt_goto, qt_if, qt_icmp, qt_ifnn, qt_lald, qt_tsw, qt_lsw2, qt_get, qt_put, qt_iald, qt_iast, qt_iald, qt_bast, qt_last, qt_aald, qt_no, qt_alen, qt_newa, qt_no, qt_new, qt_no, qt_no, qt_no, qt_no, qt_no, qt_no, qt_no, qt_oinit, qt_ldcs, qt_slength, qt_scharAt, qt_acopy, qt_no, qt_null, qt_no, qt_sald, qt_slen, qt_min, qt_max, qt_no, qt_clone, qt_cast]
theorem qs_all : ∀ o, zSo (z_ops.getD o z_no) (qts.getD o qt_no)
  | 0 => qs_const
  | 1 => qs_iload
  | 2 => qs_aload
  | 3 => qs_lload
  | 4 => qs_istore
  | 5 => qs_astore
  | 6 => qs_lstore
  | 7 => qs_iinc
  | 8 => qs_iadd
  | 9 => qs_isub
  | 10 => qs_imul
  | 11 => qs_idiv
  | 12 => qs_irem
  | 13 => qs_ishl
  | 14 => qs_ishr
  | 15 => qs_iushr
  | 16 => qs_iand
  | 17 => qs_ior
  | 18 => qs_ixor
  | 19 => qs_i2l
  | 20 => qs_l2i
  | 21 => qs_i2b
  | 22 => qs_ladd
  | 23 => qs_lmul
  | 24 => qs_ldiv
  | 25 => qs_lconst
  | 26 => qs_lcmp
  | 27 => qs_dup
  | 28 => qs_dup2
  | 29 => qs_pop
  | 30 => qs_goto
  | 31 => qs_if
  | 32 => qs_icmp
  | 33 => qs_ifnn
  | 34 => qs_lald
  | 35 => qs_tsw
  | 36 => qs_lsw2
  | 37 => qs_get
  | 38 => qs_put
  | 39 => qs_iald
  | 40 => qs_iast
  | 41 => qs_bald
  | 42 => qs_bast
  | 43 => qs_last
  | 44 => qs_aald
  | 45 => qs_no
  | 46 => qs_alen
  | 47 => qs_newa
  | 48 => qs_no
  | 49 => qs_new
  | 50 => qs_no
  | 51 => qs_no
  | 52 => qs_no
  | 53 => qs_no
  | 54 => qs_no
  | 55 => qs_no
  | 56 => qs_no
  | 57 => qs_oinit
  | 58 => qs_ldcs
  | 59 => qs_slength
  | 60 => qs_scharAt
  | 61 => qs_acopy
  | 62 => qs_no
  | 63 => qs_null
  | 64 => qs_no
  | 65 => qs_sald
  | 66 => qs_slen
  | 67 => qs_min
  | 68 => qs_max
  | 69 => qs_no
  | 70 => qs_clone
  | 71 => qs_cast
  | n + 72 => qs_no
/-! a run's end, calls, and the step as a whole -/
noncomputable def q_fs : List (Nat × Nat × zPp) → Nat → Option (Nat × zPp)
  | [], _ => none
  | q :: r, j => bif Nat.beq q.1 j then some q.2 else q_fs r j
noncomputable def q_c1 : List Value → Bool
  | [] => true
  | v :: r => Nat.beq v.category 1 && q_c1 r
noncomputable def q_hd (st : List Value) : Value := match st with
  | v :: _ => v
  | [] => .null
noncomputable def q_cl (sps : List (Nat × Nat × zPp)) (hs : List zHd) (Ψ : zO → zSg → Prop) (go : zKo) (j k : Nat) (lo : zLf) (as rest : List Value) (σ : zSg) (ca : Bool) : Prop := match q_fs sps j with
  | none => False
  | some p => bif Nat.beq as.length p.1 && q_c1 as then (∀ o σ', p.2 as σ o σ' → (match o with
    | .inl v => go (k + 1) lo (v.toList ++ rest) σ'
    | .inr E => bif ca then (match hs.find? (fun q => q.2.2.2.2.1 == E) with
      | some q => go q.2.2.2.2.2.1 lo [] σ'
      | none => Ψ (.inr E) σ') else True)) else False
noncomputable def q_sp (o : Nat) : Nat := match o with
  | 50 => 1 | 51 => 2 | 52 => 3 | 53 => 4 | 62 => 5 | 54 => 6 | 55 => 7 | 72 => 7 | 56 => 8 | 73 => 8
  | _ => 0
noncomputable def zstp (sx : zX) (sps : List (Nat × Nat × zPp)) (hs : List zHd) (cs : List zI) (Ψ : zO → zSg → Prop) (go : zKo) (k : Nat) (lo : zLf) (st : List Value) (σ : zSg) : Prop := match cs[k]? with
  | none => True
  | some (o, a, b, c) => (match q_sp o with
    | 0 => (qts.getD o qt_no) sx a b c k lo st σ go
    | 1 => Ψ (.inl (some (.int (q_i (q_hd st))))) σ
    | 2 => Ψ (.inl (some (.long (q_l (q_hd st))))) σ
    | 3 => Ψ (.inl (some (.ref (q_r (q_hd st))))) σ
    | 4 => Ψ (.inl none) σ
    | 5 => Ψ (.inr a) σ
    | 6 => (match st.drop b with
      | w :: rest => q_cl sps hs Ψ go a k lo (.ref (q_r w) :: (st.take b).reverse) rest σ true
      | [] => True)
    | 7 => q_cl sps hs Ψ go a k lo (st.take b).reverse (st.drop b) σ false
    | _ => (match st.drop b with
      | w :: rest => q_cl sps hs Ψ go a k lo (.ref (q_r w) :: (st.take b).reverse) rest σ false
      | [] => True))
/-- every run of at most that much fuel from here ends with Ψ -/
noncomputable def zRu (sx : zX) (m0 j k : Nat) (lo : zLf) (st : List Value) (σ : zSg) (Ψ : zO → zSg → Prop) : Prop := ∀ m, m ≤ m0 → ∀ (d : Nat) (l : zL) (h : zH) (r : zRes), zKh h → zLr l lo → za h = σ → z_run sx m d j k l st h = some r → zKh r.2.1 ∧ Ψ r.1 (za r.2.1)
noncomputable def zMt (sx : zX) (m0 j n : Nat) (P : zPp) : Prop := ∀ m, m ≤ m0 → ∀ (d : Nat) (h : zH) (as : List Value) (r : zRes), zKh h → as.length = n → q_c1 as = true → z_run sx m d j 0 (lv_args 0 as) [] h = some r → zKh r.2.1 ∧ P as (za h) r.1 (za r.2.1)
theorem q_c1_ok : ∀ {as : List Value}, q_c1 as = true → ∀ v ∈ as, v.category = 1
  | v :: vs, h, w, hw => by
    unfold q_c1 at h
    rw [Bool.and_eq_true] at h
    rcases List.mem_cons.mp hw with e | e
    · rw [e]; exact Nat.eq_of_beq_eq_true h.1
    · exact q_c1_ok h.2 w e
theorem q_fs_ok {j : Nat} {p : Nat × zPp} : ∀ {sps : List (Nat × Nat × zPp)}, q_fs sps j = some p → (j, p) ∈ sps
  | q :: r, h => by
    unfold q_fs at h
    cases hb : Nat.beq q.1 j with
    | true =>
      rw [hb] at h
      have h1 : q.2 = p := by simpa using h
      have h2 := Nat.eq_of_beq_eq_true hb
      rw [← h1, ← h2]
      exact List.mem_cons_self
    | false =>
      rw [hb] at h
      exact List.mem_cons_of_mem _ (q_fs_ok h)
section ZFL
variable {sx : zX} {sps : List (Nat × Nat × zPp)} {hs : List zHd} {cs : List zI} {M : zMi} {Ψ : zO → zSg → Prop} {go : zKo} {m0 j k : Nat} {lo : zLf} {st : List Value} {σ : zSg}
theorem q_sp_no {o : Nat} (h : q_sp o ≠ 0) : z_ops.getD o z_no = z_no := by
  unfold q_sp at h
  split at h
  all_goals first
    | rfl
    | exact absurd rfl h
/-- a call, by what its method ends with -/
theorem q_cl_ok {m d a : Nat} {b : Bool} {as rest : List Value} {h : zH} {l : zL} {r : zRes} {i : zI} (hm : m ≤ m0) (hsp : ∀ q ∈ sps, zMt sx m0 q.1 q.2.1 q.2.2) (hgo : ∀ k' lo' st' σ', go k' lo' st' σ' → zRu sx m0 j k' lo' st' σ' Ψ) (hK : zKh h) (hL : zLr l lo) (hb : i.1 = 54 → b = true) (H : q_cl sps hs Ψ go a k lo as rest (za h) b)
    (hr : (match z_run sx m (d - 1) a 0 (lv_args 0 as) [] h with
            | some (.inl v, h', x, y) => (z_run sx m d j (k + 1) l (v.toList ++ rest) h').map (z_add x y)
            | some (.inr E, h', x, y) => if i.1 = 54 then (match hs.find? (fun q => q.2.2.2.2.1 == E) with
                | some q => (z_run sx m d j q.2.2.2.2.2.1 (z_drop l q.2.2.2.2.2.2) [] h').map (z_add x y)
                | none => if hs = [] then some (.inr E, h', x, y) else none) else none
            | none => none) = some r) : zKh r.2.1 ∧ Ψ r.1 (za r.2.1) := by
  unfold q_cl at H
  cases hp : q_fs sps a with
  | none => rw [hp] at H; exact H.elim
  | some p =>
  rw [hp] at H
  dsimp only at H
  cases hc : (Nat.beq as.length p.1 && q_c1 as) with
  | false => rw [hc] at H; exact H.elim
  | true =>
  rw [hc] at H
  rw [Bool.and_eq_true] at hc
  have H : ∀ o σ', p.2 as (za h) o σ' → _ := H
  have hS := hsp _ (q_fs_ok hp)
  cases hin : z_run sx m (d - 1) a 0 (lv_args 0 as) [] h with
  | none => rw [hin] at hr; cases hr
  | some w =>
  obtain ⟨oi, h1, x1, y1⟩ := w
  rw [hin] at hr
  obtain ⟨K1, P1⟩ := hS m hm (d - 1) h as _ hK (Nat.eq_of_beq_eq_true hc.1) hc.2 hin
  dsimp only at K1 P1
  have H2 := H oi (za h1) P1
  cases oi with
  | inl v =>
    dsimp only at hr H2
    obtain ⟨r1, r2, r3, r4⟩ := r
    obtain ⟨a9, b9, e1, e2, e3⟩ := z_mapadd hr
    exact hgo _ _ _ _ H2 m hm d l h1 (r1, r2, a9, b9) K1 hL rfl e1
  | inr E =>
    dsimp only at hr H2
    by_cases hi : i.1 = 54
    case neg => rw [if_neg hi] at hr; cases hr
    rw [if_pos hi] at hr
    rw [hb hi] at H2
    cases hfd : hs.find? (fun q => q.2.2.2.2.1 == E) with
    | some q =>
      rw [hfd] at hr H2
      dsimp only at hr H2
      obtain ⟨r1, r2, r3, r4⟩ := r
      obtain ⟨a9, b9, e1, e2, e3⟩ := z_mapadd hr
      exact hgo _ _ _ _ H2 m hm d _ h1 (r1, r2, a9, b9) K1 hL.drop rfl e1
    | none =>
      rw [hfd] at hr H2
      dsimp only at hr H2
      by_cases he : hs = []
      case neg => rw [if_neg he] at hr; cases hr
      rw [if_pos he] at hr
      cases hr
      exact ⟨K1, H2⟩
theorem zstp_ok (J : zJ3 j M cs hs) (hsp : ∀ q ∈ sps, zMt sx m0 q.1 q.2.1 q.2.2) (H : zstp sx sps hs cs Ψ go k lo st σ) (hgo : ∀ k' lo' st' σ', go k' lo' st' σ' → zRu sx m0 j k' lo' st' σ' Ψ) : zRu sx (m0 + 1) j k lo st σ Ψ := by
  intro m hm d l h r hK hL hA hr
  subst hA
  match m with
  | 0 => rw [z_run] at hr; cases hr
  | m + 1 =>
  have hm : m ≤ m0 := by omega
  rw [z_run, J.1, J.2.1, J.2.2] at hr
  dsimp only at hr
  unfold zstp at H
  cases hk : cs[k]? with
  | none => rw [hk] at hr; cases hr
  | some i =>
  rw [hk] at hr H
  obtain ⟨o, a, b, c⟩ := i
  dsimp only at hr H
  cases hf : z_fin M (o, a, b, c) d st with
  | some w =>
    obtain ⟨o', x, y⟩ := w
    rw [hf] at hr
    dsimp only at hr
    cases hr
    refine ⟨hK, ?_⟩
    dsimp only
    unfold z_fin at hf
    dsimp only at hf
    split at hf
    · split at hf
      · split at hf
        · cases hf; exact H
        · cases hf
      · cases hf
    · cases hf; exact H
    · cases hf; exact H
    · cases hf; exact H
    · split at hf
      · cases hf; exact H
      · cases hf
    · cases hf
  | none =>
  rw [hf] at hr
  dsimp only at hr
  cases hc : z_cal (o, a, b, c) d st h with
  | some w =>
    obtain ⟨j', as, rest⟩ := w
    rw [hc] at hr
    dsimp only at hr
    obtain ⟨h0, -⟩ := z_cal_in hc
    unfold z_cal0 at h0
    by_cases hd : d = 0 ∨ st.length < b
    · rw [if_pos hd] at h0; cases h0
    rw [if_neg hd] at h0
    dsimp only at h0
    split at h0
    · split at h0
      · next r9 rest9 hdr =>
        have H : (match st.drop b with | w :: rest => q_cl sps hs Ψ go a k lo (.ref (q_r w) :: (st.take b).reverse) rest (za h) true | [] => True) := H
        rw [hdr] at H
        dsimp only at H
        split at h0
        · split at h0
          · cases h0
            exact q_cl_ok (i := (54, a, b, c)) hm hsp hgo hK hL (fun _ => rfl) H hr
          · cases h0
        · cases h0
      · cases h0
    · split at h0
      · cases h0
        exact q_cl_ok (i := (55, a, b, c)) hm hsp hgo hK hL (fun q => absurd q (by decide : (55 : Nat) ≠ 54)) H hr
      · cases h0
    · split at h0
      · cases h0
        exact q_cl_ok (i := (72, a, b, c)) hm hsp hgo hK hL (fun q => absurd q (by decide : (72 : Nat) ≠ 54)) H hr
      · cases h0
    · split at h0
      · next r9 rest9 hdr =>
        have H : (match st.drop b with | w :: rest => q_cl sps hs Ψ go a k lo (.ref (q_r w) :: (st.take b).reverse) rest (za h) false | [] => True) := H
        rw [hdr] at H
        dsimp only at H
        split at h0
        · cases h0
          exact q_cl_ok (i := (56, a, b, c)) hm hsp hgo hK hL (fun q => absurd q (by decide : (56 : Nat) ≠ 54)) H hr
        · cases h0
      · cases h0
    · split at h0
      · next r9 rest9 hdr =>
        have H : (match st.drop b with | w :: rest => q_cl sps hs Ψ go a k lo (.ref (q_r w) :: (st.take b).reverse) rest (za h) false | [] => True) := H
        rw [hdr] at H
        dsimp only at H
        split at h0
        · cases h0
          exact q_cl_ok (i := (73, a, b, c)) hm hsp hgo hK hL (fun q => absurd q (by decide : (73 : Nat) ≠ 54)) H hr
        · cases h0
      · cases h0
    · cases h0
  | none =>
  rw [hc] at hr
  dsimp only at hr
  cases ho : (z_ops.getD o z_no) sx d a b c k l st h with
  | none => rw [ho] at hr; cases hr
  | some w =>
  obtain ⟨k', l', st', h', x, y⟩ := w
  rw [ho] at hr
  dsimp only at hr
  obtain ⟨r1, r2, r3, r4⟩ := r
  obtain ⟨a9, b9, e1, e2, e3⟩ := z_mapadd hr
  cases hs0 : q_sp o with
  | succ n =>
    rw [q_sp_no (by rw [hs0]; exact Nat.succ_ne_zero n)] at ho
    cases ho
  | zero =>
  rw [hs0] at H
  obtain ⟨K1, lo', hL', H'⟩ := qs_all o sx d a b c k l st h k' l' st' h' x y lo go hK hL ho H
  exact hgo _ _ _ _ H' m hm d l' h' (r1, r2, a9, b9) K1 hL' rfl e1
end ZFL
/-! CUT POINTS -/
abbrev zCp : Type := List (Nat × (zLf → List Value → zSg → Prop))
noncomputable def q_ct : zCp → Nat → Option (zLf → List Value → zSg → Prop)
  | [], _ => none
  | q :: r, k => bif Nat.beq q.1 k then some q.2 else q_ct r k
noncomputable def zwp (sx : zX) (sps : List (Nat × Nat × zPp)) (hs : List zHd) (cs : List zI) (Ψ : zO → zSg → Prop) (ct : zCp) : Nat → zKo
  | 0 => fun _ _ _ _ => False
  | n + 1 => zstp sx sps hs cs Ψ (fun k lo st σ => match q_ct ct k with
    | some I => I lo st σ
    | none => zwp sx sps hs cs Ψ ct n k lo st σ)
theorem q_ct_ok {k : Nat} {I : zLf → List Value → zSg → Prop} : ∀ {ct : zCp}, q_ct ct k = some I → (k, I) ∈ ct
  | q :: r, h => by
    unfold q_ct at h
    cases hb : Nat.beq q.1 k with
    | true =>
      rw [hb] at h
      have h1 : q.2 = I := by simpa using h
      have h2 := Nat.eq_of_beq_eq_true hb
      rw [← h1, ← h2]
      exact List.mem_cons_self
    | false =>
      rw [hb] at h
      exact List.mem_cons_of_mem _ (q_ct_ok h)
theorem zMt.mono {sx : zX} {m m' j n : Nat} {P : zPp} (H : zMt sx m j n P) (h : m' ≤ m) : zMt sx m' j n P := fun m1 h1 => H m1 (Nat.le_trans h1 h)
theorem zwp_ok {sx : zX} {sps : List (Nat × Nat × zPp)} {hs : List zHd} {cs : List zI} {M : zMi} {Ψ : zO → zSg → Prop} {ct : zCp} {m0 j : Nat} (J : zJ3 j M cs hs) (hsp : ∀ q ∈ sps, zMt sx m0 q.1 q.2.1 q.2.2) (hct : ∀ q ∈ ct, ∀ lo st σ, q.2 lo st σ → ∃ n, zwp sx sps hs cs Ψ ct n q.1 lo st σ) : ∀ m1, m1 ≤ m0 + 1 → ∀ (n k : Nat) (lo : zLf) (st : List Value) (σ : zSg), zwp sx sps hs cs Ψ ct n k lo st σ → zRu sx m1 j k lo st σ Ψ
  | 0, _, n, k, lo, st, σ, _ => by
    intro m hm d l h r hK hL hA hr
    rw [show m = 0 by omega, z_run] at hr
    cases hr
  | m1 + 1, h1, 0, k, lo, st, σ, H => False.elim H
  | m1 + 1, h1, n + 1, k, lo, st, σ, H => by
    refine zstp_ok J (fun q hq => (hsp q hq).mono (by omega)) H (fun k' lo' st' σ' h' => ?_)
    cases hc : q_ct ct k' with
    | some I =>
      rw [hc] at h'
      obtain ⟨n9, h9⟩ := hct _ (q_ct_ok hc) lo' st' σ' h'
      exact zwp_ok J hsp hct m1 (by omega) n9 k' lo' st' σ' h9
    | none =>
      rw [hc] at h'
      exact zwp_ok J hsp hct m1 (by omega) n k' lo' st' σ' h'
theorem zfl {sx : zX} {sps : List (Nat × Nat × zPp)} {hs : List zHd} {cs : List zI} {M : zMi} {m0 j n : Nat} {P : zPp} (J : zJ3 j M cs hs) (hsp : ∀ q ∈ sps, zMt sx m0 q.1 q.2.1 q.2.2) (H : ∀ (as : List Value) (σ : zSg), as.length = n → ∃ (ct : zCp) (N : Nat), (∀ q ∈ ct, ∀ lo st σ', q.2 lo st σ' → ∃ n, zwp sx sps hs cs (P as σ) ct n q.1 lo st σ') ∧ zwp sx sps hs cs (P as σ) ct N 0 (fun i => as.getD i .null) [] σ) : zMt sx (m0 + 1) j n P := by
  intro m hm d h as r hK hn hc hr
  obtain ⟨ct, N, h1, h2⟩ := H as (za h) hn
  exact zwp_ok J hsp h1 (m0 + 1) (Nat.le_refl _) N 0 _ [] (za h) h2 m hm d _ h r hK (zLr.args as 0 _ (q_c1_ok hc) (fun i => by rw [Nat.zero_add])) rfl hr
theorem zMt0 {sx : zX} {j n : Nat} {P : zPp} : zMt sx 0 j n P := by
  intro m hm d h as r hK hn hc hr
  rw [show m = 0 by omega, z_run] at hr
  cases hr
noncomputable def zEe (sx : zX) (j n : Nat) (P : zPp) : Prop := ∀ m, zMt sx m j n P
theorem zfle {sx : zX} {sps : List (Nat × Nat × zPp)} {hs : List zHd} {cs : List zI} {M : zMi} {j n : Nat} {P : zPp} (J : zJ3 j M cs hs) (hsp : ∀ q ∈ sps, zEe sx q.1 q.2.1 q.2.2) (H : ∀ (as : List Value) (σ : zSg), as.length = n → ∃ (ct : zCp) (N : Nat), (∀ q ∈ ct, ∀ lo st σ', q.2 lo st σ' → ∃ n, zwp sx sps hs cs (P as σ) ct n q.1 lo st σ') ∧ zwp sx sps hs cs (P as σ) ct N 0 (fun i => as.getD i .null) [] σ) : zEe sx j n P := fun m => (zfl J (fun q hq => hsp q hq m) H).mono (Nat.le_succ m)
/-- a method without loops -/
theorem zfl0 {sx : zX} {sps : List (Nat × Nat × zPp)} {hs : List zHd} {cs : List zI} {M : zMi} {j n : Nat} {P : zPp} (N : Nat) (J : zJ3 j M cs hs) (hsp : ∀ q ∈ sps, zEe sx q.1 q.2.1 q.2.2) (H : ∀ (as : List Value) (σ : zSg), as.length = n → zwp sx sps hs cs (P as σ) [] N 0 (fun i => as.getD i .null) [] σ) : zEe sx j n P := zfle J hsp (fun as σ h => ⟨[], N, fun q hq => absurd hq List.not_mem_nil, H as σ h⟩)
/-- what is proved of every end holds of the end that is proved -/
theorem zEe.ok {sx : zX} {d j n : Nat} {as : List Value} {h : zH} {Φ : zO → zH → Nat → Nat → Prop} {P : zPp} (H : zEe sx j n P) (hK : zKh h) (hn : as.length = n) (hc : q_c1 as = true) (R : z_ok sx d j 0 (lv_args 0 as) [] h Φ) : z_ok sx d j 0 (lv_args 0 as) [] h (fun o h' x y => Φ o h' x y ∧ zKh h' ∧ P as (za h) o (za h')) := by
  obtain ⟨m, o, h', x, y, e, q⟩ := R
  obtain ⟨K1, P1⟩ := H m m (Nat.le_refl _) d h as _ hK hn hc e
  exact ⟨m, o, h', x, y, e, q, K1, P1⟩
