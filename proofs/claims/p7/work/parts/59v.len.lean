/-! no run makes more cells than it costs; printed with wip/gen/gen_len.py -/
noncomputable def zLno (o : zNop) : Prop := ∀ (sx : zX) (d a b : Nat) (c : Int) (k : Nat) (l : zL) (st : List Value) (h : zH) (k' : Nat) (l' : zL) (st' : List Value) (h' : zH) (x y : Nat), o sx d a b c k l st h = some (k', l', st', h', x, y) → h'.length ≤ h.length + x
theorem zln0 {k k' : Nat} {l l' : zL} {st st' : List Value} {h h' : zH} {x y : Nat} (e : zn k l st h = some (k', l', st', h', x, y)) : h'.length ≤ h.length + x := by
  obtain ⟨-, -, -, rfl, -⟩ := zn_inj e
  omega
theorem zln1 {k k' i : Nat} {l l' : zL} {st st' : List Value} {h h' : zH} {v : zE} {x y : Nat} (e : zn k l st (h.set i v) = some (k', l', st', h', x, y)) : h'.length ≤ h.length + x := by
  obtain ⟨-, -, -, rfl, -⟩ := zn_inj e
  rw [List.length_set]
  omega
theorem zln2 {k k' y0 : Nat} {l l' : zL} {st st' : List Value} {h h' : zH} {v : zE} {x y : Nat} (e : some (k, l, st, h ++ [v], 1, y0) = some (k', l', st', h', x, y)) : h'.length ≤ h.length + x := by
  simp only [Option.some.injEq, Prod.mk.injEq] at e
  obtain ⟨-, -, -, rfl, rfl, -⟩ := e
  rw [List.length_append, List.length_singleton]
  omega
theorem zl_no : zLno z_no := fun _ _ _ _ _ _ _ _ _ _ _ _ _ _ _ e => by cases e
theorem zl_aald : zLno zo_aald := by
  intro sx d a b c k l st h k' l' st' h' x y e
  unfold zo_aald at e
  repeat' split at e
  all_goals first
    | exact zln0 e
    | exact zln1 e
    | exact zln2 e
    | cases e
theorem zl_aast : zLno zo_aast := by
  intro sx d a b c k l st h k' l' st' h' x y e
  unfold zo_aast at e
  repeat' split at e
  all_goals first
    | exact zln0 e
    | exact zln1 e
    | exact zln2 e
    | cases e
theorem zl_acopy : zLno zo_acopy := by
  intro sx d a b c k l st h k' l' st' h' x y e
  unfold zo_acopy at e
  repeat' split at e
  all_goals first
    | exact zln0 e
    | exact zln1 e
    | exact zln2 e
    | cases e
theorem zl_alen : zLno zo_alen := by
  intro sx d a b c k l st h k' l' st' h' x y e
  unfold zo_alen at e
  repeat' split at e
  all_goals first
    | exact zln0 e
    | exact zln1 e
    | exact zln2 e
    | cases e
theorem zl_aload : zLno zo_aload := by
  intro sx d a b c k l st h k' l' st' h' x y e
  unfold zo_aload at e
  repeat' split at e
  all_goals first
    | exact zln0 e
    | exact zln1 e
    | exact zln2 e
    | cases e
theorem zl_anew : zLno zo_anew := by
  intro sx d a b c k l st h k' l' st' h' x y e
  unfold zo_anew at e
  repeat' split at e
  all_goals first
    | exact zln0 e
    | exact zln1 e
    | exact zln2 e
    | cases e
theorem zl_astore : zLno zo_astore := by
  intro sx d a b c k l st h k' l' st' h' x y e
  unfold zo_astore at e
  repeat' split at e
  all_goals first
    | exact zln0 e
    | exact zln1 e
    | exact zln2 e
    | cases e
theorem zl_bald : zLno zo_bald := by
  intro sx d a b c k l st h k' l' st' h' x y e
  unfold zo_bald at e
  repeat' split at e
  all_goals first
    | exact zln0 e
    | exact zln1 e
    | exact zln2 e
    | cases e
theorem zl_bast : zLno zo_bast := by
  intro sx d a b c k l st h k' l' st' h' x y e
  unfold zo_bast at e
  repeat' split at e
  all_goals first
    | exact zln0 e
    | exact zln1 e
    | exact zln2 e
    | cases e
theorem zl_cast : zLno zo_cast := by
  intro sx d a b c k l st h k' l' st' h' x y e
  unfold zo_cast at e
  repeat' split at e
  all_goals first
    | exact zln0 e
    | exact zln1 e
    | exact zln2 e
    | cases e
theorem zl_clone : zLno zo_clone := by
  intro sx d a b c k l st h k' l' st' h' x y e
  unfold zo_clone at e
  repeat' split at e
  all_goals first
    | exact zln0 e
    | exact zln1 e
    | exact zln2 e
    | cases e
theorem zl_const : zLno zo_const := by
  intro sx d a b c k l st h k' l' st' h' x y e
  unfold zo_const at e
  repeat' split at e
  all_goals first
    | exact zln0 e
    | exact zln1 e
    | exact zln2 e
    | cases e
theorem zl_dup : zLno zo_dup := by
  intro sx d a b c k l st h k' l' st' h' x y e
  unfold zo_dup at e
  repeat' split at e
  all_goals first
    | exact zln0 e
    | exact zln1 e
    | exact zln2 e
    | cases e
theorem zl_dup2 : zLno zo_dup2 := by
  intro sx d a b c k l st h k' l' st' h' x y e
  unfold zo_dup2 at e
  repeat' split at e
  all_goals first
    | exact zln0 e
    | exact zln1 e
    | exact zln2 e
    | cases e
theorem zl_get : zLno zo_get := by
  intro sx d a b c k l st h k' l' st' h' x y e
  unfold zo_get at e
  repeat' split at e
  all_goals first
    | exact zln0 e
    | exact zln1 e
    | exact zln2 e
    | cases e
theorem zl_goto : zLno zo_goto := by
  intro sx d a b c k l st h k' l' st' h' x y e
  unfold zo_goto at e
  repeat' split at e
  all_goals first
    | exact zln0 e
    | exact zln1 e
    | exact zln2 e
    | cases e
theorem zl_i2b : zLno zo_i2b := by
  intro sx d a b c k l st h k' l' st' h' x y e
  unfold zo_i2b at e
  repeat' split at e
  all_goals first
    | exact zln0 e
    | exact zln1 e
    | exact zln2 e
    | cases e
theorem zl_i2l : zLno zo_i2l := by
  intro sx d a b c k l st h k' l' st' h' x y e
  unfold zo_i2l at e
  repeat' split at e
  all_goals first
    | exact zln0 e
    | exact zln1 e
    | exact zln2 e
    | cases e
theorem zl_iadd : zLno zo_iadd := by
  intro sx d a b c k l st h k' l' st' h' x y e
  unfold zo_iadd at e
  repeat' split at e
  all_goals first
    | exact zln0 e
    | exact zln1 e
    | exact zln2 e
    | cases e
theorem zl_iald : zLno zo_iald := by
  intro sx d a b c k l st h k' l' st' h' x y e
  unfold zo_iald at e
  repeat' split at e
  all_goals first
    | exact zln0 e
    | exact zln1 e
    | exact zln2 e
    | cases e
theorem zl_lald : zLno zo_lald := by
  intro sx d a b c k l st h k' l' st' h' x y e
  unfold zo_lald at e
  repeat' split at e
  all_goals first
    | exact zln0 e
    | exact zln1 e
    | exact zln2 e
    | cases e
theorem zl_iand : zLno zo_iand := by
  intro sx d a b c k l st h k' l' st' h' x y e
  unfold zo_iand at e
  repeat' split at e
  all_goals first
    | exact zln0 e
    | exact zln1 e
    | exact zln2 e
    | cases e
theorem zl_iast : zLno zo_iast := by
  intro sx d a b c k l st h k' l' st' h' x y e
  unfold zo_iast at e
  repeat' split at e
  all_goals first
    | exact zln0 e
    | exact zln1 e
    | exact zln2 e
    | cases e
theorem zl_icmp : zLno zo_icmp := by
  intro sx d a b c k l st h k' l' st' h' x y e
  unfold zo_icmp at e
  repeat' split at e
  all_goals first
    | exact zln0 e
    | exact zln1 e
    | exact zln2 e
    | cases e
theorem zl_idiv : zLno zo_idiv := by
  intro sx d a b c k l st h k' l' st' h' x y e
  unfold zo_idiv at e
  repeat' split at e
  all_goals first
    | exact zln0 e
    | exact zln1 e
    | exact zln2 e
    | cases e
theorem zl_if : zLno zo_if := by
  intro sx d a b c k l st h k' l' st' h' x y e
  unfold zo_if at e
  repeat' split at e
  all_goals first
    | exact zln0 e
    | exact zln1 e
    | exact zln2 e
    | cases e
theorem zl_ifnn : zLno zo_ifnn := by
  intro sx d a b c k l st h k' l' st' h' x y e
  unfold zo_ifnn at e
  repeat' split at e
  all_goals first
    | exact zln0 e
    | exact zln1 e
    | exact zln2 e
    | cases e
theorem zl_iinc : zLno zo_iinc := by
  intro sx d a b c k l st h k' l' st' h' x y e
  unfold zo_iinc at e
  repeat' split at e
  all_goals first
    | exact zln0 e
    | exact zln1 e
    | exact zln2 e
    | cases e
theorem zl_iload : zLno zo_iload := by
  intro sx d a b c k l st h k' l' st' h' x y e
  unfold zo_iload at e
  repeat' split at e
  all_goals first
    | exact zln0 e
    | exact zln1 e
    | exact zln2 e
    | cases e
theorem zl_imul : zLno zo_imul := by
  intro sx d a b c k l st h k' l' st' h' x y e
  unfold zo_imul at e
  repeat' split at e
  all_goals first
    | exact zln0 e
    | exact zln1 e
    | exact zln2 e
    | cases e
theorem zl_ior : zLno zo_ior := by
  intro sx d a b c k l st h k' l' st' h' x y e
  unfold zo_ior at e
  repeat' split at e
  all_goals first
    | exact zln0 e
    | exact zln1 e
    | exact zln2 e
    | cases e
theorem zl_irem : zLno zo_irem := by
  intro sx d a b c k l st h k' l' st' h' x y e
  unfold zo_irem at e
  repeat' split at e
  all_goals first
    | exact zln0 e
    | exact zln1 e
    | exact zln2 e
    | cases e
theorem zl_ishl : zLno zo_ishl := by
  intro sx d a b c k l st h k' l' st' h' x y e
  unfold zo_ishl at e
  repeat' split at e
  all_goals first
    | exact zln0 e
    | exact zln1 e
    | exact zln2 e
    | cases e
theorem zl_ishr : zLno zo_ishr := by
  intro sx d a b c k l st h k' l' st' h' x y e
  unfold zo_ishr at e
  repeat' split at e
  all_goals first
    | exact zln0 e
    | exact zln1 e
    | exact zln2 e
    | cases e
theorem zl_istore : zLno zo_istore := by
  intro sx d a b c k l st h k' l' st' h' x y e
  unfold zo_istore at e
  repeat' split at e
  all_goals first
    | exact zln0 e
    | exact zln1 e
    | exact zln2 e
    | cases e
theorem zl_isub : zLno zo_isub := by
  intro sx d a b c k l st h k' l' st' h' x y e
  unfold zo_isub at e
  repeat' split at e
  all_goals first
    | exact zln0 e
    | exact zln1 e
    | exact zln2 e
    | cases e
theorem zl_iushr : zLno zo_iushr := by
  intro sx d a b c k l st h k' l' st' h' x y e
  unfold zo_iushr at e
  repeat' split at e
  all_goals first
    | exact zln0 e
    | exact zln1 e
    | exact zln2 e
    | cases e
theorem zl_ixor : zLno zo_ixor := by
  intro sx d a b c k l st h k' l' st' h' x y e
  unfold zo_ixor at e
  repeat' split at e
  all_goals first
    | exact zln0 e
    | exact zln1 e
    | exact zln2 e
    | cases e
theorem zl_l2i : zLno zo_l2i := by
  intro sx d a b c k l st h k' l' st' h' x y e
  unfold zo_l2i at e
  repeat' split at e
  all_goals first
    | exact zln0 e
    | exact zln1 e
    | exact zln2 e
    | cases e
theorem zl_ladd : zLno zo_ladd := by
  intro sx d a b c k l st h k' l' st' h' x y e
  unfold zo_ladd at e
  repeat' split at e
  all_goals first
    | exact zln0 e
    | exact zln1 e
    | exact zln2 e
    | cases e
theorem zl_last : zLno zo_last := by
  intro sx d a b c k l st h k' l' st' h' x y e
  unfold zo_last at e
  repeat' split at e
  all_goals first
    | exact zln0 e
    | exact zln1 e
    | exact zln2 e
    | cases e
theorem zl_lcmp : zLno zo_lcmp := by
  intro sx d a b c k l st h k' l' st' h' x y e
  unfold zo_lcmp at e
  repeat' split at e
  all_goals first
    | exact zln0 e
    | exact zln1 e
    | exact zln2 e
    | cases e
theorem zl_lconst : zLno zo_lconst := by
  intro sx d a b c k l st h k' l' st' h' x y e
  unfold zo_lconst at e
  repeat' split at e
  all_goals first
    | exact zln0 e
    | exact zln1 e
    | exact zln2 e
    | cases e
theorem zl_ldcs : zLno zo_ldcs := by
  intro sx d a b c k l st h k' l' st' h' x y e
  unfold zo_ldcs at e
  repeat' split at e
  all_goals first
    | exact zln0 e
    | exact zln1 e
    | exact zln2 e
    | cases e
theorem zl_ldiv : zLno zo_ldiv := by
  intro sx d a b c k l st h k' l' st' h' x y e
  unfold zo_ldiv at e
  repeat' split at e
  all_goals first
    | exact zln0 e
    | exact zln1 e
    | exact zln2 e
    | cases e
theorem zl_lload : zLno zo_lload := by
  intro sx d a b c k l st h k' l' st' h' x y e
  unfold zo_lload at e
  repeat' split at e
  all_goals first
    | exact zln0 e
    | exact zln1 e
    | exact zln2 e
    | cases e
theorem zl_lmul : zLno zo_lmul := by
  intro sx d a b c k l st h k' l' st' h' x y e
  unfold zo_lmul at e
  repeat' split at e
  all_goals first
    | exact zln0 e
    | exact zln1 e
    | exact zln2 e
    | cases e
theorem zl_lstore : zLno zo_lstore := by
  intro sx d a b c k l st h k' l' st' h' x y e
  unfold zo_lstore at e
  repeat' split at e
  all_goals first
    | exact zln0 e
    | exact zln1 e
    | exact zln2 e
    | cases e
theorem zl_lsw2 : zLno zo_lsw2 := by
  intro sx d a b c k l st h k' l' st' h' x y e
  unfold zo_lsw2 at e
  repeat' split at e
  all_goals first
    | exact zln0 e
    | exact zln1 e
    | exact zln2 e
    | cases e
theorem zl_max : zLno zo_max := by
  intro sx d a b c k l st h k' l' st' h' x y e
  unfold zo_max at e
  repeat' split at e
  all_goals first
    | exact zln0 e
    | exact zln1 e
    | exact zln2 e
    | cases e
theorem zl_min : zLno zo_min := by
  intro sx d a b c k l st h k' l' st' h' x y e
  unfold zo_min at e
  repeat' split at e
  all_goals first
    | exact zln0 e
    | exact zln1 e
    | exact zln2 e
    | cases e
theorem zl_new : zLno zo_new := by
  intro sx d a b c k l st h k' l' st' h' x y e
  unfold zo_new at e
  repeat' split at e
  all_goals first
    | exact zln0 e
    | exact zln1 e
    | exact zln2 e
    | cases e
theorem zl_newa : zLno zo_newa := by
  intro sx d a b c k l st h k' l' st' h' x y e
  unfold zo_newa at e
  repeat' split at e
  all_goals first
    | exact zln0 e
    | exact zln1 e
    | exact zln2 e
    | cases e
theorem zl_null : zLno zo_null := by
  intro sx d a b c k l st h k' l' st' h' x y e
  unfold zo_null at e
  repeat' split at e
  all_goals first
    | exact zln0 e
    | exact zln1 e
    | exact zln2 e
    | cases e
theorem zl_oinit : zLno zo_oinit := by
  intro sx d a b c k l st h k' l' st' h' x y e
  unfold zo_oinit at e
  repeat' split at e
  all_goals first
    | exact zln0 e
    | exact zln1 e
    | exact zln2 e
    | cases e
theorem zl_pop : zLno zo_pop := by
  intro sx d a b c k l st h k' l' st' h' x y e
  unfold zo_pop at e
  repeat' split at e
  all_goals first
    | exact zln0 e
    | exact zln1 e
    | exact zln2 e
    | cases e
theorem zl_put : zLno zo_put := by
  intro sx d a b c k l st h k' l' st' h' x y e
  unfold zo_put at e
  repeat' split at e
  all_goals first
    | exact zln0 e
    | exact zln1 e
    | exact zln2 e
    | cases e
theorem zl_sald : zLno zo_sald := by
  intro sx d a b c k l st h k' l' st' h' x y e
  unfold zo_sald at e
  repeat' split at e
  all_goals first
    | exact zln0 e
    | exact zln1 e
    | exact zln2 e
    | cases e
theorem zl_scharAt : zLno zo_scharAt := by
  intro sx d a b c k l st h k' l' st' h' x y e
  unfold zo_scharAt at e
  repeat' split at e
  all_goals first
    | exact zln0 e
    | exact zln1 e
    | exact zln2 e
    | cases e
theorem zl_slen : zLno zo_slen := by
  intro sx d a b c k l st h k' l' st' h' x y e
  unfold zo_slen at e
  repeat' split at e
  all_goals first
    | exact zln0 e
    | exact zln1 e
    | exact zln2 e
    | cases e
theorem zl_slength : zLno zo_slength := by
  intro sx d a b c k l st h k' l' st' h' x y e
  unfold zo_slength at e
  repeat' split at e
  all_goals first
    | exact zln0 e
    | exact zln1 e
    | exact zln2 e
    | cases e
theorem zl_tsw : zLno zo_tsw := by
  intro sx d a b c k l st h k' l' st' h' x y e
  unfold zo_tsw at e
  repeat' split at e
  all_goals first
    | exact zln0 e
    | exact zln1 e
    | exact zln2 e
    | cases e
theorem zl_all : ∀ o, zLno (z_ops.getD o z_no)
  | 0 => zl_const
  | 1 => zl_iload
  | 2 => zl_aload
  | 3 => zl_lload
  | 4 => zl_istore
  | 5 => zl_astore
  | 6 => zl_lstore
  | 7 => zl_iinc
  | 8 => zl_iadd
  | 9 => zl_isub
  | 10 => zl_imul
  | 11 => zl_idiv
  | 12 => zl_irem
  | 13 => zl_ishl
  | 14 => zl_ishr
  | 15 => zl_iushr
  | 16 => zl_iand
  | 17 => zl_ior
  | 18 => zl_ixor
  | 19 => zl_i2l
  | 20 => zl_l2i
  | 21 => zl_i2b
  | 22 => zl_ladd
  | 23 => zl_lmul
  | 24 => zl_ldiv
  | 25 => zl_lconst
  | 26 => zl_lcmp
  | 27 => zl_dup
  | 28 => zl_dup2
  | 29 => zl_pop
  | 30 => zl_goto
  | 31 => zl_if
  | 32 => zl_icmp
  | 33 => zl_ifnn
  | 34 => zl_lald
  | 35 => zl_tsw
  | 36 => zl_lsw2
  | 37 => zl_get
  | 38 => zl_put
  | 39 => zl_iald
  | 40 => zl_iast
  | 41 => zl_bald
  | 42 => zl_bast
  | 43 => zl_last
  | 44 => zl_aald
  | 45 => zl_aast
  | 46 => zl_alen
  | 47 => zl_newa
  | 48 => zl_anew
  | 49 => zl_new
  | 50 => zl_no
  | 51 => zl_no
  | 52 => zl_no
  | 53 => zl_no
  | 54 => zl_no
  | 55 => zl_no
  | 56 => zl_no
  | 57 => zl_oinit
  | 58 => zl_ldcs
  | 59 => zl_slength
  | 60 => zl_scharAt
  | 61 => zl_acopy
  | 62 => zl_no
  | 63 => zl_null
  | 64 => zl_no
  | 65 => zl_sald
  | 66 => zl_slen
  | 67 => zl_min
  | 68 => zl_max
  | 69 => zl_no
  | 70 => zl_clone
  | 71 => zl_cast
  | n + 72 => zl_no
theorem z_run_len (sx : zX) : ∀ (n d j k : Nat) (lo : zL) (st : List Value) (h : zH) (o : zO) (h' : zH) (x y : Nat), z_run sx n d j k lo st h = some (o, h', x, y) → h'.length ≤ h.length + x := by
  intro n
  induction n with
  | zero => intro d j k lo st h o h' x y hr; rw [z_run] at hr; cases hr
  | succ n ih =>
    intro d j k lo st h o h' x y hr
    rw [z_run] at hr
    cases hM : z_ms[j]? with
    | none => rw [hM] at hr; cases hr
    | some M =>
    cases hC : z_cs[j]? with
    | none => rw [hM, hC] at hr; cases hr
    | some cs =>
    cases hH : z_hs[j]? with
    | none => rw [hM, hC, hH] at hr; cases hr
    | some hs =>
    rw [hM, hC, hH] at hr
    dsimp only at hr
    cases hk : cs[k]? with
    | none => rw [hk] at hr; cases hr
    | some i =>
    rw [hk] at hr
    dsimp only at hr
    cases hf : z_fin M i d st with
    | some w =>
      rw [hf] at hr
      obtain ⟨w1, w2, w3⟩ := w
      simp only [Option.some.injEq, Prod.mk.injEq] at hr
      obtain ⟨-, rfl, -⟩ := hr
      omega
    | none =>
    rw [hf] at hr
    dsimp only at hr
    cases hc : z_cal i d st h with
    | some w =>
      obtain ⟨j', as, rest⟩ := w
      rw [hc] at hr
      dsimp only at hr
      cases hin : z_run sx n (d - 1) j' 0 (lv_args 0 as) [] h with
      | none => rw [hin] at hr; cases hr
      | some w =>
      obtain ⟨oi, h1, x1, y1⟩ := w
      rw [hin] at hr
      have k1 := ih _ _ _ _ _ _ _ _ _ _ hin
      cases oi with
      | inl v =>
        dsimp only at hr
        obtain ⟨a, b, e1, e2, e3⟩ := z_mapadd hr
        have k2 := ih _ _ _ _ _ _ _ _ _ _ e1
        omega
      | inr E =>
        dsimp only at hr
        by_cases hi : i.1 = 54
        case neg => rw [if_neg hi] at hr; cases hr
        rw [if_pos hi] at hr
        cases hfd : hs.find? (fun q => q.2.2.2.2.1 == E) with
        | some q =>
          rw [hfd] at hr
          dsimp only at hr
          obtain ⟨a, b, e1, e2, e3⟩ := z_mapadd hr
          have k2 := ih _ _ _ _ _ _ _ _ _ _ e1
          omega
        | none =>
          rw [hfd] at hr
          dsimp only at hr
          split at hr
          · simp only [Option.some.injEq, Prod.mk.injEq] at hr
            obtain ⟨-, rfl, rfl, -⟩ := hr
            exact k1
          · cases hr
    | none =>
    rw [hc] at hr
    dsimp only at hr
    cases ho : (z_ops.getD i.1 z_no) sx d i.2.1 i.2.2.1 i.2.2.2 k lo st h with
    | none => rw [ho] at hr; cases hr
    | some w =>
    obtain ⟨k', lo', st', h1, x1, y1⟩ := w
    rw [ho] at hr
    dsimp only at hr
    have k1 := zl_all i.1 _ _ _ _ _ _ _ _ _ _ _ _ _ _ _ ho
    obtain ⟨a, b, e1, e2, e3⟩ := z_mapadd hr
    have k2 := ih _ _ _ _ _ _ _ _ _ _ e1
    omega
theorem z_ok.len {sx : zX} {d j k : Nat} {lo : zL} {st : List Value} {h : zH} {Ψ : zO → zH → Nat → Nat → Prop} (H : z_ok sx d j k lo st h Ψ) : z_ok sx d j k lo st h (fun o h' x y => Ψ o h' x y ∧ h'.length ≤ h.length + x) := by
  obtain ⟨n, o, h', x, y, e, q⟩ := H
  exact ⟨n, o, h', x, y, e, q, z_run_len sx n d j k lo st h o h' x y e⟩
/-! pieces by the checker, to any end -/
section ZSG3
variable {tt : Nat → zTy} {Ex : List Nat → zH → Prop} {cts : List zCt} {cand : List (List Nat)} {own : Nat} {ct : zCt} {ty0 : List Nat} {h0 : zH} {ρ0 : List Value} {sx : zX} {d0 : Nat} {Φ : zO → zH → Nat → Nat → Prop}
theorem zxs_ok3 {stop hit : zSt → Bool} (hst : zStable tt Ex (zcM ct)) (hd : zcD ct ≤ d0) (hcts : ∀ c, c < own → ∀ c', cts[c]? = some c' → zVd tt Ex c') (hΦ : ∀ o h x y, zPo tt Ex ct ty0 h0 o h x y → Φ o h x y) (hcut : ∀ (s : zSt) (cf : List zCf) (h : zH) (X Y : Nat), zRl tt Ex ct ty0 h0 ρ0 s cf h X Y → hit s = true → zGo sx d0 Φ cf h X Y) : ∀ (n : Nat) (s : zSt) (cf : List zCf) (h : zH) (X Y : Nat), zRl tt Ex ct ty0 h0 ρ0 s cf h X Y → zxs tt cts cand own ct stop hit n s = true → zGo sx d0 Φ cf h X Y
  | 0, _, _, _, _, _, _, hq => by cases hq
  | n + 1, s, cf, h, X, Y, R, hq => by
    rw [zxs] at hq
    split at hq
    case h_1 => cases hq
    next l hl =>
    refine zstep_ok hst hd hcts R hl ⟨hΦ, fun s' hs' cf' h' X' Y' R' => ?_⟩
    have := List.all_eq_true.mp hq s' hs'
    split at this
    · exact hcut s' cf' h' X' Y' R' this
    · exact zxs_ok3 hst hd hcts hΦ hcut n s' cf' h' X' Y' R' this
end ZSG3
theorem zPo_no {ct : zCt} (h1 : zcR ct = [(0, 1, 0)]) (h2 : zcE ct = []) {ty0 : List Nat} {h0 : zH} (Φ : zO → zH → Nat → Nat → Prop) : ∀ o h x y, zPo z_tt zE1 ct ty0 h0 o h x y → Φ o h x y := by
  rintro o h x y ⟨ty', -, -, -, -, q⟩
  cases o with
  | inl v =>
    rw [h1] at q
    cases v with
    | none => exact q.1.elim
    | some v =>
      obtain ⟨u, -, u1, u2⟩ := q.1
      omega
  | inr E =>
    rw [h2] at q
    exact absurd q.1 List.not_mem_nil
theorem zseg3 {cts : List zCt} {cand : List (List Nat)} {own : Nat} {ct : zCt} {c0 : zCut} {gs : List zTg} {fuel : Nat} {ty0 : List Nat} {h0 : zH} {sx : zX} {d0 : Nat} {ty : List Nat} {lo : zL} {h : zH} {vl vm : List Value} {Φ : zO → zH → Nat → Nat → Prop} (hst : zStable z_tt zE1 (zcM ct)) (hd : zcD ct ≤ d0) (hcts : ∀ c, c < own → ∀ c', cts[c]? = some c' → zVd z_tt zE1 c') (hΦ : ∀ o h x y, zPo z_tt zE1 ct ty0 h0 o h x y → Φ o h x y) (hck : zxs z_tt cts cand own ct (zstop gs) (zht z_tt ct c0 gs) fuel (zc_st ct c0) = true) (a2 : zExt ty0 ty) (T : zTY z_tt ty h) (E : zE1 ty h) (F : zFm (zcM ct) ty0 h0 h) (H1 : zVl ty lo c0.2.1 vl) (H2 : zVm ty lo h c0.2.2.1 vm) (hcut : ∀ g ∈ gs, ∀ (ty' : List Nat) (lo' : zL) (h' : zH) (vl' vm' : List Value), zExt ty0 ty' → zTY z_tt ty' h' → zE1 ty' h' → zFm (zcM ct) ty0 h0 h' → zVl ty' lo' g.2.1 vl' → zVm ty' lo' h' g.2.2.1 vm' → (∀ q ∈ g.2.2.2, zcv2 lo' h' q.1 = zcv2 lo h q.2.1 + q.2.2) → zGo sx d0 Φ [(zcJ ct, g.1, lo', [])] h' 0 0) : zGo sx d0 Φ [(zcJ ct, c0.1, lo, [])] h 0 0 := by
  refine zxs_ok3 (ρ0 := vl ++ vm) hst hd hcts hΦ (fun s cf h' X Y R hh => ?_) fuel (zc_st ct c0) _ h 0 0 (zc_start a2 T E F H1 H2) hck
  obtain ⟨ty', ρ, a1, b2, b3, b4, b5, b6, b7, b10, b11, b12⟩ := R
  unfold zht at hh
  split at hh
  case h_2 => cases hh
  next f hf =>
  rw [hf] at b10
  match cf, b10 with
  | [(j, k, lo', st)], b10 =>
  obtain ⟨c1, c2, c3, c4, -⟩ := b10
  obtain ⟨g, hg, h9⟩ := List.any_eq_true.mp hh
  unfold zht1 at h9
  simp only [Bool.and_eq_true, decide_eq_true_eq] at h9
  obtain ⟨d1, d2, d3, d4, d5, d6, d7, d8⟩ := h9
  obtain ⟨vl', hvl⟩ := za_l_ok b6 c3 d6
  obtain ⟨vm', hvm⟩ := za_m_ok b3 b6 b7 c3 d7
  have hst9 : st = [] := by
    rw [List.isEmpty_iff.mp d3] at c4
    cases st with
    | nil => rfl
    | cons _ _ => exact c4.elim
  subst hst9
  dsimp only at c1 c2
  have e1 : X = 0 := by omega
  have e2 : Y = 0 := by omega
  subst e1
  subst e2
  have := hcut g hg ty' lo' h' vl' vm' b2 b3 b4 b5 hvl hvm (fun q hq => zdq_ok b6 c3 b7 a1 (zc_lo H1) (zc_mm H1 H2) (List.all_eq_true.mp d8 q hq))
  rw [← c1, ← c2, ← d1, d2]
  exact this
/-! the lengths of the two tapes -/
noncomputable def zTp (ty : List Nat) (h : zH) (ax : Nat) (n : Int) : Prop := ∃ (e1 e2 : zE) (t : Nat) (x : Int32), h[ax]? = some e1 ∧ z_rd e1 0 = some (.ref t) ∧ ty[t]? = some 2 ∧ h[t]? = some e2 ∧ z_rd e2 1 = some (.int x) ∧ x.toInt = n
noncomputable def zMp (h : zH) (am : Nat) (n : Int) : Prop := ∃ (e : zE) (x : Int32), h[am]? = some e ∧ z_rd e 9 = some (.int x) ∧ x.toInt = n
theorem zat_ex {ty ty' : List Nat} {h h' : zH} {a t : Nat} (T' : zTY z_tt ty' h') (X : zExt ty ty') (ha : ty[a]? = some t) : ∃ e, h'[a]? = some e := by
  have hl : a < h'.length := by rw [← T'.1]; exact (List.getElem?_eq_some_iff.mp (X a t ha)).1
  exact ⟨_, List.getElem?_eq_getElem hl⟩
theorem zTp.keep {ms : List zMod} {ty ty' : List Nat} {h h' : zH} {ax : Nat} {n : Int} (H : zTp ty h ax n) (ha : ty[ax]? = some 1) (T' : zTY z_tt ty' h') (X : zExt ty ty') (F : zFm ms ty h h') (h1 : ¬ zIn ms 1 0) (h2 : ¬ zIn ms 2 1) : zTp ty' h' ax n := by
  obtain ⟨e1, e2, t, x, a1, a2, a3, a4, a5, a6⟩ := H
  obtain ⟨f1, b1⟩ := zat_ex (h := h) T' X ha
  obtain ⟨f2, b2⟩ := zat_ex (h := h) T' X a3
  exact ⟨f1, f2, t, x, b1, (F.2 ax 1 e1 f1 ha a1 b1 0 h1).trans a2, X t 2 a3, b2, (F.2 t 2 e2 f2 a3 a4 b2 1 h2).trans a5, a6⟩
theorem zMp.keep {ms : List zMod} {ty ty' : List Nat} {h h' : zH} {am : Nat} {n : Int} (H : zMp h am n) (ha : ty[am]? = some 20) (T' : zTY z_tt ty' h') (X : zExt ty ty') (F : zFm ms ty h h') (h1 : ¬ zIn ms 20 9) : zMp h' am n := by
  obtain ⟨e1, x, a1, a2, a3⟩ := H
  obtain ⟨f1, b1⟩ := zat_ex (h := h) T' X ha
  exact ⟨f1, x, b1, (F.2 am 20 e1 f1 ha a1 b1 9 h1).trans a2, a3⟩
theorem zNi.mp {h : zH} {a : Nat} (H : zNi h a) : zMp h a 0 := by
  obtain ⟨fs, he, h9⟩ := H
  exact ⟨_, 0, he, h9, rfl⟩
/-- the tape, read -/
theorem zTp.at {ty : List Nat} {h : zH} {ax : Nat} {n : Int} (T : zTY z_tt ty h) (ha : ty[ax]? = some 1) (H : zTp ty h ax n) : ∃ (fs ts : List Value) (t : Nat) (x : Int32), h[ax]? = some (.inr (8, fs)) ∧ fs.length = 8 ∧ fs[0]? = some (.ref t) ∧ ty[t]? = some 2 ∧ h[t]? = some (.inr (6, ts)) ∧ ts.length = 4 ∧ ts[1]? = some (.int x) ∧ x.toInt = n := by
  obtain ⟨e1, e2, t, x, a1, a2, a3, a4, a5, a6⟩ := H
  obtain ⟨fs, b1, b2⟩ := zcell0 (c := 8) (n := 8) T ha rfl rfl rfl
  obtain ⟨ts, c1, c2⟩ := zcell0 (c := 6) (n := 4) T a3 rfl rfl rfl
  rw [b1] at a1
  cases a1
  rw [c1] at a4
  cases a4
  exact ⟨fs, ts, t, x, b1, b2, a2, a3, c1, c2, a5, a6⟩
