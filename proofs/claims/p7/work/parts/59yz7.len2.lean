/-! a run of a method that makes no cells; printed with wip/gen/gen_dq.py -/
noncomputable def zBadj : List Nat := [7, 22, 41, 46, 48, 55, 61, 84, 100, 117, 121, 179, 314, 316, 343]
noncomputable def zNa (j : Nat) : Bool := !(zBadj.elem j)
noncomputable def zNai (i : zI) : Bool := decide (i.1 ≠ 47 ∧ i.1 ≠ 48 ∧ i.1 ≠ 49 ∧ i.1 ≠ 70) && (decide (i.1 ≠ 54 ∧ i.1 ≠ 55 ∧ i.1 ≠ 72 ∧ i.1 ≠ 56 ∧ i.1 ≠ 73) || zNa i.2.1)
theorem zNa_all : (List.range z_cs.length).all (fun j => zBadj.elem j || (z_cs.getD j []).all zNai) = true := by decide +kernel
noncomputable def zLnq (o : zNop) : Prop := ∀ (sx : zX) (d a b : Nat) (c : Int) (k : Nat) (l : zL) (st : List Value) (h : zH) (k' : Nat) (l' : zL) (st' : List Value) (h' : zH) (x y : Nat), o sx d a b c k l st h = some (k', l', st', h', x, y) → h'.length = h.length
theorem zlq0 {k k' : Nat} {l l' : zL} {st st' : List Value} {h h' : zH} {x y : Nat} (e : zn k l st h = some (k', l', st', h', x, y)) : h'.length = h.length := by
  obtain ⟨-, -, -, rfl, -⟩ := zn_inj e
  rfl
theorem zlq1 {k k' i : Nat} {l l' : zL} {st st' : List Value} {h h' : zH} {v : zE} {x y : Nat} (e : zn k l st (h.set i v) = some (k', l', st', h', x, y)) : h'.length = h.length := by
  obtain ⟨-, -, -, rfl, -⟩ := zn_inj e
  rw [List.length_set]
theorem zlq_no : zLnq z_no := fun _ _ _ _ _ _ _ _ _ _ _ _ _ _ _ e => by cases e
theorem zlq_const : zLnq zo_const := by
  intro sx d a b c k l st h k' l' st' h' x y e
  unfold zo_const at e
  repeat' split at e
  all_goals first
    | exact zlq0 e
    | exact zlq1 e
    | cases e
theorem zlq_iload : zLnq zo_iload := by
  intro sx d a b c k l st h k' l' st' h' x y e
  unfold zo_iload at e
  repeat' split at e
  all_goals first
    | exact zlq0 e
    | exact zlq1 e
    | cases e
theorem zlq_aload : zLnq zo_aload := by
  intro sx d a b c k l st h k' l' st' h' x y e
  unfold zo_aload at e
  repeat' split at e
  all_goals first
    | exact zlq0 e
    | exact zlq1 e
    | cases e
theorem zlq_lload : zLnq zo_lload := by
  intro sx d a b c k l st h k' l' st' h' x y e
  unfold zo_lload at e
  repeat' split at e
  all_goals first
    | exact zlq0 e
    | exact zlq1 e
    | cases e
theorem zlq_istore : zLnq zo_istore := by
  intro sx d a b c k l st h k' l' st' h' x y e
  unfold zo_istore at e
  repeat' split at e
  all_goals first
    | exact zlq0 e
    | exact zlq1 e
    | cases e
theorem zlq_astore : zLnq zo_astore := by
  intro sx d a b c k l st h k' l' st' h' x y e
  unfold zo_astore at e
  repeat' split at e
  all_goals first
    | exact zlq0 e
    | exact zlq1 e
    | cases e
theorem zlq_lstore : zLnq zo_lstore := by
  intro sx d a b c k l st h k' l' st' h' x y e
  unfold zo_lstore at e
  repeat' split at e
  all_goals first
    | exact zlq0 e
    | exact zlq1 e
    | cases e
theorem zlq_iinc : zLnq zo_iinc := by
  intro sx d a b c k l st h k' l' st' h' x y e
  unfold zo_iinc at e
  repeat' split at e
  all_goals first
    | exact zlq0 e
    | exact zlq1 e
    | cases e
theorem zlq_iadd : zLnq zo_iadd := by
  intro sx d a b c k l st h k' l' st' h' x y e
  unfold zo_iadd at e
  repeat' split at e
  all_goals first
    | exact zlq0 e
    | exact zlq1 e
    | cases e
theorem zlq_isub : zLnq zo_isub := by
  intro sx d a b c k l st h k' l' st' h' x y e
  unfold zo_isub at e
  repeat' split at e
  all_goals first
    | exact zlq0 e
    | exact zlq1 e
    | cases e
theorem zlq_imul : zLnq zo_imul := by
  intro sx d a b c k l st h k' l' st' h' x y e
  unfold zo_imul at e
  repeat' split at e
  all_goals first
    | exact zlq0 e
    | exact zlq1 e
    | cases e
theorem zlq_idiv : zLnq zo_idiv := by
  intro sx d a b c k l st h k' l' st' h' x y e
  unfold zo_idiv at e
  repeat' split at e
  all_goals first
    | exact zlq0 e
    | exact zlq1 e
    | cases e
theorem zlq_irem : zLnq zo_irem := by
  intro sx d a b c k l st h k' l' st' h' x y e
  unfold zo_irem at e
  repeat' split at e
  all_goals first
    | exact zlq0 e
    | exact zlq1 e
    | cases e
theorem zlq_ishl : zLnq zo_ishl := by
  intro sx d a b c k l st h k' l' st' h' x y e
  unfold zo_ishl at e
  repeat' split at e
  all_goals first
    | exact zlq0 e
    | exact zlq1 e
    | cases e
theorem zlq_ishr : zLnq zo_ishr := by
  intro sx d a b c k l st h k' l' st' h' x y e
  unfold zo_ishr at e
  repeat' split at e
  all_goals first
    | exact zlq0 e
    | exact zlq1 e
    | cases e
theorem zlq_iushr : zLnq zo_iushr := by
  intro sx d a b c k l st h k' l' st' h' x y e
  unfold zo_iushr at e
  repeat' split at e
  all_goals first
    | exact zlq0 e
    | exact zlq1 e
    | cases e
theorem zlq_iand : zLnq zo_iand := by
  intro sx d a b c k l st h k' l' st' h' x y e
  unfold zo_iand at e
  repeat' split at e
  all_goals first
    | exact zlq0 e
    | exact zlq1 e
    | cases e
theorem zlq_ior : zLnq zo_ior := by
  intro sx d a b c k l st h k' l' st' h' x y e
  unfold zo_ior at e
  repeat' split at e
  all_goals first
    | exact zlq0 e
    | exact zlq1 e
    | cases e
theorem zlq_ixor : zLnq zo_ixor := by
  intro sx d a b c k l st h k' l' st' h' x y e
  unfold zo_ixor at e
  repeat' split at e
  all_goals first
    | exact zlq0 e
    | exact zlq1 e
    | cases e
theorem zlq_i2l : zLnq zo_i2l := by
  intro sx d a b c k l st h k' l' st' h' x y e
  unfold zo_i2l at e
  repeat' split at e
  all_goals first
    | exact zlq0 e
    | exact zlq1 e
    | cases e
theorem zlq_l2i : zLnq zo_l2i := by
  intro sx d a b c k l st h k' l' st' h' x y e
  unfold zo_l2i at e
  repeat' split at e
  all_goals first
    | exact zlq0 e
    | exact zlq1 e
    | cases e
theorem zlq_i2b : zLnq zo_i2b := by
  intro sx d a b c k l st h k' l' st' h' x y e
  unfold zo_i2b at e
  repeat' split at e
  all_goals first
    | exact zlq0 e
    | exact zlq1 e
    | cases e
theorem zlq_ladd : zLnq zo_ladd := by
  intro sx d a b c k l st h k' l' st' h' x y e
  unfold zo_ladd at e
  repeat' split at e
  all_goals first
    | exact zlq0 e
    | exact zlq1 e
    | cases e
theorem zlq_lmul : zLnq zo_lmul := by
  intro sx d a b c k l st h k' l' st' h' x y e
  unfold zo_lmul at e
  repeat' split at e
  all_goals first
    | exact zlq0 e
    | exact zlq1 e
    | cases e
theorem zlq_ldiv : zLnq zo_ldiv := by
  intro sx d a b c k l st h k' l' st' h' x y e
  unfold zo_ldiv at e
  repeat' split at e
  all_goals first
    | exact zlq0 e
    | exact zlq1 e
    | cases e
theorem zlq_lconst : zLnq zo_lconst := by
  intro sx d a b c k l st h k' l' st' h' x y e
  unfold zo_lconst at e
  repeat' split at e
  all_goals first
    | exact zlq0 e
    | exact zlq1 e
    | cases e
theorem zlq_lcmp : zLnq zo_lcmp := by
  intro sx d a b c k l st h k' l' st' h' x y e
  unfold zo_lcmp at e
  repeat' split at e
  all_goals first
    | exact zlq0 e
    | exact zlq1 e
    | cases e
theorem zlq_dup : zLnq zo_dup := by
  intro sx d a b c k l st h k' l' st' h' x y e
  unfold zo_dup at e
  repeat' split at e
  all_goals first
    | exact zlq0 e
    | exact zlq1 e
    | cases e
theorem zlq_dup2 : zLnq zo_dup2 := by
  intro sx d a b c k l st h k' l' st' h' x y e
  unfold zo_dup2 at e
  repeat' split at e
  all_goals first
    | exact zlq0 e
    | exact zlq1 e
    | cases e
theorem zlq_pop : zLnq zo_pop := by
  intro sx d a b c k l st h k' l' st' h' x y e
  unfold zo_pop at e
  repeat' split at e
  all_goals first
    | exact zlq0 e
    | exact zlq1 e
    | cases e
theorem zlq_goto : zLnq zo_goto := by
  intro sx d a b c k l st h k' l' st' h' x y e
  unfold zo_goto at e
  repeat' split at e
  all_goals first
    | exact zlq0 e
    | exact zlq1 e
    | cases e
theorem zlq_if : zLnq zo_if := by
  intro sx d a b c k l st h k' l' st' h' x y e
  unfold zo_if at e
  repeat' split at e
  all_goals first
    | exact zlq0 e
    | exact zlq1 e
    | cases e
theorem zlq_icmp : zLnq zo_icmp := by
  intro sx d a b c k l st h k' l' st' h' x y e
  unfold zo_icmp at e
  repeat' split at e
  all_goals first
    | exact zlq0 e
    | exact zlq1 e
    | cases e
theorem zlq_ifnn : zLnq zo_ifnn := by
  intro sx d a b c k l st h k' l' st' h' x y e
  unfold zo_ifnn at e
  repeat' split at e
  all_goals first
    | exact zlq0 e
    | exact zlq1 e
    | cases e
theorem zlq_lald : zLnq zo_lald := by
  intro sx d a b c k l st h k' l' st' h' x y e
  unfold zo_lald at e
  repeat' split at e
  all_goals first
    | exact zlq0 e
    | exact zlq1 e
    | cases e
theorem zlq_tsw : zLnq zo_tsw := by
  intro sx d a b c k l st h k' l' st' h' x y e
  unfold zo_tsw at e
  repeat' split at e
  all_goals first
    | exact zlq0 e
    | exact zlq1 e
    | cases e
theorem zlq_lsw2 : zLnq zo_lsw2 := by
  intro sx d a b c k l st h k' l' st' h' x y e
  unfold zo_lsw2 at e
  repeat' split at e
  all_goals first
    | exact zlq0 e
    | exact zlq1 e
    | cases e
theorem zlq_get : zLnq zo_get := by
  intro sx d a b c k l st h k' l' st' h' x y e
  unfold zo_get at e
  repeat' split at e
  all_goals first
    | exact zlq0 e
    | exact zlq1 e
    | cases e
theorem zlq_put : zLnq zo_put := by
  intro sx d a b c k l st h k' l' st' h' x y e
  unfold zo_put at e
  repeat' split at e
  all_goals first
    | exact zlq0 e
    | exact zlq1 e
    | cases e
theorem zlq_iald : zLnq zo_iald := by
  intro sx d a b c k l st h k' l' st' h' x y e
  unfold zo_iald at e
  repeat' split at e
  all_goals first
    | exact zlq0 e
    | exact zlq1 e
    | cases e
theorem zlq_iast : zLnq zo_iast := by
  intro sx d a b c k l st h k' l' st' h' x y e
  unfold zo_iast at e
  repeat' split at e
  all_goals first
    | exact zlq0 e
    | exact zlq1 e
    | cases e
theorem zlq_bald : zLnq zo_bald := by
  intro sx d a b c k l st h k' l' st' h' x y e
  unfold zo_bald at e
  repeat' split at e
  all_goals first
    | exact zlq0 e
    | exact zlq1 e
    | cases e
theorem zlq_bast : zLnq zo_bast := by
  intro sx d a b c k l st h k' l' st' h' x y e
  unfold zo_bast at e
  repeat' split at e
  all_goals first
    | exact zlq0 e
    | exact zlq1 e
    | cases e
theorem zlq_last : zLnq zo_last := by
  intro sx d a b c k l st h k' l' st' h' x y e
  unfold zo_last at e
  repeat' split at e
  all_goals first
    | exact zlq0 e
    | exact zlq1 e
    | cases e
theorem zlq_aald : zLnq zo_aald := by
  intro sx d a b c k l st h k' l' st' h' x y e
  unfold zo_aald at e
  repeat' split at e
  all_goals first
    | exact zlq0 e
    | exact zlq1 e
    | cases e
theorem zlq_aast : zLnq zo_aast := by
  intro sx d a b c k l st h k' l' st' h' x y e
  unfold zo_aast at e
  repeat' split at e
  all_goals first
    | exact zlq0 e
    | exact zlq1 e
    | cases e
theorem zlq_alen : zLnq zo_alen := by
  intro sx d a b c k l st h k' l' st' h' x y e
  unfold zo_alen at e
  repeat' split at e
  all_goals first
    | exact zlq0 e
    | exact zlq1 e
    | cases e
theorem zlq_oinit : zLnq zo_oinit := by
  intro sx d a b c k l st h k' l' st' h' x y e
  unfold zo_oinit at e
  repeat' split at e
  all_goals first
    | exact zlq0 e
    | exact zlq1 e
    | cases e
theorem zlq_ldcs : zLnq zo_ldcs := by
  intro sx d a b c k l st h k' l' st' h' x y e
  unfold zo_ldcs at e
  repeat' split at e
  all_goals first
    | exact zlq0 e
    | exact zlq1 e
    | cases e
theorem zlq_slength : zLnq zo_slength := by
  intro sx d a b c k l st h k' l' st' h' x y e
  unfold zo_slength at e
  repeat' split at e
  all_goals first
    | exact zlq0 e
    | exact zlq1 e
    | cases e
theorem zlq_scharAt : zLnq zo_scharAt := by
  intro sx d a b c k l st h k' l' st' h' x y e
  unfold zo_scharAt at e
  repeat' split at e
  all_goals first
    | exact zlq0 e
    | exact zlq1 e
    | cases e
theorem zlq_acopy : zLnq zo_acopy := by
  intro sx d a b c k l st h k' l' st' h' x y e
  unfold zo_acopy at e
  repeat' split at e
  all_goals first
    | exact zlq0 e
    | exact zlq1 e
    | cases e
theorem zlq_null : zLnq zo_null := by
  intro sx d a b c k l st h k' l' st' h' x y e
  unfold zo_null at e
  repeat' split at e
  all_goals first
    | exact zlq0 e
    | exact zlq1 e
    | cases e
theorem zlq_sald : zLnq zo_sald := by
  intro sx d a b c k l st h k' l' st' h' x y e
  unfold zo_sald at e
  repeat' split at e
  all_goals first
    | exact zlq0 e
    | exact zlq1 e
    | cases e
theorem zlq_slen : zLnq zo_slen := by
  intro sx d a b c k l st h k' l' st' h' x y e
  unfold zo_slen at e
  repeat' split at e
  all_goals first
    | exact zlq0 e
    | exact zlq1 e
    | cases e
theorem zlq_min : zLnq zo_min := by
  intro sx d a b c k l st h k' l' st' h' x y e
  unfold zo_min at e
  repeat' split at e
  all_goals first
    | exact zlq0 e
    | exact zlq1 e
    | cases e
theorem zlq_max : zLnq zo_max := by
  intro sx d a b c k l st h k' l' st' h' x y e
  unfold zo_max at e
  repeat' split at e
  all_goals first
    | exact zlq0 e
    | exact zlq1 e
    | cases e
theorem zlq_cast : zLnq zo_cast := by
  intro sx d a b c k l st h k' l' st' h' x y e
  unfold zo_cast at e
  repeat' split at e
  all_goals first
    | exact zlq0 e
    | exact zlq1 e
    | cases e
theorem zlq_all : ∀ o, (o ≠ 47 ∧ o ≠ 48 ∧ o ≠ 49 ∧ o ≠ 70) → zLnq (z_ops.getD o z_no)
  | 0, _ => zlq_const
  | 1, _ => zlq_iload
  | 2, _ => zlq_aload
  | 3, _ => zlq_lload
  | 4, _ => zlq_istore
  | 5, _ => zlq_astore
  | 6, _ => zlq_lstore
  | 7, _ => zlq_iinc
  | 8, _ => zlq_iadd
  | 9, _ => zlq_isub
  | 10, _ => zlq_imul
  | 11, _ => zlq_idiv
  | 12, _ => zlq_irem
  | 13, _ => zlq_ishl
  | 14, _ => zlq_ishr
  | 15, _ => zlq_iushr
  | 16, _ => zlq_iand
  | 17, _ => zlq_ior
  | 18, _ => zlq_ixor
  | 19, _ => zlq_i2l
  | 20, _ => zlq_l2i
  | 21, _ => zlq_i2b
  | 22, _ => zlq_ladd
  | 23, _ => zlq_lmul
  | 24, _ => zlq_ldiv
  | 25, _ => zlq_lconst
  | 26, _ => zlq_lcmp
  | 27, _ => zlq_dup
  | 28, _ => zlq_dup2
  | 29, _ => zlq_pop
  | 30, _ => zlq_goto
  | 31, _ => zlq_if
  | 32, _ => zlq_icmp
  | 33, _ => zlq_ifnn
  | 34, _ => zlq_lald
  | 35, _ => zlq_tsw
  | 36, _ => zlq_lsw2
  | 37, _ => zlq_get
  | 38, _ => zlq_put
  | 39, _ => zlq_iald
  | 40, _ => zlq_iast
  | 41, _ => zlq_bald
  | 42, _ => zlq_bast
  | 43, _ => zlq_last
  | 44, _ => zlq_aald
  | 45, _ => zlq_aast
  | 46, _ => zlq_alen
  | 47, h => absurd rfl h.1
  | 48, h => absurd rfl h.2.1
  | 49, h => absurd rfl h.2.2.1
  | 50, _ => zlq_no
  | 51, _ => zlq_no
  | 52, _ => zlq_no
  | 53, _ => zlq_no
  | 54, _ => zlq_no
  | 55, _ => zlq_no
  | 56, _ => zlq_no
  | 57, _ => zlq_oinit
  | 58, _ => zlq_ldcs
  | 59, _ => zlq_slength
  | 60, _ => zlq_scharAt
  | 61, _ => zlq_acopy
  | 62, _ => zlq_no
  | 63, _ => zlq_null
  | 64, _ => zlq_no
  | 65, _ => zlq_sald
  | 66, _ => zlq_slen
  | 67, _ => zlq_min
  | 68, _ => zlq_max
  | 69, _ => zlq_no
  | 70, h => absurd rfl h.2.2.2
  | 71, _ => zlq_cast
  | n + 72, _ => zlq_no
theorem z_run_lenq (sx : zX) : ∀ (n d j k : Nat) (lo : zL) (st : List Value) (h : zH) (o : zO) (h' : zH) (x y : Nat), zNa j = true → z_run sx n d j k lo st h = some (o, h', x, y) → h'.length = h.length := by
  intro n
  induction n with
  | zero => intro d j k lo st h o h' x y _ hr; rw [z_run] at hr; cases hr
  | succ n ih =>
    intro d j k lo st h o h' x y hj hr
    rw [z_run] at hr
    cases hM : z_ms[j]? with
    | none => rw [hM] at hr; cases hr
    | some M =>
    cases hC : z_cs[j]? with
    | none => rw [hM, hC] at hr; cases hr
    | some cs =>
    cases hH : z_hs[j]? with
    | none => rw [hM, hC, hH] at hr; cases hr
    | some hs =>
    rw [hM, hC, hH] at hr
    dsimp only at hr
    cases hk : cs[k]? with
    | none => rw [hk] at hr; cases hr
    | some i =>
    have hno : zNai i = true := by
      have h1 := List.all_eq_true.mp zNa_all j (List.mem_range.mpr (List.getElem?_eq_some_iff.mp hC).1)
      unfold zNa at hj
      rw [Bool.not_eq_true'] at hj
      rw [hj, Bool.false_or, List.getD_eq_getElem?_getD, hC] at h1
      exact List.all_eq_true.mp h1 i (List.mem_of_getElem? hk)
    unfold zNai at hno
    rw [Bool.and_eq_true, Bool.or_eq_true, decide_eq_true_eq, decide_eq_true_eq] at hno
    obtain ⟨n1, n3⟩ := hno
    rw [hk] at hr
    dsimp only at hr
    cases hf : z_fin M i d st with
    | some w =>
      rw [hf] at hr
      obtain ⟨w1, w2, w3⟩ := w
      simp only [Option.some.injEq, Prod.mk.injEq] at hr
      obtain ⟨-, rfl, -⟩ := hr
      rfl
    | none =>
    rw [hf] at hr
    dsimp only at hr
    cases hc : z_cal i d st h with
    | some w =>
      obtain ⟨j', as, rest⟩ := w
      have hj' : zNa j' = true := by
        have e1 := (z_cal_in hc).1
        have e2 := z_cal_no e1
        have e3 : j' = i.2.1 := by
          clear hr
          unfold z_cal0 at e1
          repeat' split at e1
          all_goals first
            | (simp only [Option.some.injEq, Prod.mk.injEq] at e1; exact e1.1.symm)
            | cases e1
        rw [e3]
        rcases n3 with n3 | n3
        · omega
        · exact n3
      rw [hc] at hr
      dsimp only at hr
      cases hin : z_run sx n (d - 1) j' 0 (lv_args 0 as) [] h with
      | none => rw [hin] at hr; cases hr
      | some w =>
      obtain ⟨oi, h1, x1, y1⟩ := w
      rw [hin] at hr
      have k1 := ih _ _ _ _ _ _ _ _ _ _ hj' hin
      cases oi with
      | inl v =>
        dsimp only at hr
        obtain ⟨a, b, e1, e2, e3⟩ := z_mapadd hr
        have k2 := ih _ _ _ _ _ _ _ _ _ _ hj e1
        omega
      | inr E =>
        dsimp only at hr
        by_cases hi : i.1 = 54
        case neg => rw [if_neg hi] at hr; cases hr
        rw [if_pos hi] at hr
        cases hfd : hs.find? (fun q => q.2.2.2.2.1 == E) with
        | some q =>
          rw [hfd] at hr
          dsimp only at hr
          obtain ⟨a, b, e1, e2, e3⟩ := z_mapadd hr
          have k2 := ih _ _ _ _ _ _ _ _ _ _ hj e1
          omega
        | none =>
          rw [hfd] at hr
          dsimp only at hr
          split at hr
          · simp only [Option.some.injEq, Prod.mk.injEq] at hr
            obtain ⟨-, rfl, rfl, -⟩ := hr
            exact k1
          · cases hr
    | none =>
    rw [hc] at hr
    dsimp only at hr
    cases ho : (z_ops.getD i.1 z_no) sx d i.2.1 i.2.2.1 i.2.2.2 k lo st h with
    | none => rw [ho] at hr; cases hr
    | some w =>
    obtain ⟨k', lo', st', h1, x1, y1⟩ := w
    rw [ho] at hr
    dsimp only at hr
    have k1 := zlq_all i.1 n1 _ _ _ _ _ _ _ _ _ _ _ _ _ _ _ ho
    obtain ⟨a, b, e1, e2, e3⟩ := z_mapadd hr
    have k2 := ih _ _ _ _ _ _ _ _ _ _ hj e1
    omega
theorem z_ok.lenq {sx : zX} {d j k : Nat} {lo : zL} {st : List Value} {h : zH} {Ψ : zO → zH → Nat → Nat → Prop} (hj : zNa j = true) (H : z_ok sx d j k lo st h Ψ) : z_ok sx d j k lo st h (fun o h' x y => Ψ o h' x y ∧ h'.length = h.length) := by
  obtain ⟨n, o, h', x, y, e, q⟩ := H
  exact ⟨n, o, h', x, y, e, q, z_run_lenq sx n d j k lo st h o h' x y hj e⟩
