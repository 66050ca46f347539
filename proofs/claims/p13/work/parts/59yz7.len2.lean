section
/-! a run of a method that makes no cells; printed with wip/gen/gen_dq.py -/
noncomputable def zBadj : List Nat := [7, 22, 41, 46, 48, 55, 61, 84, 100, 117, 121, 179, 314, 316, 343]
noncomputable def zNa (j : Nat) : Bool := !(zBadj.elem j)
noncomputable def zNai (i : zI) : Bool := decide (i.1 ≠ 47 ∧ i.1 ≠ 48 ∧ i.1 ≠ 49 ∧ i.1 ≠ 70) && (decide (i.1 ≠ 54 ∧ i.1 ≠ 55 ∧ i.1 ≠ 72 ∧ i.1 ≠ 56 ∧ i.1 ≠ 73) || zNa i.2.1)
theorem zNa_all : (List.range z_cs.length).all (fun j => zBadj.elem j || (z_cs.getD j []).all zNai) = true := by decide +kernel
noncomputable def zLnq (o : zNop) : Prop := ∀ (sx : zX) (d a b : Nat) (c : Int) (k : Nat) (l : zL) (st : List Value) (h : zH) (k' : Nat) (l' : zL) (st' : List Value) (h' : zH) (x y : Nat), o sx d a b c k l st h = some (k', l', st', h', x, y) → h'.length = h.length
theorem zlq0 {k k' : Nat} {l l' : zL} {st st' : List Value} {h h' : zH} {x y : Nat} (e : zn k l st h = some (k', l', st', h', x, y)) : h'.length = h.length := by
  obtain ⟨-, -, -, rfl, -⟩ := zn_inj e
  rfl
theorem zlq1 {k k' i : Nat} {l l' : zL} {st st' : List Value} {h h' : zH} {v : zE} {x y : Nat} (e : zn k l st (h.set i v) = some (k', l', st', h', x, y)) : h'.length = h.length := by
  obtain ⟨-, -, -, rfl, -⟩ := zn_inj e
  rw [List.length_set]
theorem zlq_no : zLnq z_no := fun _ _ _ _ _ _ _ _ _ _ _ _ _ _ _ e => by cases e
theorem zlq_const : zLnq zo_const := by
  intro sx d a b c k l st h k' l' st' h' x y e
  unfold zo_const at e
  repeat' split at e
  all_goals first
    | exact zlq0 e
    | exact zlq1 e
    | cases e
theorem zlq_iload : zLnq zo_iload := by
  intro sx d a b c k l st h k' l' st' h' x y e
  unfold zo_iload at e
  repeat' split at e
  all_goals first
    | exact zlq0 e
    | exact zlq1 e
    | cases e
theorem zlq_aload : zLnq zo_aload := by
  intro sx d a b c k l st h k' l' st' h' x y e
  unfold zo_aload at e
  repeat' split at e
  all_goals first
    | exact zlq0 e
    | exact zlq1 e
    | cases e
theorem zlq_lload : zLnq zo_lload := by
  intro sx d a b c k l st h k' l' st' h' x y e
  unfold zo_lload at e
  repeat' split at e
  all_goals first
    | exact zlq0 e
    | exact zlq1 e
    | cases e
theorem zlq_istore : zLnq zo_istore := by
  intro sx d a b c k l st h k' l' st' h' x y e
  unfold zo_istore at e
  repeat' split at e
  all_goals first
    | exact zlq0 e
    | exact zlq1 e
    | cases e
theorem zlq_astore : zLnq zo_astore := by
  intro sx d a b c k l st h k' l' st' h' x y e
  unfold zo_astore at e
  repeat' split at e
  all_goals first
    | exact zlq0 e
    | exact zlq1 e
    | cases e
theorem zlq_lstore : zLnq zo_lstore := by
  intro sx d a b c k l st h k' l' st' h' x y e
  unfold zo_lstore at e
  repeat' split at e
  all_goals first
    | exact zlq0 e
    | exact zlq1 e
    | cases e
theorem zlq_iinc : zLnq zo_iinc := by
  intro sx d a b c k l st h k' l' st' h' x y e
  unfold zo_iinc at e
  repeat' split at e
  all_goals first
    | exact zlq0 e
    | exact zlq1 e
    | cases e
theorem zlq_iadd : zLnq zo_iadd := by
  intro sx d a b c k l st h k' l' st' h' x y e
  unfold zo_iadd at e
  repeat' split at e
  all_goals first
    | exact zlq0 e
    | exact zlq1 e
    | cases e
theorem zlq_isub : zLnq zo_isub := by
  intro sx d a b c k l st h k' l' st' h' x y e
  unfold zo_isub at e
  repeat' split at e
  all_goals first
    | exact zlq0 e
    | exact zlq1 e
    | cases e
theorem zlq_imul : zLnq zo_imul := by
  intro sx d a b c k l st h k' l' st' h' x y e
  unfold zo_imul at e
  repeat' split at e
  all_goals first
    | exact zlq0 e
    | exact zlq1 e
    | cases e
theorem zlq_idiv : zLnq zo_idiv := by
  intro sx d a b c k l st h k' l' st' h' x y e
  unfold zo_idiv at e
  repeat' split at e
  all_goals first
    | exact zlq0 e
    | exact zlq1 e
    | cases e
theorem zlq_irem : zLnq zo_irem := by
  intro sx d a b c k l st h k' l' st' h' x y e
  unfold zo_irem at e
  repeat' split at e
  all_goals first
    | exact zlq0 e
    | exact zlq1 e
    | cases e
theorem zlq_ishl : zLnq zo_ishl := by
  intro sx d a b c k l st h k' l' st' h' x y e
  unfold zo_ishl at e
  repeat' split at e
  all_goals first
    | exact zlq0 e
    | exact zlq1 e
    | cases e
theorem zlq_ishr : zLnq zo_ishr := by
  intro sx d a b c k l st h k' l' st' h' x y e
  unfold zo_ishr at e
  repeat' split at e
  all_goals first
    | exact zlq0 e
    | exact zlq1 e
    | cases e
theorem zlq_iushr : zLnq zo_iushr := by
  intro sx d a b c k l st h k' l' st' h' x y e
  unfold zo_iushr at e
  repeat' split at e
  all_goals first
    | exact zlq0 e
    | exact zlq1 e
    | cases e
theorem zlq_iand : zLnq zo_iand := by
  intro sx d a b c k l st h k' l' st' h' x y e
  unfold zo_iand at e
  repeat' split at e
  all_goals first
    | exact zlq0 e
    | exact zlq1 e
    | cases e
theorem zlq_ior : zLnq zo_ior := by
  intro sx d a b c k l st h k' l' st' h' x y e
  unfold zo_ior at e
  repeat' split at e
  all_goals first
    | exact zlq0 e
    | exact zlq1 e
    | cases e
theorem zlq_ixor : zLnq zo_ixor := by
  intro sx d a b c k l st h k' l' st' h' x y e
  unfold zo_ixor at e
  repeat' split at e
  all_goals first
    | exact zlq0 e
    | exact zlq1 e
    | cases e
theorem zlq_i2l : zLnq zo_i2l := by
  intro sx d a b c k l st h k' l' st' h' x y e
  unfold zo_i2l at e
  repeat' split at e
  all_goals first
    | exact zlq0 e
    | exact zlq1 e
    | cases e
theorem zlq_l2i : zLnq zo_l2i := by
  intro sx d a b c k l st h k' l' st' h' x y e
  unfold zo_l2i at e
  repeat' split at e
  all_goals first
    | exact zlq0 e
    | exact zlq1 e
    | cases e
theorem zlq_i2b : zLnq zo_i2b := by
  intro sx d a b c k l st h k' l' st' h' x y e
  unfold zo_i2b at e
  repeat' split at e
  all_goals first
    | exact zlq0 e
    | exact zlq1 e
    | cases e
theorem zlq_ladd : zLnq zo_ladd := by
  intro sx d a b c k l st h k' l' st' h' x y e
  unfold zo_ladd at e
  repeat' split at e
  all_goals first
    | exact zlq0 e
    | exact zlq1 e
    | cases e
theorem zlq_lmul : zLnq zo_lmul := by
  intro sx d a b c k l st h k' l' st' h' x y e
  unfold zo_lmul at e
  repeat' split at e
  all_goals first
    | exact zlq0 e
    | exact zlq1 e
    | cases e
theorem zlq_ldiv : zLnq zo_ldiv := by
  intro sx d a b c k l st h k' l' st' h' x y e
  unfold zo_ldiv at e
  repeat' split at e
  all_goals first
    | exact zlq0 e
    | exact zlq1 e
    | cases e
theorem zlq_lconst : zLnq zo_lconst := by
  intro sx d a b c k l st h k' l' st' h' x y e
  unfold zo_lconst at e
  repeat' split at e
  all_goals first
    | exact zlq0 e
    | exact zlq1 e
    | cases e
theorem zlq_lcmp : zLnq zo_lcmp := by
  intro sx d a b c k l st h k' l' st' h' x y e
  unfold zo_lcmp at e
  repeat' split at e
  all_goals first
    | exact zlq0 e
    | exact zlq1 e
    | cases e
theorem zlq_dup : zLnq zo_dup := by
  intro sx d a b c k l st h k' l' st' h' x y e
  unfold zo_dup at e
  repeat' split at e
  all_goals first
    | exact zlq0 e
    | exact zlq1 e
    | cases e
theorem zlq_dup2 : zLnq zo_dup2 := by
  intro sx d a b c k l st h k' l' st' h' x y e
  unfold zo_dup2 at e
  repeat' split at e
  all_goals first
    | exact zlq0 e
    | exact zlq1 e
    | cases e
theorem zlq_pop : zLnq zo_pop := by
  intro sx d a b c k l st h k' l' st' h' x y e
  unfold zo_pop at e
  repeat' split at e
  all_goals first
    | exact zlq0 e
    | exact zlq1 e
    | cases e
theorem zlq_goto : zLnq zo_goto := by
  intro sx d a b c k l st h k' l' st' h' x y e
  unfold zo_goto at e
  repeat' split at e
  all_goals first
    | exact zlq0 e
    | exact zlq1 e
    | cases e
theorem zlq_if : zLnq zo_if := by
  intro sx d a b c k l st h k' l' st' h' x y e
  unfold zo_if at e
  repeat' split at e
  all_goals first
    | exact zlq0 e
    | exact zlq1 e
    | cases e
theorem zlq_icmp : zLnq zo_icmp := by
  intro sx d a b c k l st h k' l' st' h' x y e
  unfold zo_icmp at e
  repeat' split at e
  all_goals first
    | exact zlq0 e
    | exact zlq1 e
    | cases e
theorem zlq_ifnn : zLnq zo_ifnn := by
  intro sx d a b c k l st h k' l' st' h' x y e
  unfold zo_ifnn at e
  repeat' split at e
  all_goals first
    | exact zlq0 e
    | exact zlq1 e
    | cases e
theorem zlq_lald : zLnq zo_lald := by
  intro sx d a b c k l st h k' l' st' h' x y e
  unfold zo_lald at e
  repeat' split at e
  all_goals first
    | exact zlq0 e
    | exact zlq1 e
    | cases e
theorem zlq_tsw : zLnq zo_tsw := by
  intro sx d a b c k l st h k' l' st' h' x y e
  unfold zo_tsw at e
  repeat' split at e
  all_goals first
    | exact zlq0 e
    | exact zlq1 e
    | cases e
theorem zlq_lsw2 : zLnq zo_lsw2 := by
  intro sx d a b c k l st h k' l' st' h' x y e
  unfold zo_lsw2 at e
  repeat' split at e
  all_goals first
    | exact zlq0 e
    | exact zlq1 e
    | cases e
theorem zlq_get : zLnq zo_get := by
  intro sx d a b c k l st h k' l' st' h' x y e
  unfold zo_get at e
  repeat' split at e
  all_goals first
    | exact zlq0 e
    | exact zlq1 e
    | cases e
theorem zlq_put : zLnq zo_put := by
  intro sx d a b c k l st h k' l' st' h' x y e
  unfold zo_put at e
  repeat' split at e
  all_goals first
    | exact zlq0 e
    | exact zlq1 e
    | cases e
theorem zlq_iald : zLnq zo_iald := by
  intro sx d a b c k l st h k' l' st' h' x y e
  unfold zo_iald at e
  repeat' split at e
  all_goals first
    | exact zlq0 e
    | exact zlq1 e
    | cases e
theorem zlq_iast : zLnq zo_iast := by
  intro sx d a b c k l st h k' l' st' h' x y e
  unfold zo_iast at e
  repeat' split at e
  all_goals first
    | exact zlq0 e
    | exact zlq1 e
    | cases e
theorem zlq_bald : zLnq zo_bald := by
  intro sx d a b c k l st h k' l' st' h' x y e
  unfold zo_bald at e
  repeat' split at e
  all_goals first
    | exact zlq0 e
    | exact zlq1 e
    | cases e
theorem zlq_bast : zLnq zo_bast := by
  intro sx d a b c k l st h k' l' st' h' x y e
  unfold zo_bast at e
  repeat' split at e
  all_goals first
    | exact zlq0 e
    | exact zlq1 e
    | cases e
theorem zlq_last : zLnq zo_last := by
  intro sx d a b c k l st h k' l' st' h' x y e
  unfold zo_last at e
  repeat' split at e
  all_goals first
    | exact zlq0 e
    | exact zlq1 e
    | cases e
theorem zlq_aald : zLnq zo_aald := by
  intro sx d a b c k l st h k' l' st' h' x y e
  unfold zo_aald at e
  repeat' split at e
  all_goals first
    | exact zlq0 e
    | exact zlq1 e
    | cases e
theorem zlq_aast : zLnq zo_aast := by
  intro sx d a b c k l st h k' l' st' h' x y e
  unfold zo_aast at e
  repeat' split at e
  all_goals first
    | exact zlq0 e
    | exact zlq1 e
    | cases e
theorem zlq_alen : zLnq zo_alen := by
  intro sx d a b c k l st h k' l' st' h' x y e
  unfold zo_alen at e
  repeat' split at e
  all_goals first
    | exact zlq0 e
    | exact zlq1 e
    | cases e
theorem zlq_oinit : zLnq zo_oinit := by
  intro sx d a b c k l st h k' l' st' h' x y e
  unfold zo_oinit at e
  repeat' split at e
  all_goals first
    | exact zlq0 e
    | exact zlq1 e
    | cases e
theorem zlq_ldcs : zLnq zo_ldcs := by
  intro sx d a b c k l st h k' l' st' h' x y e
  unfold zo_ldcs at e
  repeat' split at e
  all_goals first
    | exact zlq0 e
    | exact zlq1 e
    | cases e
theorem zlq_slength : zLnq zo_slength := by
  intro sx d a b c k l st h k' l' st' h' x y e
  unfold zo_slength at e
  repeat' split at e
  all_goals first
    | exact zlq0 e
    | exact zlq1 e
    | cases e
theorem zlq_scharAt : zLnq zo_scharAt := by
  intro sx d a b c k l st h k' l' st' h' x y e
  unfold zo_scharAt at e
  repeat' split at e
  all_goals first
    | exact zlq0 e
    | exact zlq1 e
    | cases e
theorem zlq_acopy : zLnq zo_acopy := by
  intro sx d a b c k l st h k' l' st' h' x y e
  unfold zo_acopy at e
  repeat' split at e
  all_goals first
    | exact zlq0 e
    | exact zlq1 e
    | cases e
theorem zlq_null : zLnq zo_null := by
  intro sx d a b c k l st h k' l' st' h' x y e
  unfold zo_null at e
  repeat' split at e
  all_goals first
    | exact zlq0 e
    | exact zlq1 e
    | cases e
theorem zlq_sald : zLnq zo_sald := by
  intro sx d a b c k l st h k' l' st' h' x y e
  unfold zo_sald at e
  repeat' split at e
  all_goals first
    | exact zlq0 e
    | exact zlq1 e
    | cases e
theorem zlq_slen : zLnq zo_slen := by
  intro sx d a b c k l st h k' l' st' h' x y e
  unfold zo_slen at e
  repeat' split at e
  all_goals first
    | exact zlq0 e
    | exact zlq1 e
    | cases e
theorem zlq_min : zLnq zo_min := by
  intro sx d a b c k l st h k' l' st' h' x y e
  unfold zo_min at e
  repeat' split at e
  all_goals first
    | exact zlq0 e
    | exact zlq1 e
    | cases e
theorem zlq_max : zLnq zo_max := by
  intro sx d a b c k l st h k' l' st' h' x y e
  unfold zo_max at e
  repeat' split at e
  all_goals first
    | exact zlq0 e
    | exact zlq1 e
    | cases e
theorem zlq_cast : zLnq zo_cast := by
  intro sx d a b c k l st h k' l' st' h' x y e
  unfold zo_cast at e
  repeat' split at e
  all_goals first
    | exact zlq0 e
    | exact zlq1 e
    | cases e
theorem zlq_all : ∀ o, (o ≠ 47 ∧ o ≠ 48 ∧ o ≠ 49 ∧ o ≠ 70) → zLnq (z_ops.getD o z_no)
  | 0, _ => zlq_const
  | 1, _ => zlq_iload
  | 2, _ => zlq_aload
  | 3, _ => zlq_lload
  | 4, _ => zlq_istore
  | 5, _ => zlq_astore
  | 6, _ => zlq_lstore
  | 7, _ => zlq_iinc
  | 8, _ => zlq_iadd
  | 9, _ => zlq_isub
  | 10, _ => zlq_imul
  | 11, _ => zlq_idiv
  | 12, _ => zlq_irem
  | 13, _ => zlq_ishl
  | 14, _ => zlq_ishr
  | 15, _ => zlq_iushr
  | 16, _ => zlq_iand
  | 17, _ => zlq_ior
  | 18, _ => zlq_ixor
  | 19, _ => zlq_i2l
  | 20, _ => zlq_l2i
  | 21, _ => zlq_i2b
  | 22, _ => zlq_ladd
  | 23, _ => zlq_lmul
  | 24, _ => zlq_ldiv
  | 25, _ => zlq_lconst
  | 26, _ => zlq_lcmp
  | 27, _ => zlq_dup
  | 28, _ => zlq_dup2
  | 29, _ => zlq_pop
  | 30, _ => zlq_goto
  | 31, _ => zlq_if
  | 32, _ => zlq_icmp
  | 33, _ => zlq_ifnn
  | 34, _ => zlq_lald
  | 35, _ => zlq_tsw
  | 36, _ => zlq_lsw2
  | 37, _ => zlq_get
  | 38, _ => zlq_put
  | 39, _ => zlq_iald
  | 40, _ => zlq_iast
  | 41, _ => zlq_bald
  | 42, _ => zlq_bast
  | 43, _ => zlq_last
  | 44, _ => zlq_aald
  | 45, _ => zlq_aast
  | 46, _ => zlq_alen
  | 47, h => absurd rfl h.1
  | 48, h => absurd rfl h.2.1
  | 49, h => absurd rfl h.2.2.1
  | 50, _ => zlq_no
  | 51, _ => zlq_no
  | 52, _ => zlq_no
  | 53, _ => zlq_no
  | 54, _ => zlq_no
  | 55, _ => zlq_no
  | 56, _ => zlq_no
  | 57, _ => zlq_oinit
  | 58, _ => zlq_ldcs
  | 59, _ => zlq_slength
  | 60, _ => zlq_scharAt
  | 61, _ => zlq_acopy
  | 62, _ => zlq_no
  | 63, _ => zlq_null
  | 64, _ => zlq_no
  | 65, _ => zlq_sald
  | 66, _ => zlq_slen
  | 67, _ => zlq_min
  | 68, _ => zlq_max
  | 69, _ => zlq_no
  | 70, h => absurd rfl h.2.2.2
  | 71, _ => zlq_cast
  | n + 72, _ => zlq_no
theorem z_run_lenq (sx : zX) : ∀ (n d j k : Nat) (lo : zL) (st : List Value) (h : zH) (o : zO) (h' : zH) (x y : Nat), zNa j = true → z_run sx n d j k lo st h = some (o, h', x, y) → h'.length = h.length := by
  intro n
  induction n with
  | zero => intro d j k lo st h o h' x y _ hr; rw [z_run] at hr; cases hr
  | succ n ih =>
    intro d j k lo st h o h' x y hj hr
    rw [z_run] at hr
    cases hM : z_ms[j]? with
    | none => rw [hM] at hr; cases hr
    | some M =>
    cases hC : z_cs[j]? with
    | none => rw [hM, hC] at hr; cases hr
    | some cs =>
    cases hH : z_hs[j]? with
    | none => rw [hM, hC, hH] at hr; cases hr
    | some hs =>
    rw [hM, hC, hH] at hr
    dsimp only at hr
    cases hk : cs[k]? with
    | none => rw [hk] at hr; cases hr
    | some i =>
    have hno : zNai i = true := by
      have h1 := List.all_eq_true.mp zNa_all j (List.mem_range.mpr (List.getElem?_eq_some_iff.mp hC).1)
      unfold zNa at hj
      rw [Bool.not_eq_true'] at hj
      rw [hj, Bool.false_or, List.getD_eq_getElem?_getD, hC] at h1
      exact List.all_eq_true.mp h1 i (List.mem_of_getElem? hk)
    unfold zNai at hno
    rw [Bool.and_eq_true, Bool.or_eq_true, decide_eq_true_eq, decide_eq_true_eq] at hno
    obtain ⟨n1, n3⟩ := hno
    rw [hk] at hr
    dsimp only at hr
    cases hf : z_fin M i d st with
    | some w =>
      rw [hf] at hr
      obtain ⟨w1, w2, w3⟩ := w
      simp only [Option.some.injEq, Prod.mk.injEq] at hr
      obtain ⟨-, rfl, -⟩ := hr
      rfl
    | none =>
    rw [hf] at hr
    dsimp only at hr
    cases hc : z_cal i d st h with
    | some w =>
      obtain ⟨j', as, rest⟩ := w
      have hj' : zNa j' = true := by
        have e1 := (z_cal_in hc).1
        have e2 := z_cal_no e1
        have e3 : j' = i.2.1 := by
          clear hr
          unfold z_cal0 at e1
          repeat' split at e1
          all_goals first
            | (simp only [Option.some.injEq, Prod.mk.injEq] at e1; exact e1.1.symm)
            | cases e1
        rw [e3]
        rcases n3 with n3 | n3
        · omega
        · exact n3
      rw [hc] at hr
      dsimp only at hr
      cases hin : z_run sx n (d - 1) j' 0 (lv_args 0 as) [] h with
      | none => rw [hin] at hr; cases hr
      | some w =>
      obtain ⟨oi, h1, x1, y1⟩ := w
      rw [hin] at hr
      have k1 := ih _ _ _ _ _ _ _ _ _ _ hj' hin
      cases oi with
      | inl v =>
        dsimp only at hr
        obtain ⟨a, b, e1, e2, e3⟩ := z_mapadd hr
        have k2 := ih _ _ _ _ _ _ _ _ _ _ hj e1
        omega
      | inr E =>
        dsimp only at hr
        by_cases hi : i.1 = 54
        case neg => rw [if_neg hi] at hr; cases hr
        rw [if_pos hi] at hr
        cases hfd : hs.find? (fun q => q.2.2.2.2.1 == E) with
        | some q =>
          rw [hfd] at hr
          dsimp only at hr
          obtain ⟨a, b, e1, e2, e3⟩ := z_mapadd hr
          have k2 := ih _ _ _ _ _ _ _ _ _ _ hj e1
          omega
        | none =>
          rw [hfd] at hr
          dsimp only at hr
          split at hr
          · simp only [Option.some.injEq, Prod.mk.injEq] at hr
            obtain ⟨-, rfl, rfl, -⟩ := hr
            exact k1
          · cases hr
    | none =>
    rw [hc] at hr
    dsimp only at hr
    cases ho : (z_ops.getD i.1 z_no) sx d i.2.1 i.2.2.1 i.2.2.2 k lo st h with
    | none => rw [ho] at hr; cases hr
    | some w =>
    obtain ⟨k', lo', st', h1, x1, y1⟩ := w
    rw [ho] at hr
    dsimp only at hr
    have k1 := zlq_all i.1 n1 _ _ _ _ _ _ _ _ _ _ _ _ _ _ _ ho
    obtain ⟨a, b, e1, e2, e3⟩ := z_mapadd hr
    have k2 := ih _ _ _ _ _ _ _ _ _ _ hj e1
    omega
theorem z_ok.lenq {sx : zX} {d j k : Nat} {lo : zL} {st : List Value} {h : zH} {Ψ : zO → zH → Nat → Nat → Prop} (hj : zNa j = true) (H : z_ok sx d j k lo st h Ψ) : z_ok sx d j k lo st h (fun o h' x y => Ψ o h' x y ∧ h'.length = h.length) := by
  obtain ⟨n, o, h', x, y, e, q⟩ := H
  exact ⟨n, o, h', x, y, e, q, z_run_lenq sx n d j k lo st h o h' x y hj e⟩
end
section
/-! the new law's cells: their types, and how many there are -/
theorem zpt {ty : List Nat} {h : zH} {c t k r q : Nat} {a b lo hi : Int} (T : zTY z_tt ty h) (ht : ty[c]? = some t) (hv : zv h c k = .ref r) (hq : q = 2 ∨ q = 3) (hr : (a, b, (q, lo, hi)) ∈ (z_tt t).2.2.2) (h1 : a ≤ (k : Int)) (h2 : (k : Int) ≤ b) : ∃ t', ty[r]? = some t' ∧ lo ≤ (t' : Int) ∧ (t' : Int) ≤ hi := by
  obtain ⟨e, he, hs, hG⟩ := zcell T ht
  rw [zv_at he] at hv
  cases hz : z_rd e k with
  | none => rw [hz] at hv; cases hv
  | some v =>
    rw [hz] at hv
    have hv : v = .ref r := hv
    subst hv
    have g := hG k _ hz _ hr h1 h2
    rcases hq with rfl | rfl
    · obtain ⟨i, t', e1, e2, e3, e4⟩ := g
      cases e1
      exact ⟨t', e2, e3, e4⟩
    · rcases g with g | ⟨i, t', e1, e2, e3, e4⟩
      · cases g
      · cases e1
        exact ⟨t', e2, e3, e4⟩
theorem ztt100b {t : Nat} (h1 : 100 ≤ t) (h2 : t ≤ 112) : (z_tt t).2.2.2 = [(0, 0, (0, ((t - 100 : Nat) : Int), ((t - 100 : Nat) : Int))), (1, 2, (2, ((t + 40 : Nat) : Int), ((t + 40 : Nat) : Int))), (3, 3, (2, ((t + 20 : Nat) : Int), ((t + 20 : Nat) : Int))), (4, 4, (2, 1000, 1400)), (5, 5, (2, 34, 34))] := by
  unfold z_tt
  rw [if_neg (by omega), if_pos ⟨h1, h2⟩]
theorem zlaw_new {ty ty1 : List Nat} {h h1 : zH} {k : Int32} {E : Nat} {bt : Nat → Int} (T : zTY z_tt ty h) (T1 : zTY z_tt ty1 h1) (X0 : zExt zty1 ty) (X : zExt ty ty1) (L0 : zLwt ty) (hm : h.length % 6 = 3) (hl : h1.length ≤ h.length + 6) (Q : cLw (za h) 0 1 3 8 47 7 4 5 6 2 bt E) (G1 : p_316w 0 218 (za h) k (za h1)) : zLwt ty1 ∧ (k.toInt = 0 → (za h1).2.2 = (za h).2.2 + 6 ∧ (za h1).2.1 ((za h).2.2 + 2) = 32) := by
  obtain ⟨e, τ, ⟨g, gw⟩, alts⟩ := G1
  obtain ⟨f, -, Rs, hR, xo⟩ := g 1 3 8 47 7 4 5 6 2 bt E Q
  cases Rs with
  | inr F =>
    obtain ⟨rfl, x1, x2, x3⟩ := xo
    rcases alts with ⟨v, q, -, -⟩ | ⟨-, r1, r2⟩
    · cases q
    · have hl' : h1.length = h.length := by
        have e1 : (za h1).2.2 = (za h).2.2 := by rw [r2]; exact x3
        exact e1
      exact ⟨L0.keep T T1 X hl', fun q => by rw [r1] at q; exact absurd q (by decide)⟩
  | inl q =>
    obtain ⟨ls, l⟩ := q
    obtain ⟨rfl, x1, x2, x3, x4, x5, y0, y1, y2, y3, y4, y5, -⟩ := xo
    rcases alts with ⟨v, q, r1, r2⟩ | ⟨q, -, -⟩
    case inr => cases q
    have hL : 219 ≤ h.length := by
      rw [← T.1]
      exact (List.getElem?_eq_some_iff.mp (X0 218 33 (by decide +kernel))).1
    have hv : ∀ c q, c ≠ 218 → zv h1 c q = τ.1 c q := fun c q hc => by
      have e1 : (za h1).1 c q = τ.1 c q := by rw [r2]; exact q_w_ne (fun e _ => hc e)
      exact e1
    obtain ⟨tL, a1, a2, a3⟩ := zpt (q := 3) (a := 5) (b := 5) (lo := 100) (hi := 112) T1 (X _ _ (X0 8 8 (by decide +kernel))) ((hv 8 5 (by omega)).trans x4) (Or.inr rfl) (by decide +kernel) (by decide) (by decide)
    have tt := ztt100b (t := tL) (by omega) (by omega)
    have hs : ((za h).2.2 : Nat) = h.length := rfl
    rw [hs] at a1 y1 y2 y3 y4 y5
    obtain ⟨t3, b1, b2, b3⟩ := zpt (q := 2) (a := 1) (b := 2) (lo := ((tL + 40 : Nat) : Int)) (hi := ((tL + 40 : Nat) : Int)) T1 a1 ((hv _ 1 (by omega)).trans y1) (Or.inl rfl) (by rw [tt]; simp) (by decide) (by decide)
    obtain ⟨t4, c1, c2, c3⟩ := zpt (q := 2) (a := 1) (b := 2) (lo := ((tL + 40 : Nat) : Int)) (hi := ((tL + 40 : Nat) : Int)) T1 a1 ((hv _ 2 (by omega)).trans y2) (Or.inl rfl) (by rw [tt]; simp) (by decide) (by decide)
    obtain ⟨t5, d1, d2, d3⟩ := zpt (q := 2) (a := 3) (b := 3) (lo := ((tL + 20 : Nat) : Int)) (hi := ((tL + 20 : Nat) : Int)) T1 a1 ((hv _ 3 (by omega)).trans y3) (Or.inl rfl) (by rw [tt]; simp) (by decide) (by decide)
    obtain ⟨t1, g1, g2, g3⟩ := zpt (q := 2) (a := 4) (b := 4) (lo := 1000) (hi := 1400) T1 a1 ((hv _ 4 (by omega)).trans y4) (Or.inl rfl) (by rw [tt]; simp) (by decide) (by decide)
    obtain ⟨t2, i1, i2, i3⟩ := zpt (q := 2) (a := 5) (b := 5) (lo := 34) (hi := 34) T1 a1 ((hv _ 5 (by omega)).trans y5) (Or.inl rfl) (by rw [tt]; simp) (by decide) (by decide)
    have l5 : h.length + 5 < h1.length := by
      rw [← T1.1]
      exact (List.getElem?_eq_some_iff.mp d1).1
    have e2 : t2 = 34 := by omega
    subst e2
    refine ⟨fun c t q1 q2 ht => ?_, fun _ => ⟨(show h1.length = h.length + 6 by omega), zvl_of T1 i1 rfl rfl⟩⟩
    by_cases hc : c < h.length
    · have hc' : c < ty.length := by rw [T.1]; exact hc
      have e : ty[c]? = some ty[c] := List.getElem?_eq_getElem hc'
      have := X c _ e
      rw [ht] at this
      cases this
      exact L0 c _ q1 q2 e
    · have hc1 : c < h1.length := by
        rw [← T1.1]
        exact (List.getElem?_eq_some_iff.mp ht).1
      have h5 : c = h.length ∨ c = h.length + 1 ∨ c = h.length + 3 ∨ c = h.length + 4 ∨ c = h.length + 5 := by omega
      rcases h5 with rfl | rfl | rfl | rfl | rfl
      · rw [a1] at ht; cases ht; omega
      · rw [g1] at ht; cases ht; omega
      · rw [b1] at ht; cases ht; omega
      · rw [c1] at ht; cases ht; omega
      · rw [d1] at ht; cases ht; omega
end
section
/-! THE LAW: what holds at its loop's head, and its steps; printed with wip/gen/gen_law.py -/
theorem zJ_343 : zJ3 343 z_m343 z_c343 z_h343 := ⟨rfl, rfl, rfl⟩
theorem zJ_344 : zJ3 344 z_m344 z_c344 z_h344 := ⟨rfl, rfl, rfl⟩
noncomputable def zLxt (ty : List Nat) (h : zH) (ax am ao : Nat) : Prop := (ax = 0 ∧ am = 205 ∧ ao = 218) ∧ zExt zty1 ty ∧ zSkl h ∧ zByq h
theorem zLxt.keep {ms : List zMod} {ty ty' : List Nat} {h h' : zH} {ax am ao : Nat} (L : zLxt ty h ax am ao) (T : zTY z_tt ty h) (T' : zTY z_tt ty' h') (X : zExt ty ty') (F : zFm ms ty h h') (hm : (zskOK ms && zby3 ms) = true) : zLxt ty' h' ax am ao := by
  obtain ⟨c, X0, S, Y⟩ := L
  rw [Bool.and_eq_true] at hm
  have S' := S.keep T T' F X0 hm.1
  exact ⟨c, fun a t ha => X a t (X0 a t ha), S', Y.keep S S' T T' F X0 hm.2⟩
theorem zcell3 {ty : List Nat} {h : zH} {a t n : Nat} (T : zTY z_tt ty h) (ht : ty[a]? = some t) (hk : (z_tt t).1 = 3) (hn : (z_tt t).2.2.1 = n) : ∃ f : Nat → Int64, h[a]? = some (.inl (2, (n, .inr (.inl f)))) := by
  obtain ⟨e, he, hs, -⟩ := zcell T ht
  obtain ⟨f, rfl⟩ := zsh3 hs hk
  exact ⟨f, by rw [he, hn]⟩
theorem zthr {sx : zX} {d a : Nat} {h : zH} {fs : List Value} {t : Int32} (he : h[a]? = some (.inr (9, fs))) (hf : fs[0]? = some (.int t)) : z_ok sx d 344 0 (lv_args 0 [.ref a]) [] h (fun o h' x y => o = .inl (some (.int t)) ∧ h' = h ∧ x = 0 ∧ y = 0) := by
  refine zh_ald zJ_344 (a := 0) (b := 0) (z := 0) rfl (k' := 1) rfl rfl ?_
  refine zh_get zJ_344 (z := 0) rfl (k' := 2) rfl he hf ?_
  exact zh_iret zJ_344 (a := 0) (b := 0) (z := 0) rfl (Or.inl rfl) ⟨rfl, rfl, rfl, rfl⟩
theorem zlg_self (x : Int64) : z_cmp 0 (lg_cmp x x) 0 = true := by
  have e : lg_cmp x x = 0 := by
    unfold lg_cmp
    rw [if_neg (fun h => Int64.lt_irrefl h), if_pos rfl]
  rw [e]
  rfl
noncomputable def zIvw (ty : List Nat) (h : zH) (ax am ao : Nat) (N : Int) : Prop := zTY z_tt ty h ∧ zE1 ty h ∧ ty[ax]? = some 1 ∧ ty[am]? = some 20 ∧ ty[ao]? = some 33 ∧ zTp ty h ax N ∧ zMp h am N ∧ 0 ≤ N ∧ N ≤ 400 ∧ zLxt ty h ax am ao ∧ zLwt ty
noncomputable def zIw (ty : List Nat) (h : zH) (ax am ao : Nat) (N : Int) : Prop := zTY z_tt ty h ∧ zE1 ty h ∧ ty[ax]? = some 1 ∧ ty[am]? = some 20 ∧ ty[ao]? = some 33 ∧ zTp ty h ax N ∧ zMp h am N ∧ 0 ≤ N ∧ N ≤ 400 ∧ zLxt ty h ax am ao ∧ zLwt ty ∧ zHld (za h)
noncomputable def zLv (lo : zL) (ax am ao i : Nat) : Prop := z_get lo 0 = some (.ref zS) ∧ z_get lo 1 = some (.ref ax) ∧ z_get lo 2 = some (.ref am) ∧ z_get lo 3 = some (.ref ao) ∧ ∃ x : Int32, z_get lo 4 = some (.int x) ∧ x.toInt = (i : Int)
theorem zIw.v {ty : List Nat} {h : zH} {ax am ao : Nat} {N : Int} (I : zIw ty h ax am ao N) : zIvw ty h ax am ao N := ⟨I.1, I.2.1, I.2.2.1, I.2.2.2.1, I.2.2.2.2.1, I.2.2.2.2.2.1, I.2.2.2.2.2.2.1, I.2.2.2.2.2.2.2.1, I.2.2.2.2.2.2.2.2.1, I.2.2.2.2.2.2.2.2.2.1, I.2.2.2.2.2.2.2.2.2.2.1⟩
theorem zIvw.w {ty : List Nat} {h : zH} {ax am ao : Nat} {N : Int} (I : zIvw ty h ax am ao N) (H : zHld (za h)) : zIw ty h ax am ao N := ⟨I.1, I.2.1, I.2.2.1, I.2.2.2.1, I.2.2.2.2.1, I.2.2.2.2.2.1, I.2.2.2.2.2.2.1, I.2.2.2.2.2.2.2.1, I.2.2.2.2.2.2.2.2.1, I.2.2.2.2.2.2.2.2.2.1, I.2.2.2.2.2.2.2.2.2.2, H⟩
theorem zIw.lx {ty : List Nat} {h : zH} {ax am ao : Nat} {N : Int} (I : zIw ty h ax am ao N) : zLxt ty h ax am ao := I.2.2.2.2.2.2.2.2.2.1
theorem zIw.lt {ty : List Nat} {h : zH} {ax am ao : Nat} {N : Int} (I : zIw ty h ax am ao N) : zLwt ty := I.2.2.2.2.2.2.2.2.2.2.1
theorem zIw.hd {ty : List Nat} {h : zH} {ax am ao : Nat} {N : Int} (I : zIw ty h ax am ao N) : zHld (za h) := I.2.2.2.2.2.2.2.2.2.2.2
theorem zIw.b2 {ty : List Nat} {h : zH} {ax am ao : Nat} {N : Int} (I : zIw ty h ax am ao N) : N ≤ 400 := I.2.2.2.2.2.2.2.2.1
theorem zIvw.keep {ms : List zMod} {ty ty' : List Nat} {h h' : zH} {ax am ao : Nat} {N : Int} (I : zIvw ty h ax am ao N) (X : zExt ty ty') (T' : zTY z_tt ty' h') (E' : zE1 ty' h') (F : zFm ms ty h h') (n1 : ¬ zIn ms 1 0) (n2 : ¬ zIn ms 2 1) (n3 : ¬ zIn ms 20 9) (n4 : (zskOK ms && zby3 ms) = true) (hl : h'.length = h.length) : zIvw ty' h' ax am ao N := by
  obtain ⟨T, E, ha, hm, ho, P, Q, b1, b2, L, Lt⟩ := I
  exact ⟨T', E', X ax 1 ha, X am 20 hm, X ao 33 ho, P.keep ha T' X F n1 n2, Q.keep hm T' X F n3, b1, b2, L.keep T T' X F n4, Lt.keep T T' X hl⟩
theorem zIw.keep {ms : List zMod} {ty ty' : List Nat} {h h' : zH} {ax am ao : Nat} {N : Int} (I : zIw ty h ax am ao N) (X : zExt ty ty') (T' : zTY z_tt ty' h') (E' : zE1 ty' h') (F : zFm ms ty h h') (n1 : ¬ zIn ms 1 0) (n2 : ¬ zIn ms 2 1) (n3 : ¬ zIn ms 20 9) (n4 : (zskOK ms && zby3 ms) = true) (hl : h'.length = h.length) (n5 : zqOK ms = true) : zIw ty' h' ax am ao N := (I.v.keep X T' E' F n1 n2 n3 n4 hl).w (I.hd.keep I.1 T' I.lx.2.1 X I.lt F hl n5)
theorem zLv.set {lo : zL} {ax am ao i b : Nat} {v : Int32} (L : zLv lo ax am ao i) (hb : 4 < b) : zLv (z_set1 lo b (.int v)) ax am ao i := by
  obtain ⟨g0, g1, g2, g3, x, g4, ex⟩ := L
  exact ⟨zget_set1_ne g0 (by omega) rfl, zget_set1_ne g1 (by omega) rfl, zget_set1_ne g2 (by omega) rfl, zget_set1_ne g3 (by omega) rfl, x, zget_set1_ne g4 (by omega) rfl, ex⟩
section ZLW
variable {sx : zX} {d k : Nat} {lo : zL} {st rest : List Value} {h : zH} {Ψ : zO → zH → Nat → Nat → Prop} {ax am ao i : Nat}
theorem zcal72 {j' n : Nat} {c : Int} {xs : List Value} {M' : zMi} (hd : 0 < d) (hst : st = xs ++ rest) (hx : xs.length = n) (hz : z_cat rest ≤ 8) (hM : z_ms[j']? = some M') (hl : (lg_sl xs.reverse).length ≤ M'.2.2.2.1) : z_cal (72, j', n, c) d st h = some (j', xs.reverse, rest) := by
  subst hst
  have h0 : z_cal0 (72, j', n, c) d (xs ++ rest) h = some (j', xs.reverse, rest) := by
    unfold z_cal0
    have e1 : ¬ (d = 0 ∨ (xs ++ rest).length < n) := by
      rw [List.length_append]
      omega
    have e2 : (xs ++ rest).drop n = rest := by rw [← hx]; exact List.drop_left
    have e3 : (xs ++ rest).take n = xs := by rw [← hx]; exact List.take_left
    dsimp only
    rw [if_neg e1, e2, e3, if_pos hz]
    rfl
  unfold z_cal
  rw [h0]
  dsimp only
  rw [hM]
  dsimp only
  rw [if_pos hl]
/-- a number of the script -/
theorem zscr (k k1 k2 k3 k4 k5 : Nat) {m : Int} (M : Nat) (i0 : z_c343[k]? = some (2, 0, 0, 0)) (i1 : z_c343[k1]? = some (1, 4, 0, 0)) (i2 : z_c343[k2]? = some (0, 0, 0, m)) (i3 : z_c343[k3]? = some (8, 0, 0, 0)) (i4 : z_c343[k4]? = some (65, 0, 0, 0)) (e1 : k + 1 = k1) (e2 : k1 + 1 = k2) (e3 : k2 + 1 = k3) (e4 : k3 + 1 = k4) (e5 : k4 + 1 = k5) (em : m = (M : Int)) (hm : M ≤ 5) (Lv : zLv lo ax am ao i) (hi : i + 6 ≤ sx.1) (hL : sx.1 ≤ 3072) (kk : ∀ v : Int32, v = sx.2 (i + M) → z_ok sx d 343 k5 lo (.int v :: st) h Ψ) : z_ok sx d 343 k lo st h Ψ := by
  obtain ⟨g0, -, -, -, x, g4, ex⟩ := Lv
  refine zh_ald zJ_343 i0 e1 g0 ?_
  refine zh_ild zJ_343 i1 e2 g4 ?_
  refine zh zJ_343 i2 rfl (k' := k3) (lo' := lo) (st' := .int (Int32.ofInt m) :: .int x :: .ref zS :: st) (h' := h) (by rw [← e3]; rfl) ?_
  refine zh zJ_343 i3 rfl (k' := k4) (lo' := lo) (st' := .int (x + Int32.ofInt m) :: .ref zS :: st) (h' := h) (by rw [← e4]; rfl) ?_
  have ei : (x + Int32.ofInt m).toInt = ((i + M : Nat) : Int) := by
    rw [zI_add ex (zI_c (by omega) (by omega)) (by omega) (by omega)]
    omega
  refine zh zJ_343 i4 rfl (k' := k5) (lo' := lo) (st' := .int (sx.2 (i + M)) :: st) (h' := h) ?_ (kk _ rfl)
  show zo_sald sx d 0 0 0 k4 lo (.int (x + Int32.ofInt m) :: .ref zS :: st) h = _
  unfold zo_sald
  dsimp only
  rw [if_pos ⟨rfl, (z_inn (by omega) (by omega)).1⟩, znat ei, e5]
/-- a truth value -/
theorem zboo (k k1 k2 k3 k4 : Nat) {u : Int32} (i0 : z_c343[k]? = some (31, k3, 0, 0)) (i1 : z_c343[k1]? = some (0, 0, 0, 1)) (i2 : z_c343[k2]? = some (30, k4, 0, 0)) (i3 : z_c343[k3]? = some (0, 0, 0, 0)) (e1 : k + 1 = k1) (e2 : k1 + 1 = k2) (e4 : k3 + 1 = k4) (kk : ∀ v : Int32, (0 ≤ v.toInt ∧ v.toInt ≤ 1) → v = (if z_cmp 0 u 0 = true then Int32.ofInt 0 else Int32.ofInt 1) → z_ok sx d 343 k4 lo (.int v :: st) h Ψ) : z_ok sx d 343 k lo (.int u :: st) h Ψ := by
  refine zh_if zJ_343 i0 (fun q => ?_) (fun q => ?_)
  · exact zh zJ_343 i3 rfl (k' := k4) (lo' := lo) (st' := .int (Int32.ofInt 0) :: st) (h' := h) (by rw [← e4]; rfl) (kk _ (by decide) (if_pos q).symm)
  · rw [e1]
    refine zh zJ_343 i1 rfl (k' := k2) (lo' := lo) (st' := .int (Int32.ofInt 1) :: st) (h' := h) (by rw [← e2]; rfl) ?_
    exact zh zJ_343 i2 rfl (k' := k4) (lo' := lo) (st' := .int (Int32.ofInt 1) :: st) (h' := h) rfl (kk _ (by decide) (if_neg q).symm)
/-- a call whose run is known, with what it costs -/
theorem zlrun {k' j' : Nat} {as : List Value} {i : zI} {Φ : zO → zH → Nat → Nat → Prop} (hi : z_c343[k]? = some i) (hk : k + 1 = k') (hn : i.1 ≠ 50 ∧ i.1 ≠ 51 ∧ i.1 ≠ 52 ∧ i.1 ≠ 53 ∧ i.1 ≠ 62) (hc : z_cal i d st h = some (j', as, rest)) (R : z_ok sx (d - 1) j' 0 (lv_args 0 as) [] h Φ) (kk : ∀ o h' x y, Φ o h' x y → h'.length ≤ h.length + x → ∃ v, o = .inl v ∧ z_ok sx d 343 k' lo (v.toList ++ rest) h' (fun o h9 a b => Ψ o h9 (a + x) (b + y))) : z_ok sx d 343 k lo st h Ψ := by
  refine z_ok.call zJ_343.1 zJ_343.2.1 zJ_343.2.2 hi (z_fin_no hn) hc (z_ok.imp (z_ok.len R) (fun o h' x y q => ?_))
  obtain ⟨v, rfl, h9⟩ := kk o h' x y q.1 q.2
  rw [← hk] at h9
  exact h9
/-- a call by a contract that answers an int, or nothing -/
theorem zlcon {ty : List Nat} {N : Int} {k' j' : Nat} {as : List Value} {i : zI} {ct : zCt} (I : zIw ty h ax am ao N) (hi : z_c343[k]? = some i) (hk : k + 1 = k') (hn : i.1 ≠ 50 ∧ i.1 ≠ 51 ∧ i.1 ≠ 52 ∧ i.1 ≠ 53 ∧ i.1 ≠ 62) (hc : z_cal i d st h = some (j', as, rest)) (V : zVd z_tt zE1 ct) (hj : zcJ ct = j') (hd : zcD ct + 1 ≤ d) (he : zcE ct = []) (hno : (zcM ct).all (fun m => decide (m.1 ≠ 1 ∨ (0 : Int) < m.2.1) && (decide (m.1 ≠ 2 ∨ (1 : Int) < m.2.1) && decide (m.1 ≠ 20 ∨ (9 : Int) < m.2.1 ∨ m.2.2 < (9 : Int)))) = true) (hn4 : (zskOK (zcM ct) && zby3 (zcM ct)) = true) (hn5 : zqOK (zcM ct) = true) (hna : zNa j' = true) (hA : zAg ty (zcA ct) as) (kk : ∀ ty' h' v x y, zIw ty' h' ax am ao N → zRt ty' (zcR ct) v → x ≤ (zcK ct).1 → y ≤ (zcK ct).2.1 → h'.length ≤ h.length + x → z_ok sx d 343 k' lo (v.toList ++ rest) h' (fun o h9 a b => Ψ o h9 (a + x) (b + y))) : z_ok sx d 343 k lo st h Ψ := by
  subst hj
  refine zlrun hi hk hn hc (z_ok.lenq hna (V sx (d - 1) ty h as (by omega) I.1 I.2.1 hA)) (fun o h' x y q hl => ?_)
  obtain ⟨⟨ty', q1, q2, q3, q4, q5⟩, hq⟩ := q
  have key := List.all_eq_true.mp hno
  have nin : ∀ t i : Nat, (t = 1 ∧ i = 0) ∨ (t = 2 ∧ i = 1) ∨ (t = 20 ∧ i = 9) → ¬ zIn (zcM ct) t i := by
    rintro t i ht ⟨m, hm, m1, m2, m3⟩
    have := key m hm
    simp only [Bool.and_eq_true, decide_eq_true_eq] at this
    omega
  cases o with
  | inl v =>
    obtain ⟨q5, q6, q7⟩ := q5
    exact ⟨v, rfl, kk ty' h' v x y (I.keep q1 q2 q3 q4 (nin 1 0 (Or.inl ⟨rfl, rfl⟩)) (nin 2 1 (Or.inr (Or.inl ⟨rfl, rfl⟩))) (nin 20 9 (Or.inr (Or.inr ⟨rfl, rfl⟩))) hn4 hq hn5) q5 q6 q7 hl⟩
  | inr e =>
    rw [he] at q5
    exact absurd q5.1 List.not_mem_nil
theorem zlcq {ty : List Nat} {N : Int} {k' j' : Nat} {as : List Value} {i : zI} {ct : zCt} {P : zPp} (I : zIvw ty h ax am ao N) (hi : z_c343[k]? = some i) (hk : k + 1 = k') (hn : i.1 ≠ 50 ∧ i.1 ≠ 51 ∧ i.1 ≠ 52 ∧ i.1 ≠ 53 ∧ i.1 ≠ 62) (hc : z_cal i d st h = some (j', as, rest)) (V : zVd z_tt zE1 ct) (hj : zcJ ct = j') (hd : zcD ct + 1 ≤ d) (he : zcE ct = []) (hno : (zcM ct).all (fun m => decide (m.1 ≠ 1 ∨ (0 : Int) < m.2.1) && (decide (m.1 ≠ 2 ∨ (1 : Int) < m.2.1) && decide (m.1 ≠ 20 ∨ (9 : Int) < m.2.1 ∨ m.2.2 < (9 : Int)))) = true) (hn4 : (zskOK (zcM ct) && zby3 (zcM ct)) = true) (hna : zNa j' = true) (hA : zAg ty (zcA ct) as) (S : zEe sx j' as.length P) (hq1 : q_c1 as = true) (kk : ∀ ty' h' v x y, zIvw ty' h' ax am ao N → zRt ty' (zcR ct) v → P as (za h) (.inl v) (za h') → x ≤ (zcK ct).1 → y ≤ (zcK ct).2.1 → h'.length ≤ h.length + x → z_ok sx d 343 k' lo (v.toList ++ rest) h' (fun o h9 a b => Ψ o h9 (a + x) (b + y))) : z_ok sx d 343 k lo st h Ψ := by
  subst hj
  refine zlrun hi hk hn hc (z_ok.lenq hna (S.ok (zTY_kh I.1) rfl hq1 (V sx (d - 1) ty h as (by omega) I.1 I.2.1 hA))) (fun o h' x y q hl => ?_)
  obtain ⟨⟨⟨ty', q1, q2, q3, q4, q5⟩, -, g⟩, hq⟩ := q
  have key := List.all_eq_true.mp hno
  have nin : ∀ t i : Nat, (t = 1 ∧ i = 0) ∨ (t = 2 ∧ i = 1) ∨ (t = 20 ∧ i = 9) → ¬ zIn (zcM ct) t i := by
    rintro t i ht ⟨m, hm, m1, m2, m3⟩
    have := key m hm
    simp only [Bool.and_eq_true, decide_eq_true_eq] at this
    omega
  cases o with
  | inl v =>
    obtain ⟨q5, q6, q7⟩ := q5
    exact ⟨v, rfl, kk ty' h' v x y (I.keep q1 q2 q3 q4 (nin 1 0 (Or.inl ⟨rfl, rfl⟩)) (nin 2 1 (Or.inr (Or.inl ⟨rfl, rfl⟩))) (nin 20 9 (Or.inr (Or.inr ⟨rfl, rfl⟩))) hn4 hq) q5 g q6 q7 hl⟩
  | inr e =>
    rw [he] at q5
    exact absurd q5.1 List.not_mem_nil
noncomputable def zKc (sx : zX) (d ax am ao i : Nat) (h : zH) (Ψ : zO → zH → Nat → Nat → Prop) : Prop := ∀ (ty' : List Nat) (lo' : zL) (h' : zH) (N' : Int) (x y : Nat), zIw ty' h' ax am ao N' → zLv lo' ax am ao i → x ≤ 7 → y ≤ 1000 → h'.length ≤ h.length + x → z_ok sx d 343 936 lo' [] h' (fun o h9 a b => Ψ o h9 (a + x) (b + y))
theorem zKc.use {ty' : List Nat} {lo' : zL} {h' : zH} {N' : Int} {x1 y1 x2 y2 : Nat} (K : zKc sx d ax am ao i h Ψ) (I : zIw ty' h' ax am ao N') (Lv : zLv lo' ax am ao i) (hx : x2 + x1 ≤ 7) (hy : y2 + y1 ≤ 1000) (hl : h'.length ≤ h.length + (x2 + x1)) : z_ok sx d 343 936 lo' [] h' (fun o h9 a b => (fun o h9 a b => Ψ o h9 (a + x1) (b + y1)) o h9 (a + x2) (b + y2)) :=
  z_ok.imp (K ty' lo' h' N' (x2 + x1) (y2 + y1) I Lv hx hy hl) (fun o h9 a b q => by
    show Ψ o h9 (a + x2 + x1) (b + y2 + y1)
    rw [Nat.add_assoc, Nat.add_assoc]
    exact q)
theorem zgoto {k' : Nat} (hi : z_c343[k]? = some (30, k', 0, 0)) (kk : z_ok sx d 343 k' lo st h Ψ) : z_ok sx d 343 k lo st h Ψ := zh zJ_343 hi rfl (k' := k') (lo' := lo) (st' := st) (h' := h) rfl kk
theorem zpop {k' : Nat} {v : Int32} (hi : z_c343[k]? = some (29, 0, 0, 0)) (hk : k + 1 = k') (kk : z_ok sx d 343 k' lo st h Ψ) : z_ok sx d 343 k lo (.int v :: st) h Ψ := zh zJ_343 hi rfl (k' := k') (lo' := lo) (st' := st) (h' := h) (by rw [← hk]; rfl) kk
end ZLW
end
