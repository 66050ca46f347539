section
/-! the two constructors, by the kernel; printed with wip/gen/gen_init.py -/
theorem zcal0_j {i : zI} {d : Nat} {st : List Value} {h : zH} {j : Nat} {as rest : List Value} (hc : z_cal0 i d st h = some (j, as, rest)) : j = i.2.1 := by
  unfold z_cal0 at hc
  repeat' split at hc
  all_goals first
    | (simp only [Option.some.injEq, Prod.mk.injEq] at hc; exact hc.1.symm)
    | cases hc
noncomputable def zNos (i : zI) : Bool := decide (i.1 ≠ 65) && (decide (i.1 ≠ 66) && (decide (i.1 ≠ 54 ∧ i.1 ≠ 55 ∧ i.1 ≠ 72 ∧ i.1 ≠ 56 ∧ i.1 ≠ 73) || decide (i.2.1 < 343)))
theorem zNos_all : (z_cs.take 343).all (fun cs => cs.all zNos) = true := by decide +kernel
theorem zops_sx (sx sx' : zX) : ∀ o : Nat, o ≠ 65 → o ≠ 66 → (z_ops.getD o z_no) sx = (z_ops.getD o z_no) sx'
  | 0, _, _ => rfl
  | 1, _, _ => rfl
  | 2, _, _ => rfl
  | 3, _, _ => rfl
  | 4, _, _ => rfl
  | 5, _, _ => rfl
  | 6, _, _ => rfl
  | 7, _, _ => rfl
  | 8, _, _ => rfl
  | 9, _, _ => rfl
  | 10, _, _ => rfl
  | 11, _, _ => rfl
  | 12, _, _ => rfl
  | 13, _, _ => rfl
  | 14, _, _ => rfl
  | 15, _, _ => rfl
  | 16, _, _ => rfl
  | 17, _, _ => rfl
  | 18, _, _ => rfl
  | 19, _, _ => rfl
  | 20, _, _ => rfl
  | 21, _, _ => rfl
  | 22, _, _ => rfl
  | 23, _, _ => rfl
  | 24, _, _ => rfl
  | 25, _, _ => rfl
  | 26, _, _ => rfl
  | 27, _, _ => rfl
  | 28, _, _ => rfl
  | 29, _, _ => rfl
  | 30, _, _ => rfl
  | 31, _, _ => rfl
  | 32, _, _ => rfl
  | 33, _, _ => rfl
  | 34, _, _ => rfl
  | 35, _, _ => rfl
  | 36, _, _ => rfl
  | 37, _, _ => rfl
  | 38, _, _ => rfl
  | 39, _, _ => rfl
  | 40, _, _ => rfl
  | 41, _, _ => rfl
  | 42, _, _ => rfl
  | 43, _, _ => rfl
  | 44, _, _ => rfl
  | 45, _, _ => rfl
  | 46, _, _ => rfl
  | 47, _, _ => rfl
  | 48, _, _ => rfl
  | 49, _, _ => rfl
  | 50, _, _ => rfl
  | 51, _, _ => rfl
  | 52, _, _ => rfl
  | 53, _, _ => rfl
  | 54, _, _ => rfl
  | 55, _, _ => rfl
  | 56, _, _ => rfl
  | 57, _, _ => rfl
  | 58, _, _ => rfl
  | 59, _, _ => rfl
  | 60, _, _ => rfl
  | 61, _, _ => rfl
  | 62, _, _ => rfl
  | 63, _, _ => rfl
  | 64, _, _ => rfl
  | 65, h, _ => absurd rfl h
  | 66, _, h => absurd rfl h
  | 67, _, _ => rfl
  | 68, _, _ => rfl
  | 69, _, _ => rfl
  | 70, _, _ => rfl
  | 71, _, _ => rfl
  | n + 72, _, _ => rfl
theorem zrun_sx (sx sx' : zX) : ∀ (n d j k : Nat) (lo : zL) (st : List Value) (h : zH) (r : zRes), j < 343 → z_run sx n d j k lo st h = some r → z_run sx' n d j k lo st h = some r := by
  intro n
  induction n with
  | zero => intro d j k lo st h r _ hr; rw [z_run] at hr; cases hr
  | succ n ih =>
    intro d j k lo st h r hj hr
    rw [z_run] at hr
    rw [z_run]
    cases hM : z_ms[j]? with
    | none => rw [hM] at hr; cases hr
    | some M =>
    cases hC : z_cs[j]? with
    | none => rw [hM, hC] at hr; cases hr
    | some cs =>
    cases hH : z_hs[j]? with
    | none => rw [hM, hC, hH] at hr; cases hr
    | some hs =>
    rw [hM, hC, hH] at hr
    dsimp only at hr ⊢
    cases hk : cs[k]? with
    | none => rw [hk] at hr; cases hr
    | some i =>
    have hno : zNos i = true := by
      have h1 := List.all_eq_true.mp zNos_all cs (List.mem_of_getElem? (i := j) (by rw [List.getElem?_take, if_pos hj]; exact hC))
      exact List.all_eq_true.mp h1 i (List.mem_of_getElem? hk)
    unfold zNos at hno
    rw [Bool.and_eq_true, Bool.and_eq_true, Bool.or_eq_true, decide_eq_true_eq, decide_eq_true_eq, decide_eq_true_eq, decide_eq_true_eq] at hno
    obtain ⟨n1, n2, n3⟩ := hno
    rw [hk] at hr
    dsimp only at hr ⊢
    cases hf : z_fin M i d st with
    | some w => rw [hf] at hr; exact hr
    | none =>
    rw [hf] at hr
    dsimp only at hr ⊢
    cases hc : z_cal i d st h with
    | some w =>
      obtain ⟨j', as, rest⟩ := w
      have hj' : j' < 343 := by
        have e1 := (z_cal_in hc).1
        have e2 := z_cal_no e1
        have e3 := zcal0_j e1
        rw [e3]
        rcases n3 with n3 | n3
        · omega
        · exact n3
      rw [hc] at hr
      dsimp only at hr ⊢
      cases hin : z_run sx n (d - 1) j' 0 (lv_args 0 as) [] h with
      | none => rw [hin] at hr; cases hr
      | some w =>
      obtain ⟨oi, h1, x1, y1⟩ := w
      rw [hin] at hr
      rw [ih _ _ _ _ _ _ _ hj' hin]
      cases oi with
      | inl v =>
        dsimp only at hr ⊢
        obtain ⟨r1, r2, r3, r4⟩ := r
        obtain ⟨a, b, e1, e2, e3⟩ := z_mapadd hr
        rw [ih _ _ _ _ _ _ _ hj e1, e2, e3]
        rfl
      | inr E =>
        dsimp only at hr ⊢
        by_cases hi : i.1 = 54
        case neg => rw [if_neg hi] at hr; cases hr
        rw [if_pos hi] at hr ⊢
        cases hfd : hs.find? (fun q => q.2.2.2.2.1 == E) with
        | some q =>
          rw [hfd] at hr
          dsimp only at hr ⊢
          obtain ⟨r1, r2, r3, r4⟩ := r
          obtain ⟨a, b, e1, e2, e3⟩ := z_mapadd hr
          rw [ih _ _ _ _ _ _ _ hj e1, e2, e3]
          rfl
        | none => rw [hfd] at hr; exact hr
    | none =>
    rw [hc] at hr
    dsimp only at hr ⊢
    rw [zops_sx sx' sx i.1 n1 n2]
    cases ho : (z_ops.getD i.1 z_no) sx d i.2.1 i.2.2.1 i.2.2.2 k lo st h with
    | none => rw [ho] at hr; cases hr
    | some w =>
    obtain ⟨k', lo', st', h', x1, y1⟩ := w
    rw [ho] at hr
    dsimp only at hr ⊢
    obtain ⟨r1, r2, r3, r4⟩ := r
    obtain ⟨a, b, e1, e2, e3⟩ := z_mapadd hr
    rw [ih _ _ _ _ _ _ _ hj e1, e2, e3]
    rfl
/-! a typed heap, tested -/
noncomputable def zGb (ty : List Nat) (a : zA) (v : Value) : Bool := match a.1, v with
  | 0, .int x => decide (a.2.1 ≤ x.toInt) && decide (x.toInt ≤ a.2.2)
  | 1, .long x => decide (a.2.1 ≤ x.toInt) && decide (x.toInt ≤ a.2.2)
  | 2, .ref i => (match ty[i]? with | some t => decide (a.2.1 ≤ (t : Int)) && decide ((t : Int) ≤ a.2.2) | none => false)
  | 3, .null => true
  | _, _ => false
theorem zGb_ok {ty : List Nat} {a : zA} {v : Value} (h : zGb ty a v = true) : zG ty a v := by
  obtain ⟨t, lo, hi⟩ := a
  unfold zGb at h
  split at h
  · next x e =>
    dsimp only at e
    subst e
    rw [Bool.and_eq_true, decide_eq_true_eq, decide_eq_true_eq] at h
    exact ⟨x, rfl, h.1, h.2⟩
  · next x e =>
    dsimp only at e
    subst e
    rw [Bool.and_eq_true, decide_eq_true_eq, decide_eq_true_eq] at h
    exact ⟨x, rfl, h.1, h.2⟩
  · next i e =>
    dsimp only at e
    subst e
    split at h
    · next t ht =>
      rw [Bool.and_eq_true, decide_eq_true_eq, decide_eq_true_eq] at h
      exact ⟨i, t, rfl, ht, h.1, h.2⟩
    · cases h
  · next e =>
    dsimp only at e
    subst e
    exact Or.inl rfl
  · cases h
noncomputable def zShb (T : zTy) (e : zE) : Bool := match T.1, e with
  | 0, .inr (c, fs) => decide (c = T.2.1) && decide (fs.length = T.2.2.1)
  | 1, .inl (0, (n, .inl _)) => decide (n = T.2.2.1)
  | 2, .inl (1, (n, .inl _)) => decide (n = T.2.2.1)
  | 3, .inl (2, (n, .inr (.inl _))) => decide (n = T.2.2.1)
  | 4, .inl (3, (n, .inr (.inr (.inr (.inr _))))) => decide (n = T.2.2.1)
  | _, _ => false
theorem zShb_ok {T : zTy} {e : zE} (h : zShb T e = true) : z_sh T e := by
  unfold zShb at h
  unfold z_sh
  split at h
  · next e1 =>
    rw [Bool.and_eq_true, decide_eq_true_eq, decide_eq_true_eq] at h
    rw [e1]
    exact h
  · next e1 => have h := of_decide_eq_true h; rw [e1]; exact h
  · next e1 => have h := of_decide_eq_true h; rw [e1]; exact h
  · next e1 => have h := of_decide_eq_true h; rw [e1]; exact h
  · next e1 => have h := of_decide_eq_true h; rw [e1]; exact h
  · cases h
noncomputable def zRgb (ty : List Nat) (e : zE) (r : Int × Int × zA) : Bool := decide (0 ≤ r.1) && (List.range (r.2.1 - r.1 + 1).toNat).all (fun k => match z_rd e (r.1.toNat + k) with | some v => zGb ty r.2.2 v | none => true)
noncomputable def zCb (ty : List Nat) (t : Nat) (e : zE) : Bool := zShb (z_tt t) e && (z_tt t).2.2.2.all (zRgb ty e)
theorem zCb_ok {ty : List Nat} {t : Nat} {e : zE} (h : zCb ty t e = true) : z_sh (z_tt t) e ∧ ∀ (i : Nat) (v : Value), z_rd e i = some v → ∀ r ∈ (z_tt t).2.2.2, r.1 ≤ (i : Int) → (i : Int) ≤ r.2.1 → zG ty r.2.2 v := by
  unfold zCb at h
  rw [Bool.and_eq_true] at h
  refine ⟨zShb_ok h.1, fun i v hv r hr r1 r2 => ?_⟩
  have h2 := List.all_eq_true.mp h.2 r hr
  unfold zRgb at h2
  rw [Bool.and_eq_true, decide_eq_true_eq] at h2
  have h3 := List.all_eq_true.mp h2.2 (i - r.1.toNat) (List.mem_range.mpr (by omega))
  rw [show r.1.toNat + (i - r.1.toNat) = i by omega, hv] at h3
  exact zGb_ok h3
noncomputable def zHb (ty0 : List Nat) : List Nat → zH → Bool
  | [], [] => true
  | t :: ts, e :: es => zCb ty0 t e && zHb ty0 ts es
  | _, _ => false
theorem zHb_ok {ty0 : List Nat} : ∀ {ts : List Nat} {es : zH}, zHb ty0 ts es = true → ts.length = es.length ∧ ∀ (a t : Nat) (e : zE), ts[a]? = some t → es[a]? = some e → zCb ty0 t e = true
  | [], [], _ => ⟨rfl, fun a t e h => by simp at h⟩
  | [], _ :: _, h => by cases h
  | _ :: _, [], h => by cases h
  | t :: ts, e :: es, h => by
    rw [zHb, Bool.and_eq_true] at h
    obtain ⟨k1, k2⟩ := zHb_ok h.2
    refine ⟨by rw [List.length_cons, List.length_cons, k1], fun a t' e' ha he => ?_⟩
    cases a with
    | zero =>
      simp only [List.getElem?_cons_zero, Option.some.injEq] at ha he
      rw [← ha, ← he]
      exact h.1
    | succ a => exact k2 a t' e' (by simpa using ha) (by simpa using he)
noncomputable def zLb (ts : List Nat) (es : zH) : Bool := (List.range ts.length).all (fun a => match ts[a]?, es[a]? with
  | some t, some (.inl (0, (_, .inl f))) => decide (t ≠ 21 ∧ t ≠ 22 ∧ t ≠ 23) || decide ((f 388).toInt = 0)
  | _, _ => true)
noncomputable def zUb (ts : List Nat) : Bool := (List.range ts.length).all (fun a => match ts[a]? with
  | some t => decide (t < 20) || (decide (32 < t) || decide (a = t + 185))
  | none => true)
end
section
/-! the run, cheap for the kernel -/
noncomputable def zo_getF : zNop := fun _ _ a b _ k l st h => match st with
  | .ref i :: st => match zlku h i with
    | some (.inr (c, fs)) => if c = a then (match zlku fs b with | some v => zn (k + 1) l (v :: st) h | none => none) else none
    | _ => none
  | _ => none
theorem zo_getF_eq : zo_getF = zo_get := by
  funext sx d a b c k l st h
  unfold zo_getF zo_get
  simp only [zlku_eq, zse_eq, zln_eq, zsn_eq, zlkd_eq] <;> rfl
noncomputable def zo_putF : zNop := fun _ _ a b c k l st h => match st with
  | v :: .ref i :: st => match zlku h i with
    | some (.inr (c', fs)) => if c' = a ∧ b < zln fs ∧ z_fit c v = true then zn (k + 1) l st (zse h (.inr (c', (zse fs v b))) i) else none
    | _ => none
  | _ => none
theorem zo_putF_eq : zo_putF = zo_put := by
  funext sx d a b c k l st h
  unfold zo_putF zo_put
  simp only [zlku_eq, zse_eq, zln_eq, zsn_eq, zlkd_eq] <;> rfl
noncomputable def zo_iastF : zNop := fun _ _ _ _ _ k l st h => match st with
  | .int v :: .int j :: .ref i :: st => match zlku h i with
    | some (.inl (0, (n, .inl f))) => if z_in j n = true then zn (k + 1) l st (zse h (.inl (0, (n, .inl (upd f j.toNatClampNeg v)))) i) else none
    | _ => none
  | _ => none
theorem zo_iastF_eq : zo_iastF = zo_iast := by
  funext sx d a b c k l st h
  unfold zo_iastF zo_iast
  simp only [zlku_eq, zse_eq, zln_eq, zsn_eq, zlkd_eq] <;> rfl
noncomputable def zo_aastF : zNop := fun _ _ _ _ _ k l st h => match st with
  | .ref v :: .int j :: .ref i :: st => match zlku h i, zlku h v with
    | some (.inl (3, (n, .inr (.inr (.inr (.inr f)))))), some (.inr (1, _)) => if z_in j n = true then zn (k + 1) l st (zse h (.inl (3, (n, .inr (.inr (.inr (.inr (va_up f j.toNatClampNeg (some v)))))))) i) else none
    | _, _ => none
  | _ => none
theorem zo_aastF_eq : zo_aastF = zo_aast := by
  funext sx d a b c k l st h
  unfold zo_aastF zo_aast
  simp only [zlku_eq, zse_eq, zln_eq, zsn_eq, zlkd_eq] <;> rfl
noncomputable def zo_newF : zNop := fun _ _ a _ _ k l st h => if zln h < zB then (match vwCl[a]? with
  | some q => some (k + 1, l, .ref (zln h) :: st, zsn h (.inr (a, zlkd z_df a [])), 1, q.2.2)
  | none => none) else none
theorem zo_newF_eq : zo_newF = zo_new := by
  funext sx d a b c k l st h
  unfold zo_newF zo_new
  simp only [zlku_eq, zse_eq, zln_eq, zsn_eq, zlkd_eq] <;> rfl
noncomputable def zo_newaF : zNop := fun _ _ a _ _ k l st h => match st with
  | .int n :: st => if ¬ n < 0 ∧ n.toNatClampNeg ≤ 65536 ∧ zln h < zB ∧ a < 3 then some (k + 1, l, .ref (zln h) :: st, zsn h (z_new a n.toNatClampNeg), 1, n.toNatClampNeg) else none
  | _ => none
theorem zo_newaF_eq : zo_newaF = zo_newa := by
  funext sx d a b c k l st h
  unfold zo_newaF zo_newa
  simp only [zlku_eq, zse_eq, zln_eq, zsn_eq, zlkd_eq] <;> rfl
noncomputable def zo_anewF : zNop := fun _ _ _ _ _ k l st h => match st with
  | .int n :: st => if ¬ n < 0 ∧ n.toNatClampNeg ≤ 65536 ∧ zln h < zB then some (k + 1, l, .ref (zln h) :: st, zsn h (.inl (3, (n.toNatClampNeg, .inr (.inr (.inr (.inr (fun _ => none))))))), 1, n.toNatClampNeg) else none
  | _ => none
theorem zo_anewF_eq : zo_anewF = zo_anew := by
  funext sx d a b c k l st h
  unfold zo_anewF zo_anew
  simp only [zlku_eq, zse_eq, zln_eq, zsn_eq, zlkd_eq] <;> rfl
noncomputable def zopF (o : Nat) : zNop := cond (Nat.beq o 37) zo_getF (cond (Nat.beq o 38) zo_putF (cond (Nat.beq o 40) zo_iastF (cond (Nat.beq o 45) zo_aastF (cond (Nat.beq o 49) zo_newF (cond (Nat.beq o 47) zo_newaF (cond (Nat.beq o 48) zo_anewF (zlkd z_ops o z_no)))))))
theorem zopF_eq (o : Nat) : zopF o = z_ops.getD o z_no := by
  unfold zopF
  rw [zlkd_eq, zo_getF_eq, zo_putF_eq, zo_iastF_eq, zo_aastF_eq, zo_newF_eq, zo_newaF_eq, zo_anewF_eq]
  cases q0 : Nat.beq o 37 with
  | true => rw [Nat.eq_of_beq_eq_true q0]; rfl
  | false =>
  cases q1 : Nat.beq o 38 with
  | true => rw [Nat.eq_of_beq_eq_true q1]; rfl
  | false =>
  cases q2 : Nat.beq o 40 with
  | true => rw [Nat.eq_of_beq_eq_true q2]; rfl
  | false =>
  cases q3 : Nat.beq o 45 with
  | true => rw [Nat.eq_of_beq_eq_true q3]; rfl
  | false =>
  cases q4 : Nat.beq o 49 with
  | true => rw [Nat.eq_of_beq_eq_true q4]; rfl
  | false =>
  cases q5 : Nat.beq o 47 with
  | true => rw [Nat.eq_of_beq_eq_true q5]; rfl
  | false =>
  cases q6 : Nat.beq o 48 with
  | true => rw [Nat.eq_of_beq_eq_true q6]; rfl
  | false =>
  rfl
noncomputable def z_runF (sx : zX) : Nat → Nat → Nat → Nat → zL → List Value → zH → Option zRes
  | 0, _, _, _, _, _, _ => none
  | n + 1, d, j, k, lo, st, h => zlit k fun k => zspn h fun h => match zlku z_ms j, zlku z_cs j, zlku z_hs j with
    | some M, some cs, some hs => (match zlku cs k with
      | none => none
      | some i => (match z_fin M i d st with
        | some (o, x, y) => some (o, h, x, y)
        | none => (match z_cal i d st h with
          | some (j', as, rest) => (match z_runF sx n (d - 1) j' 0 (lv_args 0 as) [] h with
            | some (.inl v, h', x, y) => (z_runF sx n d j (k + 1) lo (v.toList ++ rest) h').map (z_add x y)
            | some (.inr E, h', x, y) => if i.1 = 54 then (match hs.find? (fun q => q.2.2.2.2.1 == E) with
                | some q => (z_runF sx n d j q.2.2.2.2.2.1 (z_drop lo q.2.2.2.2.2.2) [] h').map (z_add x y)
                | none => if hs = [] then some (.inr E, h', x, y) else none) else none
            | none => none)
          | none => (match (zopF i.1) sx d i.2.1 i.2.2.1 i.2.2.2 k lo st h with
            | some (k', lo', st', h', x, y) => (z_runF sx n d j k' lo' st' h').map (z_add x y)
            | none => none))))
    | _, _, _ => none
theorem z_runF_eq {sx : zX} : ∀ (n d j k : Nat) (lo : zL) (st : List Value) (h : zH), z_runF sx n d j k lo st h = z_run sx n d j k lo st h
  | 0, _, _, _, _, _, _ => rfl
  | n + 1, d, j, k, lo, st, h => by
    have ih : z_runF sx n = z_run sx n := by
      funext d j k lo st h
      exact z_runF_eq n d j k lo st h
    rw [z_runF, z_run]
    simp only [zspn_eq, zlit_eq, zlku_eq, zopF_eq, ih] <;> rfl
end
