/-! switches, returns, throws, calls -/
noncomputable def zt_cs (env : List zEn) (me : List zMe) (j : Nat) (loc : zLs) (x : Nat) (stk : List Nat) (fs : List zAf) (X Y : Nat) (lo hi : Int) (tg : Nat) : List zSt := match zref env x lo hi with
  | some e => [(e, me, (j, tg, loc, stk) :: fs, X, Y)]
  | none => []
noncomputable def zt_tab (env : List zEn) (me : List zMe) (j : Nat) (loc : zLs) (x : Nat) (stk : List Nat) (fs : List zAf) (X Y : Nat) : Int → List Nat → List zSt
  | _, [] => []
  | v, tg :: tgs => zt_cs env me j loc x stk fs X Y v v tg ++ zt_tab env me j loc x stk fs X Y (v + 1) tgs
noncomputable def zt_lk (env : List zEn) (me : List zMe) (j : Nat) (loc : zLs) (x : Nat) (stk : List Nat) (fs : List zAf) (X Y : Nat) : List (Int × Nat) → List zSt
  | [] => []
  | p :: ps => zt_cs env me j loc x stk fs X Y p.1 p.1 p.2 ++ zt_lk env me j loc x stk fs X Y ps
noncomputable def zt_sw (i : zI) (env : List zEn) (me : List zMe) (j : Nat) (loc : zLs) (stk : List Nat) (fs : List zAf) (X Y : Nat) : Option (List zSt) := match i.1, stk with
  | 35, x :: stk => (match z_sw[i.2.1]? with
    | some t => if (zav env x).1 = 0 then some (zt_tab env me j loc x stk fs X Y t.1 t.2.1 ++ (zt_cs env me j loc x stk fs X Y zMn (t.1 - 1) t.2.2 ++ zt_cs env me j loc x stk fs X Y (t.1 + (t.2.1.length : Int)) zMx t.2.2)) else none
    | none => none)
  | 36, x :: stk => (match z_lk[i.2.1]? with
    | some t => if (zav env x).1 = 0 then some ((env, me, (j, t.2, loc, stk) :: fs, X, Y) :: zt_lk env me j loc x stk fs X Y t.1) else none
    | none => none)
  | _, _ => none
theorem zt_tab_mem {env env' : List zEn} {me : List zMe} {j : Nat} {loc : zLs} {x : Nat} {stk : List Nat} {fs : List zAf} {X Y : Nat} : ∀ {v : Int} {tgs : List Nat} {n tg : Nat}, tgs[n]? = some tg → zref env x (v + (n : Int)) (v + (n : Int)) = some env' → (env', me, (j, tg, loc, stk) :: fs, X, Y) ∈ zt_tab env me j loc x stk fs X Y v tgs
  | _, [], n, _, h, _ => by simp at h
  | v, t0 :: tgs, 0, tg, h, h2 => by
    simp only [List.getElem?_cons_zero, Option.some.injEq] at h
    subst h
    rw [zt_tab]
    refine List.mem_append_left _ ?_
    unfold zt_cs
    rw [show v + ((0 : Nat) : Int) = v by omega] at h2
    rw [h2]
    exact List.mem_singleton.mpr rfl
  | v, t0 :: tgs, n + 1, tg, h, h2 => by
    rw [zt_tab]
    refine List.mem_append_right _ (zt_tab_mem (n := n) (by simpa using h) ?_)
    rw [show v + 1 + (n : Int) = v + ((n + 1 : Nat) : Int) by omega]
    exact h2
theorem zt_cs_mem {env env' : List zEn} {me : List zMe} {j : Nat} {loc : zLs} {x : Nat} {stk : List Nat} {fs : List zAf} {X Y : Nat} {lo hi : Int} {tg : Nat} (h : zref env x lo hi = some env') : (env', me, (j, tg, loc, stk) :: fs, X, Y) ∈ zt_cs env me j loc x stk fs X Y lo hi tg := by
  unfold zt_cs
  rw [h]
  exact List.mem_singleton.mpr rfl
section ZCTL
variable {tt : Nat → zTy} {Ex : List Nat → zH → Prop} {ct : zCt} {ty0 : List Nat} {h0 : zH} {ρ0 : List Value} {sx : zX} {d0 : Nat} {j k : Nat} {loc : zLs} {stk : List Nat} {fs : List zAf} {X9 Y9 X Y : Nat} {env : List zEn} {me : List zMe} {lo : zL} {st : List Value} {cfs : List zCf} {h : zH} {ty : List Nat} {ρ : List Value} {M : zMi} {cs : List zI} {hs : List zHd} {i : zI} {l : List zSt} {Φ : zO → zH → Nat → Nat → Prop}
theorem zt_lk_mem {u : Int32} {x : Nat} (E : zEv ty ρ env) (hx : ρ[x]? = some (.int u)) : ∀ {ps : List (Int × Nat)} {d : Nat}, z_lkr ps d u.toInt = d ∨ ∃ env', zEv ty ρ env' ∧ (env', me, (j, z_lkr ps d u.toInt, loc, stk) :: fs, X9, Y9) ∈ zt_lk env me j loc x stk fs X9 Y9 ps
  | [], d => Or.inl rfl
  | p :: ps, d => by
    rw [zt_lk]
    obtain ⟨pa, pn⟩ := p
    rw [z_lkr]
    by_cases hp : pa = u.toInt
    · rw [if_pos hp]
      obtain ⟨e1, q1, E1⟩ := zref_ok (lo := pa) (hi := pa) E hx (by omega) (by omega)
      exact Or.inr ⟨e1, E1, List.mem_append_left _ (zt_cs_mem q1)⟩
    · rw [if_neg hp]
      rcases zt_lk_mem E hx (ps := ps) (d := d) with q | ⟨e1, E1, q⟩
      · exact Or.inl q
      · exact Or.inr ⟨e1, E1, List.mem_append_right _ q⟩
theorem zt_sw_ok (hM : z_ms[j]? = some M) (hC : z_cs[j]? = some cs) (hH : z_hs[j]? = some hs) (hi : cs[k]? = some i) (a1 : zRx ρ0 ρ) (a2 : zExt ty0 ty) (a3 : zTY tt ty h) (a4 : Ex ty h) (a5 : zFm (zcM ct) ty0 h0 h) (a6 : zEv ty ρ env) (a7 : zMm h ρ me) (a8 : zLo ρ loc lo) (a9 : zSk ρ stk st) (a10 : zFs ρ fs cfs) (a11 : X ≤ X9) (a12 : Y ≤ Y9)
    (hq : zt_sw i env me j loc stk fs X9 Y9 = some l) (hl : zTo tt Ex ct ty0 h0 ρ0 sx d0 Φ l) : zGo sx d0 Φ ((j, k, lo, st) :: cfs) h X Y := by
  unfold zt_sw at hq
  split at hq
  · next x stk hi1 =>
    match st, a9 with
    | v :: st, a9 =>
    split at hq
    case h_2 => cases hq
    next t ht =>
    split at hq
    case isFalse => cases hq
    next hz =>
    cases hq
    obtain ⟨u, rfl, u1, u2⟩ := zG0 (a6.at a9.1) hz
    have ub := zb32 u
    have e1 : zMn = -2147483648 := rfl
    have e2 : zMx = 2147483647 := rfl
    have hop : ∀ k', z_swt t u = k' → (z_ops.getD i.1 z_no) sx (d0 - cfs.length) i.2.1 i.2.2.1 i.2.2.2 k lo (.int u :: st) h = zn k' lo st h := fun k' e => by
      rw [hi1, ← e]
      show zo_tsw sx (d0 - cfs.length) i.2.1 i.2.2.1 i.2.2.2 k lo (.int u :: st) h = zn (z_swt t u) lo st h
      unfold zo_tsw
      dsimp only
      rw [ht]
    by_cases hlow : u.toInt < t.1
    · obtain ⟨e1, q1, E1⟩ := zref_ok (lo := zMn) (hi := t.1 - 1) a6 a9.1 (by omega) (by omega)
      exact zt_jump (ρ' := ρ) (k' := t.2.2) hM hC hH hi (by omega) (hop _ (by unfold z_swt; exact if_pos hlow)) a1 a2 a3 a4 a5 a7 a10 a11 a12 zRx.rf E1 a8 a9.2 (List.mem_append_right _ (List.mem_append_left _ (zt_cs_mem q1))) hl
    · cases hg : t.2.1[(u.toInt - t.1).toNat]? with
      | some tg =>
        obtain ⟨e1, q1, E1⟩ := zref_ok (lo := t.1 + ((u.toInt - t.1).toNat : Int)) (hi := t.1 + ((u.toInt - t.1).toNat : Int)) a6 a9.1 (by omega) (by omega)
        exact zt_jump (ρ' := ρ) (k' := tg) hM hC hH hi (by omega) (hop _ (by unfold z_swt; rw [if_neg hlow, hg]; rfl)) a1 a2 a3 a4 a5 a7 a10 a11 a12 zRx.rf E1 a8 a9.2 (List.mem_append_left _ (zt_tab_mem hg q1)) hl
      | none =>
        have hlen := List.getElem?_eq_none_iff.mp hg
        obtain ⟨e1, q1, E1⟩ := zref_ok (lo := t.1 + (t.2.1.length : Int)) (hi := zMx) a6 a9.1 (by omega) (by omega)
        exact zt_jump (ρ' := ρ) (k' := t.2.2) hM hC hH hi (by omega) (hop _ (by unfold z_swt; rw [if_neg hlow, hg]; rfl)) a1 a2 a3 a4 a5 a7 a10 a11 a12 zRx.rf E1 a8 a9.2 (List.mem_append_right _ (List.mem_append_right _ (zt_cs_mem q1))) hl
  · next x stk hi1 =>
    match st, a9 with
    | v :: st, a9 =>
    split at hq
    case h_2 => cases hq
    next t ht =>
    split at hq
    case isFalse => cases hq
    next hz =>
    cases hq
    obtain ⟨u, rfl, u1, u2⟩ := zG0 (a6.at a9.1) hz
    have hop : (z_ops.getD i.1 z_no) sx (d0 - cfs.length) i.2.1 i.2.2.1 i.2.2.2 k lo (.int u :: st) h = zn (z_lkr t.1 t.2 u.toInt) lo st h := by
      rw [hi1]
      show zo_lsw2 sx (d0 - cfs.length) i.2.1 i.2.2.1 i.2.2.2 k lo (.int u :: st) h = zn (z_lkr t.1 t.2 u.toInt) lo st h
      unfold zo_lsw2
      dsimp only
      rw [ht]
    rcases zt_lk_mem (me := me) (loc := loc) (stk := stk) (fs := fs) (j := j) (X9 := X9) (Y9 := Y9) a6 a9.1 (ps := t.1) (d := t.2) with q | ⟨e1, E1, q⟩
    · rw [q] at hop
      exact zt_jump (ρ' := ρ) (k' := t.2) hM hC hH hi (by omega) hop a1 a2 a3 a4 a5 a7 a10 a11 a12 zRx.rf a6 a8 a9.2 List.mem_cons_self hl
    · exact zt_jump (ρ' := ρ) hM hC hH hi (by omega) hop a1 a2 a3 a4 a5 a7 a10 a11 a12 zRx.rf E1 a8 a9.2 (List.mem_cons_of_mem _ q) hl
  · cases hq
/-! returns -/
theorem z_fin50 {M : zMi} {i : zI} {d : Nat} {r : Int32} (h : i.1 = 50) : z_fin M i d [.int r] = (match M.2.2.2.2.1 with | some ty => if narrow ty (.int r) = .int r then some (.inl (some (.int r)), 0, 0) else none | none => none) := by
  unfold z_fin
  rw [h]
  rfl
theorem z_fin62 {M : zMi} {i : zI} {d : Nat} {st : List Value} (h : i.1 = 62) : z_fin M i d st = if 6 ≤ d ∧ z_cat st ≤ 8 then some (.inr i.2.1, 1, 6) else none := by
  unfold z_fin
  rw [h]
  all_goals rfl
noncomputable def zt_ro (ct : zCt) (env : List zEn) (v : Option Nat) : Bool := match zcR ct, v with
  | [], none => true
  | [a], some x => zLe (zav env x) a
  | _, _ => false
noncomputable def zt_rk (ct : zCt) (env : List zEn) (me : List zMe) (fs : List zAf) (X Y : Nat) (v : Option Nat) : Option (List zSt) := match fs with
  | [] => if zt_ro ct env v = true ∧ X ≤ (zcK ct).1 ∧ Y ≤ (zcK ct).2.1 then some [] else none
  | f :: fs => match (z_cs.getD f.1 [])[f.2.1]?, z_hs[f.1]? with
    | some _, some _ => some [(env, me, (f.1, f.2.1 + 1, f.2.2.1, v.toList ++ f.2.2.2) :: fs, X, Y)]
    | _, _ => none
theorem zt_rk_ok {v : Option Nat} {w : Option Value} (hv : (v = none ∧ w = none) ∨ ∃ x u, v = some x ∧ w = some u ∧ ρ[x]? = some u) (a1 : zRx ρ0 ρ) (a2 : zExt ty0 ty) (a3 : zTY tt ty h) (a4 : Ex ty h) (a5 : zFm (zcM ct) ty0 h0 h) (a6 : zEv ty ρ env) (a7 : zMm h ρ me) (a10 : zFs ρ fs cfs) (a11 : X ≤ X9) (a12 : Y ≤ Y9)
    (hq : zt_rk ct env me fs X9 Y9 v = some l) (hl : zTo tt Ex ct ty0 h0 ρ0 sx d0 Φ l) : zKx sx d0 Φ cfs (.inl w) h X Y := by
  unfold zt_rk at hq
  cases fs with
  | nil =>
    cases cfs with
    | cons c cfs => exact a10.elim
    | nil =>
    dsimp only at hq
    split at hq
    case isFalse => cases hq
    next hc =>
    refine hl.1 _ _ _ _ ⟨ty, a2, a3, a4, a5, ?_, Nat.le_trans a11 hc.2.1, Nat.le_trans a12 hc.2.2⟩
    have h1 := hc.1
    unfold zt_ro at h1
    rcases hv with ⟨rfl, rfl⟩ | ⟨x, u, rfl, rfl, hx⟩
    · split at h1
      · next e1 e2 => rw [e1]; trivial
      · next e2 => cases e2
      · cases h1
    · split at h1
      · next e2 => cases e2
      · next a x9 e1 e2 =>
        cases e2
        rw [e1]
        exact zLe_ok h1 (a6.at hx)
      · cases h1
  | cons f fs =>
    cases cfs with
    | nil => exact a10.elim
    | cons c cfs =>
    dsimp only at hq
    obtain ⟨b1, b2, b3, b4, b5⟩ := a10
    obtain ⟨cj, ck, clo, cst⟩ := c
    dsimp only at b1 b2 b3 b4
    split at hq
    case h_2 => cases hq
    next i hs w3 w2 =>
    cases hq
    rw [b1, b2] at w3
    rw [b1] at w2
    obtain ⟨cs, w1⟩ : ∃ cs, z_cs[cj]? = some cs := by
      cases hC : z_cs[cj]? with
      | none => rw [List.getD_eq_getElem?_getD, hC] at w3; simp at w3
      | some cs => exact ⟨cs, rfl⟩
    rw [List.getD_eq_getElem?_getD, w1, Option.getD_some] at w3
    refine zKx.ret w1 w2 w3 (hl.2 _ (List.mem_singleton.mpr rfl) _ h X Y ⟨ty, ρ, a1, a2, a3, a4, a5, a6, a7, ⟨b1, by rw [b2], b3, ?_, b5⟩, a11, a12⟩)
    rcases hv with ⟨rfl, rfl⟩ | ⟨x, u, rfl, rfl, hx⟩
    · exact b4
    · exact ⟨hx, b4⟩
noncomputable def zt_ret (ct : zCt) (M : zMi) (i : zI) (env : List zEn) (me : List zMe) (stk : List Nat) (fs : List zAf) (X Y : Nat) : Option (List zSt) := match i.1, stk with
  | 50, [x] => if (zav env x).1 = 0 ∧ (M.2.2.2.2.1 = some .int ∨ (M.2.2.2.2.1 = some .boolean ∧ 0 ≤ (zav env x).2.1 ∧ (zav env x).2.2 ≤ 1)) then zt_rk ct env me fs X Y (some x) else none
  | 51, [x] => if (zav env x).1 = 1 then zt_rk ct env me fs X Y (some x) else none
  | 52, [x] => if zisR (zav env x) = true then zt_rk ct env me fs X Y (some x) else none
  | 53, [] => zt_rk ct env me fs X Y none
  | _, _ => none
theorem zt_ret_ok (hM : z_ms[j]? = some M) (hC : z_cs[j]? = some cs) (hH : z_hs[j]? = some hs) (hi : cs[k]? = some i) (a1 : zRx ρ0 ρ) (a2 : zExt ty0 ty) (a3 : zTY tt ty h) (a4 : Ex ty h) (a5 : zFm (zcM ct) ty0 h0 h) (a6 : zEv ty ρ env) (a7 : zMm h ρ me) (a9 : zSk ρ stk st) (a10 : zFs ρ fs cfs) (a11 : X ≤ X9) (a12 : Y ≤ Y9)
    (hq : zt_ret ct M i env me stk fs X9 Y9 = some l) (hl : zTo tt Ex ct ty0 h0 ρ0 sx d0 Φ l) : zGo sx d0 Φ ((j, k, lo, st) :: cfs) h X Y := by
  unfold zt_ret at hq
  split at hq
  · next x hi1 =>
    match st, a9 with
    | [v], a9 =>
    split at hq
    case isFalse => cases hq
    next hc =>
    obtain ⟨u, rfl, u1, u2⟩ := zG0 (a6.at a9.1) hc.1
    have hfin : z_fin M i (d0 - cfs.length) [.int u] = some (.inl (some (.int u)), 0, 0) := by
      rw [z_fin50 hi1]
      rcases hc.2 with e | ⟨e, e1, e2⟩
      · rw [e]
        exact if_pos rfl
      · rw [e]
        have hx : u.toInt = 0 ∨ u.toInt = 1 := by omega
        have : u = 0 ∨ u = 1 := hx.imp (fun e => Int32.toInt_inj.mp (by rw [e]; rfl)) (fun e => Int32.toInt_inj.mp (by rw [e]; rfl))
        rcases this with rfl | rfl
        · exact if_pos rfl
        · exact if_pos rfl
    refine zGo.fin hM hC hH hi hfin ?_
    rw [Nat.zero_add, Nat.zero_add]
    exact zt_rk_ok (Or.inr ⟨x, _, rfl, rfl, a9.1⟩) a1 a2 a3 a4 a5 a6 a7 a10 a11 a12 hq hl
  · next x hi1 =>
    match st, a9 with
    | [v], a9 =>
    split at hq
    case isFalse => cases hq
    next hc =>
    obtain ⟨u, rfl, u1, u2⟩ := zG1 (a6.at a9.1) hc
    refine zGo.fin hM hC hH hi (o := .inl (some (.long u))) (x := 0) (y := 0) (by unfold z_fin; rw [hi1]; rfl) ?_
    rw [Nat.zero_add, Nat.zero_add]
    exact zt_rk_ok (Or.inr ⟨x, _, rfl, rfl, a9.1⟩) a1 a2 a3 a4 a5 a6 a7 a10 a11 a12 hq hl
  · next x hi1 =>
    match st, a9 with
    | [v], a9 =>
    split at hq
    case isFalse => cases hq
    next hc =>
    obtain ⟨u, rfl⟩ := zGr (a6.at a9.1) hc
    refine zGo.fin hM hC hH hi (o := .inl (some (.ref u))) (x := 0) (y := 0) (by unfold z_fin; rw [hi1]; rfl) ?_
    rw [Nat.zero_add, Nat.zero_add]
    exact zt_rk_ok (Or.inr ⟨x, _, rfl, rfl, a9.1⟩) a1 a2 a3 a4 a5 a6 a7 a10 a11 a12 hq hl
  · next hi1 =>
    match st, a9 with
    | [], a9 =>
    refine zGo.fin hM hC hH hi (o := .inl none) (x := 0) (y := 0) (by unfold z_fin; rw [hi1]; rfl) ?_
    rw [Nat.zero_add, Nat.zero_add]
    exact zt_rk_ok (Or.inl ⟨rfl, rfl⟩) a1 a2 a3 a4 a5 a6 a7 a10 a11 a12 hq hl
  · cases hq
/-! throws -/
noncomputable def zt_un (ct : zCt) (env : List zEn) (me : List zMe) (X Y E : Nat) : List zAf → Option (List zSt)
  | [] => if E ∈ zcE ct ∧ X ≤ (zcK ct).2.2.1 ∧ Y ≤ (zcK ct).2.2.2 then some [] else none
  | f :: fs => match (z_cs.getD f.1 [])[f.2.1]?, z_hs[f.1]? with
    | some i, some hs => if i.1 = 54 then (match hs.find? (fun q => q.2.2.2.2.1 == E) with
      | some q => some [(env, me, (f.1, q.2.2.2.2.2.1, zdrop env f.2.2.1 q.2.2.2.2.2.2, []) :: fs, X, Y)]
      | none => if hs.isEmpty = true then zt_un ct env me X Y E fs else none) else none
    | _, _ => none
theorem zt_un_ok {E : Nat} (a1 : zRx ρ0 ρ) (a2 : zExt ty0 ty) (a3 : zTY tt ty h) (a4 : Ex ty h) (a5 : zFm (zcM ct) ty0 h0 h) (a6 : zEv ty ρ env) (a7 : zMm h ρ me) (a11 : X ≤ X9) (a12 : Y ≤ Y9) (hl : zTo tt Ex ct ty0 h0 ρ0 sx d0 Φ l) : ∀ (fs : List zAf) (cfs : List zCf), zFs ρ fs cfs → zt_un ct env me X9 Y9 E fs = some l → zKx sx d0 Φ cfs (.inr E) h X Y
  | [], [], _, hq => by
    rw [zt_un] at hq
    split at hq
    case isFalse => cases hq
    next hc =>
    exact hl.1 _ _ _ _ ⟨ty, a2, a3, a4, a5, hc.1, Nat.le_trans a11 hc.2.1, Nat.le_trans a12 hc.2.2⟩
  | f :: fs, c :: cfs, hf, hq => by
    rw [zt_un] at hq
    obtain ⟨b1, b2, b3, b4, b5⟩ := hf
    obtain ⟨cj, ck, clo, cst⟩ := c
    dsimp only at b1 b2 b3 b4
    split at hq
    case h_2 => cases hq
    next i hs hi hh =>
    rw [b1, b2] at hi
    rw [b1] at hh
    cases hC : z_cs[cj]? with
    | none => rw [List.getD_eq_getElem?_getD, hC] at hi; simp at hi
    | some cs =>
    rw [List.getD_eq_getElem?_getD, hC, Option.getD_some] at hi
    split at hq
    case isFalse => cases hq
    next h54 =>
    split at hq
    · next q hfd =>
      cases hq
      refine zKx.caught hC hh hi h54 hfd (hl.2 _ (List.mem_singleton.mpr rfl) _ h X Y ⟨ty, ρ, a1, a2, a3, a4, a5, a6, a7, ⟨b1, rfl, zdrop_ok a6 b3, trivial, b5⟩, a11, a12⟩)
    · split at hq
      case isFalse => cases hq
      next he =>
      have he2 : hs = [] := List.isEmpty_iff.mp he
      subst he2
      exact zKx.out hC hh hi h54 (zt_un_ok a1 a2 a3 a4 a5 a6 a7 a11 a12 hl fs cfs b5 hq)
noncomputable def zt_thr (ct : zCt) (i : zI) (env : List zEn) (me : List zMe) (stk : List Nat) (fs : List zAf) (X Y : Nat) : Option (List zSt) := if i.1 = 62 ∧ 6 ≤ zcD ct - fs.length ∧ zct env stk ≤ 8 then zt_un ct env me (X + 1) (Y + 6) i.2.1 fs else none
theorem zt_thr_ok (hd : zcD ct ≤ d0) (hM : z_ms[j]? = some M) (hC : z_cs[j]? = some cs) (hH : z_hs[j]? = some hs) (hi : cs[k]? = some i) (a1 : zRx ρ0 ρ) (a2 : zExt ty0 ty) (a3 : zTY tt ty h) (a4 : Ex ty h) (a5 : zFm (zcM ct) ty0 h0 h) (a6 : zEv ty ρ env) (a7 : zMm h ρ me) (a9 : zSk ρ stk st) (a10 : zFs ρ fs cfs) (a11 : X ≤ X9) (a12 : Y ≤ Y9)
    (hq : zt_thr ct i env me stk fs X9 Y9 = some l) (hl : zTo tt Ex ct ty0 h0 ρ0 sx d0 Φ l) : zGo sx d0 Φ ((j, k, lo, st) :: cfs) h X Y := by
  unfold zt_thr at hq
  split at hq
  case isFalse => cases hq
  next hc =>
  refine zGo.fin hM hC hH hi (o := .inr i.2.1) (x := 1) (y := 6) ?_ (zt_un_ok (X := 1 + X) (Y := 6 + Y) a1 a2 a3 a4 a5 a6 a7 (by omega) (by omega) hl fs cfs a10 hq)
  rw [z_fin62 hc.1]
  exact if_pos ⟨by rw [a10.len]; omega, by rw [zct_ok a6 a9]; exact hc.2.2⟩
end ZCTL
