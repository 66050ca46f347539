/-! contracts of methods, as data and as said -/
abbrev zCut : Type := Nat × List (Nat × zA) × List (Nat × Int × zA) × List (Nat × Nat × Int × Int)
abbrev zCt : Type := Nat × List zA × List zA × List Nat × List zMod × Nat × (Nat × Nat × Nat × Nat) × List zCut
noncomputable def zcJ (c : zCt) : Nat := c.1
noncomputable def zcA (c : zCt) : List zA := c.2.1
noncomputable def zcR (c : zCt) : List zA := c.2.2.1
noncomputable def zcE (c : zCt) : List Nat := c.2.2.2.1
noncomputable def zcM (c : zCt) : List zMod := c.2.2.2.2.1
noncomputable def zcD (c : zCt) : Nat := c.2.2.2.2.2.1
noncomputable def zcK (c : zCt) : Nat × Nat × Nat × Nat := c.2.2.2.2.2.2.1
noncomputable def zcC (c : zCt) : List zCut := c.2.2.2.2.2.2.2
noncomputable def zAg (ty : List Nat) : List zA → List Value → Prop
  | [], [] => True
  | a :: as, v :: vs => zG ty a v ∧ zAg ty as vs
  | _, _ => False
noncomputable def zRt (ty : List Nat) (ret : List zA) (v : Option Value) : Prop := match ret, v with
  | [], none => True
  | [a], some w => zG ty a w
  | _, _ => False
noncomputable def zPo (tt : Nat → zTy) (Ex : List Nat → zH → Prop) (c : zCt) (ty : List Nat) (h : zH) : zO → zH → Nat → Nat → Prop := fun o h' x y => ∃ ty', zExt ty ty' ∧ zTY tt ty' h' ∧ Ex ty' h' ∧ zFm (zcM c) ty h h' ∧ (match o with
  | .inl v => zRt ty' (zcR c) v ∧ x ≤ (zcK c).1 ∧ y ≤ (zcK c).2.1
  | .inr E => E ∈ zcE c ∧ x ≤ (zcK c).2.2.1 ∧ y ≤ (zcK c).2.2.2)
/-- the contract holds -/
noncomputable def zVd (tt : Nat → zTy) (Ex : List Nat → zH → Prop) (c : zCt) : Prop := ∀ (sx : zX) (d : Nat) (ty : List Nat) (h : zH) (as : List Value), zcD c ≤ d → zTY tt ty h → Ex ty h → zAg ty (zcA c) as → z_ok sx d (zcJ c) 0 (lv_args 0 as) [] h (zPo tt Ex c ty h)
/-! frames -/
noncomputable def zFs (ρ : List Value) : List zAf → List zCf → Prop
  | [], [] => True
  | f :: fs, c :: cs => f.1 = c.1 ∧ f.2.1 = c.2.1 ∧ zLo ρ f.2.2.1 c.2.2.1 ∧ zSk ρ f.2.2.2 c.2.2.2 ∧ zFs ρ fs cs
  | _, _ => False
theorem zFs.mono {ρ ρ' : List Value} (hx : zRx ρ ρ') : ∀ {fs : List zAf} {cs : List zCf}, zFs ρ fs cs → zFs ρ' fs cs
  | [], [], _ => trivial
  | _ :: _, _ :: _, h => ⟨h.1, h.2.1, h.2.2.1.mono hx, h.2.2.2.1.mono hx, zFs.mono hx h.2.2.2.2⟩
theorem zFs.len {ρ : List Value} : ∀ {fs : List zAf} {cs : List zCf}, zFs ρ fs cs → cs.length = fs.length
  | [], [], _ => rfl
  | _ :: _, _ :: _, h => by rw [List.length_cons, List.length_cons, zFs.len h.2.2.2.2]
theorem zSk.len {ρ : List Value} : ∀ {is : List Nat} {vs : List Value}, zSk ρ is vs → vs.length = is.length
  | [], [], _ => rfl
  | _ :: _, _ :: _, h => by rw [List.length_cons, List.length_cons, zSk.len h.2]
theorem zSk.take {ρ : List Value} : ∀ (n : Nat) {is : List Nat} {vs : List Value}, zSk ρ is vs → zSk ρ (is.take n) (vs.take n)
  | 0, _, _, _ => by rw [List.take_zero, List.take_zero]; trivial
  | n + 1, [], [], _ => trivial
  | n + 1, _ :: _, _ :: _, h => ⟨h.1, zSk.take n h.2⟩
theorem zSk.drop {ρ : List Value} : ∀ (n : Nat) {is : List Nat} {vs : List Value}, zSk ρ is vs → zSk ρ (is.drop n) (vs.drop n)
  | 0, _, _, h => h
  | n + 1, [], [], _ => trivial
  | n + 1, _ :: _, _ :: _, h => zSk.drop n h.2
theorem zSk.app {ρ : List Value} : ∀ {is js : List Nat} {vs ws : List Value}, zSk ρ is vs → zSk ρ js ws → zSk ρ (is ++ js) (vs ++ ws)
  | [], _, [], _, _, h => h
  | _ :: _, _, _ :: _, _, h, h2 => ⟨h.1, zSk.app h.2 h2⟩
theorem zSk.rev {ρ : List Value} : ∀ {is : List Nat} {vs : List Value}, zSk ρ is vs → zSk ρ is.reverse vs.reverse
  | [], [], _ => trivial
  | i :: is, v :: vs, h => by
    rw [List.reverse_cons, List.reverse_cons]
    exact (zSk.rev h.2).app ⟨h.1, trivial⟩
abbrev zSt : Type := List zEn × List zMe × List zAf × Nat × Nat
/-- a state of the checker and one of the machine -/
noncomputable def zRl (tt : Nat → zTy) (Ex : List Nat → zH → Prop) (c : zCt) (ty0 : List Nat) (h0 : zH) (ρ0 : List Value) (s : zSt) (cf : List zCf) (h : zH) (X Y : Nat) : Prop := ∃ (ty : List Nat) (ρ : List Value), zRx ρ0 ρ ∧ zExt ty0 ty ∧ zTY tt ty h ∧ Ex ty h ∧ zFm (zcM c) ty0 h0 h ∧ zEv ty ρ s.1 ∧ zMm h ρ s.2.1 ∧ zFs ρ s.2.2.1 cf ∧ X ≤ s.2.2.2.1 ∧ Y ≤ s.2.2.2.2
/-- what the checker's successors owe -/
noncomputable def zTo (tt : Nat → zTy) (Ex : List Nat → zH → Prop) (c : zCt) (ty0 : List Nat) (h0 : zH) (ρ0 : List Value) (sx : zX) (d0 : Nat) (Φ : zO → zH → Nat → Nat → Prop) (l : List zSt) : Prop := (∀ o h x y, zPo tt Ex c ty0 h0 o h x y → Φ o h x y) ∧ ∀ s ∈ l, ∀ (cf : List zCf) (h : zH) (X Y : Nat), zRl tt Ex c ty0 h0 ρ0 s cf h X Y → zGo sx d0 Φ cf h X Y
noncomputable def zStable (tt : Nat → zTy) (Ex : List Nat → zH → Prop) (ms : List zMod) : Prop := ∀ (ty : List Nat) (h h' : zH), zTY tt ty h → zTY tt ty h' → h.length = h'.length → zFm ms ty h h' → Ex ty h → Ex ty h'
theorem zTY.len {tt : Nat → zTy} {ty : List Nat} {h h' : zH} (T : zTY tt ty h) (T' : zTY tt ty h') : h.length = h'.length := by rw [← T.1, T'.1]
theorem zqs_no {o : Nat} (ho : o = 50 ∨ o = 51 ∨ o = 52 ∨ o = 53 ∨ o = 62 ∨ o = 54 ∨ o = 55 ∨ o = 72 ∨ o = 56 ∨ o = 73) : zqs.getD o zq_no = zq_no := by
  rcases ho with rfl | rfl | rfl | rfl | rfl | rfl | rfl | rfl | rfl | rfl <;> rfl
section ZSTEP
variable {tt : Nat → zTy} {Ex : List Nat → zH → Prop} {ct : zCt} {ty0 : List Nat} {h0 : zH} {ρ0 : List Value} {sx : zX} {d0 : Nat} {j k : Nat} {loc : zLs} {stk : List Nat} {fs : List zAf} {X9 Y9 X Y : Nat} {env : List zEn} {me : List zMe} {lo : zL} {st : List Value} {cfs : List zCf} {h : zH} {ty : List Nat} {ρ : List Value} {M : zMi} {cs : List zI} {hs : List zHd} {i : zI} {l : List zSt} {Φ : zO → zH → Nat → Nat → Prop}
/-- a plain step -/
noncomputable def zt_op (tt : Nat → zTy) (ct : zCt) (i : zI) (env : List zEn) (me : List zMe) (j k : Nat) (loc : zLs) (stk : List Nat) (fs : List zAf) (X Y : Nat) : Option (List zSt) := match (zqs.getD i.1 zq_no) tt (zcD ct - fs.length) (zcM ct) i.2.1 i.2.2.1 i.2.2.2 (env, me, loc, stk) with
  | some q => some [(q.1, q.2.1, (j, k + 1, q.2.2.1, q.2.2.2) :: fs, X, Y)]
  | none => none
theorem zt_op_ok (hst : zStable tt Ex (zcM ct)) (hd : zcD ct ≤ d0) (hM : z_ms[j]? = some M) (hC : z_cs[j]? = some cs) (hH : z_hs[j]? = some hs) (hi : cs[k]? = some i) (a1 : zRx ρ0 ρ) (a2 : zExt ty0 ty) (a3 : zTY tt ty h) (a4 : Ex ty h) (a5 : zFm (zcM ct) ty0 h0 h) (a6 : zEv ty ρ env) (a7 : zMm h ρ me) (a8 : zLo ρ loc lo) (a9 : zSk ρ stk st) (a10 : zFs ρ fs cfs) (a11 : X ≤ X9) (a12 : Y ≤ Y9)
    (hq : zt_op tt ct i env me j k loc stk fs X9 Y9 = some l) (hl : zTo tt Ex ct ty0 h0 ρ0 sx d0 Φ l) : zGo sx d0 Φ ((j, k, lo, st) :: cfs) h X Y := by
  unfold zt_op at hq
  split at hq
  case h_2 => cases hq
  next q hq1 =>
  cases hq
  have hno : ¬ (i.1 = 50 ∨ i.1 = 51 ∨ i.1 = 52 ∨ i.1 = 53 ∨ i.1 = 62 ∨ i.1 = 54 ∨ i.1 = 55 ∨ i.1 = 72 ∨ i.1 = 56 ∨ i.1 = 73) := fun h9 => by
    rw [zqs_no h9] at hq1; cases hq1
  obtain ⟨ρ', lo', st', h', ho, r1, r2, r3, r4, r5, r6, r7⟩ := zSd_all i.1 tt sx _ (d0 - cfs.length) _ _ _ _ k ty ρ _ q lo st h (by rw [a10.len]; omega) a3 a6 a7 a8 a9 hq1
  refine zGo.step hM hC hH hi (by omega) ho ?_
  refine hl.2 _ (List.mem_singleton.mpr rfl) _ h' X Y ⟨ty, ρ', a1.tr r1, a2, r2, hst ty h h' a3 r2 (a3.len r2) r7 a4, a5.tr a2 r7, r3, r4, ?_, a11, a12⟩
  exact ⟨rfl, rfl, r5, r6, a10.mono r1⟩
/-- a step that goes on elsewhere -/
theorem zt_jump {k' : Nat} {env' : List zEn} {loc' : zLs} {stk' : List Nat} {lo' : zL} {st' : List Value} {ρ' : List Value} (hM : z_ms[j]? = some M) (hC : z_cs[j]? = some cs) (hH : z_hs[j]? = some hs) (hi : cs[k]? = some i) (hn : i.1 ≠ 50 ∧ i.1 ≠ 51 ∧ i.1 ≠ 52 ∧ i.1 ≠ 53 ∧ i.1 ≠ 62 ∧ i.1 ≠ 54 ∧ i.1 ≠ 55 ∧ i.1 ≠ 72 ∧ i.1 ≠ 56 ∧ i.1 ≠ 73) (ho : (z_ops.getD i.1 z_no) sx (d0 - cfs.length) i.2.1 i.2.2.1 i.2.2.2 k lo st h = zn k' lo' st' h) (a1 : zRx ρ0 ρ) (a2 : zExt ty0 ty) (a3 : zTY tt ty h) (a4 : Ex ty h) (a5 : zFm (zcM ct) ty0 h0 h) (a7 : zMm h ρ me) (a10 : zFs ρ fs cfs) (a11 : X ≤ X9) (a12 : Y ≤ Y9)
    (r1 : zRx ρ ρ') (r3 : zEv ty ρ' env') (r5 : zLo ρ' loc' lo') (r6 : zSk ρ' stk' st') (hm : (env', me, (j, k', loc', stk') :: fs, X9, Y9) ∈ l) (hl : zTo tt Ex ct ty0 h0 ρ0 sx d0 Φ l) : zGo sx d0 Φ ((j, k, lo, st) :: cfs) h X Y := by
  refine zGo.step hM hC hH hi hn ho ?_
  exact hl.2 _ hm _ h X Y ⟨ty, ρ', a1.tr r1, a2, a3, a4, a5, r3, a7.mono r1, ⟨rfl, rfl, r5, r6, a10.mono r1⟩, a11, a12⟩
noncomputable def zt_br (b : Nat) (a : Nat) (env : List zEn) (me : List zMe) (j k : Nat) (loc : zLs) (x y : Nat) (stk : List Nat) (fs : List zAf) (X Y : Nat) : List zSt :=
  (match zcmp env b x y with
  | some e => [(e, me, (j, a, loc, stk) :: fs, X, Y)]
  | none => []) ++ (match zcmp env (zneg b) x y with
  | some e => [(e, me, (j, k + 1, loc, stk) :: fs, X, Y)]
  | none => [])
noncomputable def zt_if (i : zI) (env : List zEn) (me : List zMe) (j k : Nat) (loc : zLs) (stk : List Nat) (fs : List zAf) (X Y : Nat) : Option (List zSt) := match i.1, stk with
  | 30, _ => some [(env, me, (j, i.2.1, loc, stk) :: fs, X, Y)]
  | 31, x :: stk => if (zav env x).1 = 0 then some (zt_br i.2.2.1 i.2.1 (env ++ [((0, 0, 0), 0, 0)]) me j k loc x env.length stk fs X Y) else none
  | 32, y :: x :: stk => if (zav env x).1 = 0 ∧ (zav env y).1 = 0 then some (zt_br i.2.2.1 i.2.1 env me j k loc x y stk fs X Y) else none
  | 33, x :: stk => if zisR (zav env x) = true then some [(env, me, (j, i.2.1, loc, stk) :: fs, X, Y)] else if (zav env x).1 = 4 then some [(env, me, (j, k + 1, loc, stk) :: fs, X, Y)] else if (zav env x).1 = 3 then some [(env.set x ((2, (zav env x).2.1, (zav env x).2.2), 0, 0), me, (j, i.2.1, loc, stk) :: fs, X, Y), (env.set x ((4, 0, 0), 0, 0), me, (j, k + 1, loc, stk) :: fs, X, Y)] else none
  | _, _ => none
theorem zEv.set0 {e : zEn} {v : Value} {x : Nat} (E : zEv ty ρ env) (hx : ρ[x]? = some v) (hg : zG ty e.1 v) (h0 : e.2.1 = 0) : zEv ty ρ (env.set x e) := by
  refine ⟨by rw [List.length_set]; exact E.1, fun q e9 v9 hq hv => ?_⟩
  by_cases hqx : q = x
  · subst hqx
    obtain ⟨e8, he8, -⟩ := E.ex hx
    rw [List.getElem?_set_self (List.getElem?_eq_some_iff.mp he8).1] at hq
    cases hq
    rw [hx] at hv
    cases hv
    exact ⟨hg, fun b hb => by rw [h0] at hb; cases hb⟩
  · rw [List.getElem?_set_ne (fun z => hqx z.symm)] at hq
    exact E.2 q e9 v9 hq hv
theorem zt_if_ok (hM : z_ms[j]? = some M) (hC : z_cs[j]? = some cs) (hH : z_hs[j]? = some hs) (hi : cs[k]? = some i) (a1 : zRx ρ0 ρ) (a2 : zExt ty0 ty) (a3 : zTY tt ty h) (a4 : Ex ty h) (a5 : zFm (zcM ct) ty0 h0 h) (a6 : zEv ty ρ env) (a7 : zMm h ρ me) (a8 : zLo ρ loc lo) (a9 : zSk ρ stk st) (a10 : zFs ρ fs cfs) (a11 : X ≤ X9) (a12 : Y ≤ Y9)
    (hq : zt_if i env me j k loc stk fs X9 Y9 = some l) (hl : zTo tt Ex ct ty0 h0 ρ0 sx d0 Φ l) : zGo sx d0 Φ ((j, k, lo, st) :: cfs) h X Y := by
  unfold zt_if at hq
  split at hq
  · next hi1 =>
    cases hq
    exact zt_jump (ρ' := ρ) (k' := i.2.1) hM hC hH hi (by omega) (by rw [hi1]; rfl) a1 a2 a3 a4 a5 a7 a10 a11 a12 zRx.rf a6 a8 a9 (List.mem_singleton.mpr rfl) hl
  · next x stk hi1 =>
    match st, a9 with
    | v :: st, a9 =>
    split at hq
    case isFalse => cases hq
    next hz =>
    cases hq
    obtain ⟨u, rfl, u1, u2⟩ := zG0 (a6.at a9.1) hz
    have E' : zEv ty (ρ ++ [.int 0]) (env ++ [((0, 0, 0), 0, 0)]) := a6.push0 (a := (0, 0, 0)) (v := .int 0) ⟨0, rfl, by decide, by decide⟩
    have hop : ∀ k', (if z_cmp i.2.2.1 u 0 = true then i.2.1 else k + 1) = k' → (z_ops.getD i.1 z_no) sx (d0 - cfs.length) i.2.1 i.2.2.1 i.2.2.2 k lo (.int u :: st) h = zn k' lo st h := fun k' e => by rw [hi1, ← e]; rfl
    by_cases hcm : z_cmp i.2.2.1 u 0 = true
    · obtain ⟨e1, q1, E1⟩ := zcmp_ok E' (zRx.app _ _ a9.1) (a6.new (.int 0)) hcm
      refine zt_jump (ρ' := ρ ++ [.int 0]) (k' := i.2.1) hM hC hH hi (by omega) (hop _ (if_pos hcm)) a1 a2 a3 a4 a5 a7 a10 a11 a12 zRx.app E1 (a8.mono zRx.app) (a9.2.mono zRx.app) (List.mem_append_left _ ?_) hl
      rw [q1]
      exact List.mem_singleton.mpr rfl
    · obtain ⟨e1, q1, E1⟩ := zcmp_ok E' (zRx.app _ _ a9.1) (a6.new (.int 0)) (zneg_ok hcm)
      refine zt_jump (ρ' := ρ ++ [.int 0]) (k' := k + 1) hM hC hH hi (by omega) (hop _ (if_neg hcm)) a1 a2 a3 a4 a5 a7 a10 a11 a12 zRx.app E1 (a8.mono zRx.app) (a9.2.mono zRx.app) (List.mem_append_right _ ?_) hl
      rw [q1]
      exact List.mem_singleton.mpr rfl
  · next y x stk hi1 =>
    match st, a9 with
    | w :: v :: st, a9 =>
    split at hq
    case isFalse => cases hq
    next hz =>
    cases hq
    obtain ⟨u, rfl, u1, u2⟩ := zG0 (a6.at a9.2.1) hz.1
    obtain ⟨z, rfl, z1, z2⟩ := zG0 (a6.at a9.1) hz.2
    have hop : ∀ k', (if z_cmp i.2.2.1 u z = true then i.2.1 else k + 1) = k' → (z_ops.getD i.1 z_no) sx (d0 - cfs.length) i.2.1 i.2.2.1 i.2.2.2 k lo (.int z :: .int u :: st) h = zn k' lo st h := fun k' e => by rw [hi1, ← e]; rfl
    by_cases hcm : z_cmp i.2.2.1 u z = true
    · obtain ⟨e1, q1, E1⟩ := zcmp_ok a6 a9.2.1 a9.1 hcm
      refine zt_jump (ρ' := ρ) (k' := i.2.1) hM hC hH hi (by omega) (hop _ (if_pos hcm)) a1 a2 a3 a4 a5 a7 a10 a11 a12 zRx.rf E1 a8 a9.2.2 (List.mem_append_left _ ?_) hl
      rw [q1]
      exact List.mem_singleton.mpr rfl
    · obtain ⟨e1, q1, E1⟩ := zcmp_ok a6 a9.2.1 a9.1 (zneg_ok hcm)
      refine zt_jump (ρ' := ρ) (k' := k + 1) hM hC hH hi (by omega) (hop _ (if_neg hcm)) a1 a2 a3 a4 a5 a7 a10 a11 a12 zRx.rf E1 a8 a9.2.2 (List.mem_append_right _ ?_) hl
      rw [q1]
      exact List.mem_singleton.mpr rfl
  · next x stk hi1 =>
    match st, a9 with
    | v :: st, a9 =>
    split at hq
    · next hz =>
      cases hq
      obtain ⟨r, rfl⟩ := zGr (a6.at a9.1) hz
      exact zt_jump (ρ' := ρ) (k' := i.2.1) hM hC hH hi (by omega) (by rw [hi1]; rfl) a1 a2 a3 a4 a5 a7 a10 a11 a12 zRx.rf a6 a8 a9.2 (List.mem_singleton.mpr rfl) hl
    · split at hq
      · next hz =>
        cases hq
        have e := zG4 (a6.at a9.1) hz
        subst e
        exact zt_jump (ρ' := ρ) (k' := k + 1) hM hC hH hi (by omega) (by rw [hi1]; rfl) a1 a2 a3 a4 a5 a7 a10 a11 a12 zRx.rf a6 a8 a9.2 (List.mem_singleton.mpr rfl) hl
      · split at hq
        · next hz =>
          cases hq
          rcases zG3 (a6.at a9.1) hz with rfl | ⟨r, t, rfl, g1, g2, g3⟩
          · exact zt_jump (ρ' := ρ) (k' := k + 1) hM hC hH hi (by omega) (by rw [hi1]; rfl) a1 a2 a3 a4 a5 a7 a10 a11 a12 zRx.rf (a6.set0 (e := ((4, 0, 0), 0, 0)) a9.1 rfl rfl) a8 a9.2 (List.mem_cons_of_mem _ (List.mem_singleton.mpr rfl)) hl
          · exact zt_jump (ρ' := ρ) (k' := i.2.1) hM hC hH hi (by omega) (by rw [hi1]; rfl) a1 a2 a3 a4 a5 a7 a10 a11 a12 zRx.rf (a6.set0 (e := ((2, (zav env x).2.1, (zav env x).2.2), 0, 0)) a9.1 ⟨r, t, rfl, g1, g2, g3⟩ rfl) a8 a9.2 List.mem_cons_self hl
        · cases hq
  · cases hq
end ZSTEP
